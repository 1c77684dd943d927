def A_MD_count_L69 (σ : tMD) : Nat → Int32 → Int32 → Option (Int32)
  | 0, _, _ => none
  | n69 + 1, n, r => if (gMD_rows σ) ≤ r then (some n) else (if r < 0 ∨ 4000 ≤ r.toNatClampNeg then none else (if ((gMD_firstSame σ) r.toNatClampNeg) = r then (A_MD_count_L69 σ n69 (n + 1) (r + 1)) else (A_MD_count_L69 σ n69 (n + 0) (r + 1))))
def A_MD_count (σ : tMD) (what : Int32) : Option (Int32) := if what = 0 then (some (gMD_statements σ)) else (if what = 1 then (some (gMD_mandatoryCount σ)) else (if what = 2 then (some (gMD_rows σ)) else (if what = 3 then (some (gMD_piled σ)) else (if what = 4 then (some (gMD_puts σ)) else (if what = 5 then (A_MD_count_L69 σ fuelM 0 0) else (some (-1)))))))
set_option maxHeartbeats 4000000 in
set_option maxRecDepth 100000 in
theorem c_MD_count (l : Launch) (G : pG) (h0 : Nat) (σ : tMD) (what : Int32) (H : Heap) (w : va_W) (hP0 : va_P G.1 vwCl w H) (hσ : pMD G h0 σ w) (res : Int32) (hr0 : A_MD_count σ what = some res) : MRi l y_MD_count w_MD_count 0 0 G [.ref h0, .int what] H res := by
  refine Met.ofW (cc := b_MD_count) (maxL := 4) (ret := (some .int)) (by decide) rfl ?_
  intro p e s m args below meth c s₁ B hml hv
  obtain ⟨rfl, rfl, hK⟩ := hv
  have hx := B.exec
  have hb := B.bytes
  have hr := B.returns
  have hts0 := atoms_spec (ws := w_MD_count) B.pre
  have hts := fun w (h : w ∈ lw_g) => hts0 w (List.mem_cons_of_mem _ h)
  have hown : s.vm.findClass RMD = some m.cls := findClass_of_methodNamed B.named
  have hlocks := B.notSynchronized
  have hσ0 := hσ
  obtain ⟨q1, q2, q3, q4, q5, q6, q7, q8, q9, q10, q11, q12, q13, q14, q15, q16, q17, q18, rfl⟩ := hσ
  have hP := hP0
  obtain ⟨A, hAe⟩ : ∃ A : Nat → Prop, A = fun _ => False := ⟨_, rfl⟩
  rw [← hAe]
  have hS : va_S A s.heap s.heap [] := va_S.rf
  have hl := lv_entry ([.ref h0, .int what]) (n := 4) (Nat.le_of_ble_eq_true rfl)
  rw [lg_entry_eq]
  generalize (lg_sl ([.ref h0, .int what]) ++ List.replicate (4 - (lg_sl ([.ref h0, .int what])).length) Slot.unset).toArray = ls at hl ⊢
  have hl : lv_has ls 4 [(0, .ref h0), (1, .int what)] := hl
  unfold A_MD_count at hr0
  refine lv_iload_n hx hb d_MD_count_0 rfl (lv_at hl 1 rfl) ?_
  by_cases c19 : what = 0
  · have hr0 := ai_pos c19 hr0
    refine lv_tableIn (off := 39) (tgt := 40) hx hb d_MD_count_1 (by rw [c19]; decide) (by rw [c19]; decide) (by rw [c19]; rfl) (by decide) ?_
    refine lv_aload_n hx hb d_MD_count_40 rfl (lv_at hl 0 rfl) ?_
    refine va_get (D := G.1) (ci := 6) (v := .int (gMD_statements σ)) (C := RMD) (T := TMD) (N := 28) hx hb hts inMD hown hK hP 0 rfl rfl 0 (by decide) (hts _ fl_MD_67) (fun _ h9 => h9) rfl d_MD_count_41 ?_
    have hr0 := Option.some.inj hr0
    exact W.iret (v := (gMD_statements σ)) hx hb hr (fun t ht hW => ⟨⟨(gMD_statements σ), (), rfl, hr0, ht⟩, hS.F ht⟩) hS.2.2 d_MD_count_44
  have hr0 := ai_neg c19 hr0
  by_cases c20 : what = 1
  · have hr0 := ai_pos c20 hr0
    refine lv_tableIn (off := 44) (tgt := 45) hx hb d_MD_count_1 (by rw [c20]; decide) (by rw [c20]; decide) (by rw [c20]; rfl) (by decide) ?_
    refine lv_aload_n hx hb d_MD_count_45 rfl (lv_at hl 0 rfl) ?_
    refine va_get (D := G.1) (ci := 6) (v := .int (gMD_mandatoryCount σ)) (C := RMD) (T := TMD) (N := 28) hx hb hts inMD hown hK hP 0 rfl rfl 3 (by decide) (hts _ fl_MD_71) (fun _ h9 => h9) rfl d_MD_count_46 ?_
    have hr0 := Option.some.inj hr0
    exact W.iret (v := (gMD_mandatoryCount σ)) hx hb hr (fun t ht hW => ⟨⟨(gMD_mandatoryCount σ), (), rfl, hr0, ht⟩, hS.F ht⟩) hS.2.2 d_MD_count_49
  have hr0 := ai_neg c20 hr0
  by_cases c21 : what = 2
  · have hr0 := ai_pos c21 hr0
    refine lv_tableIn (off := 49) (tgt := 50) hx hb d_MD_count_1 (by rw [c21]; decide) (by rw [c21]; decide) (by rw [c21]; rfl) (by decide) ?_
    refine lv_aload_n hx hb d_MD_count_50 rfl (lv_at hl 0 rfl) ?_
    refine va_get (D := G.1) (ci := 6) (v := .int (gMD_rows σ)) (C := RMD) (T := TMD) (N := 28) hx hb hts inMD hown hK hP 0 rfl rfl 4 (by decide) (hts _ fl_MD_93) (fun _ h9 => h9) rfl d_MD_count_51 ?_
    have hr0 := Option.some.inj hr0
    exact W.iret (v := (gMD_rows σ)) hx hb hr (fun t ht hW => ⟨⟨(gMD_rows σ), (), rfl, hr0, ht⟩, hS.F ht⟩) hS.2.2 d_MD_count_54
  have hr0 := ai_neg c21 hr0
  by_cases c22 : what = 3
  · have hr0 := ai_pos c22 hr0
    refine lv_tableIn (off := 54) (tgt := 55) hx hb d_MD_count_1 (by rw [c22]; decide) (by rw [c22]; decide) (by rw [c22]; rfl) (by decide) ?_
    refine lv_aload_n hx hb d_MD_count_55 rfl (lv_at hl 0 rfl) ?_
    refine va_get (D := G.1) (ci := 6) (v := .int (gMD_piled σ)) (C := RMD) (T := TMD) (N := 28) hx hb hts inMD hown hK hP 0 rfl rfl 12 (by decide) (hts _ fl_MD_90) (fun _ h9 => h9) rfl d_MD_count_56 ?_
    have hr0 := Option.some.inj hr0
    exact W.iret (v := (gMD_piled σ)) hx hb hr (fun t ht hW => ⟨⟨(gMD_piled σ), (), rfl, hr0, ht⟩, hS.F ht⟩) hS.2.2 d_MD_count_59
  have hr0 := ai_neg c22 hr0
  by_cases c23 : what = 4
  · have hr0 := ai_pos c23 hr0
    refine lv_tableIn (off := 59) (tgt := 60) hx hb d_MD_count_1 (by rw [c23]; decide) (by rw [c23]; decide) (by rw [c23]; rfl) (by decide) ?_
    refine lv_aload_n hx hb d_MD_count_60 rfl (lv_at hl 0 rfl) ?_
    refine va_get (D := G.1) (ci := 6) (v := .int (gMD_puts σ)) (C := RMD) (T := TMD) (N := 28) hx hb hts inMD hown hK hP 0 rfl rfl 13 (by decide) (hts _ fl_MD_96) (fun _ h9 => h9) rfl d_MD_count_61 ?_
    have hr0 := Option.some.inj hr0
    exact W.iret (v := (gMD_puts σ)) hx hb hr (fun t ht hW => ⟨⟨(gMD_puts σ), (), rfl, hr0, ht⟩, hS.F ht⟩) hS.2.2 d_MD_count_64
  have hr0 := ai_neg c23 hr0
  by_cases c24 : what = 5
  · have hr0 := ai_pos c24 hr0
    refine lv_tableIn (off := 64) (tgt := 65) hx hb d_MD_count_1 (by rw [c24]; decide) (by rw [c24]; decide) (by rw [c24]; rfl) (by decide) ?_
    refine lv_iconst (v := 0) hx hb d_MD_count_65 (by decide) ?_
    refine lv_istore_n (lv' := [(2, .int 0), (0, .ref h0), (1, .int what)]) hx hb d_MD_count_66 rfl hl (by decide) rfl (fun ls hl => ?_)
    refine lv_iconst (v := 0) hx hb d_MD_count_67 (by decide) ?_
    refine lv_istore_n (lv' := [(3, .int 0), (2, .int 0), (0, .ref h0), (1, .int what)]) hx hb d_MD_count_68 rfl hl (by decide) rfl (fun ls hl => ?_)
    refine lp_R (I := fun n69 locs ls => ∃ (n : Int32) (r : Int32), va_S A s.heap s.heap locs ∧ lv_has ls 4 [(0, .ref h0), (2, .int n), (3, .int r)] ∧ A_MD_count_L69 σ n69 n r = some res) ?_ ?_ fuelM _ _ ⟨0, 0, hS, lv_sub hl [2, 1, 0] rfl, hr0⟩
    · intro n69 ih69 locs ls ⟨n, r, hS, hl, hr0⟩
      rw [A_MD_count_L69] at hr0
      refine lv_iload_n hx hb d_MD_count_69 rfl (lv_at hl 2 rfl) ?_
      refine lv_aload_n hx hb d_MD_count_70 rfl (lv_at hl 0 rfl) ?_
      refine va_get (D := G.1) (ci := 6) (v := .int (gMD_rows σ)) (C := RMD) (T := TMD) (N := 28) hx hb hts inMD hown hK hP 0 rfl rfl 4 (by decide) (hts _ fl_MD_93) (fun _ h9 => h9) rfl d_MD_count_71 ?_
      refine lv_icmp_ge (tgt := 101) hx hb d_MD_count_74 (by decide) (fun c25 => ?_) (fun c25 => ?_)
      · have hr0 := ai_pos c25 hr0
        refine lv_iload_n hx hb d_MD_count_101 rfl (lv_at hl 1 rfl) ?_
        have hr0 := Option.some.inj hr0
        exact W.iret (v := n) hx hb hr (fun t ht hW => ⟨⟨n, (), rfl, hr0, ht⟩, hS.F ht⟩) hS.2.2 d_MD_count_102
      · have hr0 := ai_neg c25 hr0
        refine lv_iload_n hx hb d_MD_count_77 rfl (lv_at hl 1 rfl) ?_
        refine lv_aload_n hx hb d_MD_count_78 rfl (lv_at hl 0 rfl) ?_
        refine va_get (D := G.1) (ci := 6) (v := .ref q5) (C := RMD) (T := TMD) (N := 28) hx hb hts inMD hown hK hP 0 rfl rfl 7 (by decide) (hts _ fl_MD_22) (fun _ h9 => h9) rfl d_MD_count_79 ?_
        refine lv_iload_n hx hb d_MD_count_82 rfl (lv_at hl 2 rfl) ?_
        have c26 := og_n hr0
        have hr0 := og_e hr0
        refine va_iald hx hb hK hP 5 0 rfl rfl (c26) d_MD_count_83 ?_
        refine lv_iload_n hx hb d_MD_count_84 rfl (lv_at hl 2 rfl) ?_
        refine lv_icmp_ne (tgt := 92) hx hb d_MD_count_85 (by decide) (fun c27 => ?_) (fun c27 => ?_)
        · have hr0 := ai_neg c27 hr0
          refine lv_iconst (v := 0) hx hb d_MD_count_92 (by decide) ?_
          refine lv_iadd hx hb d_MD_count_93 ?_
          refine lv_istore_n (lv' := [(2, .int (n + 0)), (0, .ref h0), (3, .int r)]) hx hb d_MD_count_94 rfl hl (by decide) rfl (fun ls hl => ?_)
          refine lv_iinc (v := r + 1) (lv' := [(3, .int (r + 1)), (2, .int (n + 0)), (0, .ref h0)]) hx hb d_MD_count_95 hl (k := 2) rfl rfl (by decide) rfl (fun ls hl => ?_)
          refine lv_goto (tgt := 69) hx hb d_MD_count_98 (by decide) ?_
          exact ih69 _ _ ⟨(n + 0), (r + 1), hS, lv_sub hl [2, 1, 0] rfl, hr0⟩
        · have hr0 := ai_pos c27 hr0
          refine lv_iconst (v := 1) hx hb d_MD_count_88 (by decide) ?_
          refine lv_goto (tgt := 93) hx hb d_MD_count_89 (by decide) ?_
          refine lv_iadd hx hb d_MD_count_93 ?_
          refine lv_istore_n (lv' := [(2, .int (n + 1)), (0, .ref h0), (3, .int r)]) hx hb d_MD_count_94 rfl hl (by decide) rfl (fun ls hl => ?_)
          refine lv_iinc (v := r + 1) (lv' := [(3, .int (r + 1)), (2, .int (n + 1)), (0, .ref h0)]) hx hb d_MD_count_95 hl (k := 2) rfl rfl (by decide) rfl (fun ls hl => ?_)
          refine lv_goto (tgt := 69) hx hb d_MD_count_98 (by decide) ?_
          exact ih69 _ _ ⟨(n + 1), (r + 1), hS, lv_sub hl [2, 1, 0] rfl, hr0⟩
    · rintro locs ls ⟨_, _, -, -, hz⟩; cases hz
  have hr0 := ai_neg c24 hr0
  refine lv_tableOut (tgt := 103) hx hb d_MD_count_1 (sw_out (n := 5) (fun k hk9 => by rcases (show k = 0 ∨ k = 1 ∨ k = 2 ∨ k = 3 ∨ k = 4 ∨ k = 5 by omega) with rfl | rfl | rfl | rfl | rfl | rfl <;> assumption)) (by decide) ?_
  refine lv_iconst (v := (-1)) hx hb d_MD_count_103 (by decide) ?_
  have hr0 := Option.some.inj hr0
  exact W.iret (v := (-1)) hx hb hr (fun t ht hW => ⟨⟨(-1), (), rfl, hr0, ht⟩, hS.F ht⟩) hS.2.2 d_MD_count_104

def A_MD_full_L67 (σ : tMD) (here : Int32) (rec45 : Int32 → Int64 → Option (Int32)) : Nat → Int64 → Int32 → Option (Int32)
  | 0, _, _ => none
  | n67 + 1, rest2, i => if i < 0 ∨ 20100 ≤ i.toNatClampNeg then none else (if ((gMD_froms σ) i.toNatClampNeg) < 0 ∨ 4000 ≤ ((gMD_froms σ) i.toNatClampNeg).toNatClampNeg then none else (if (lg_cmp rest2 ((gMD_sizes σ) ((gMD_froms σ) i.toNatClampNeg).toNatClampNeg)) < 0 then (if i < 0 ∨ 20100 ≤ i.toNatClampNeg then none else (rec45 ((gMD_froms σ) i.toNatClampNeg) rest2)) else (if i < 0 ∨ 20100 ≤ i.toNatClampNeg then none else (if ((gMD_froms σ) i.toNatClampNeg) < 0 ∨ 4000 ≤ ((gMD_froms σ) i.toNatClampNeg).toNatClampNeg then none else (A_MD_full_L67 σ here rec45 n67 (rest2 - ((gMD_sizes σ) ((gMD_froms σ) i.toNatClampNeg).toNatClampNeg)) (i + 1))))))
def A_MD_full_L45 (σ : tMD) : Nat → Int32 → Int64 → Option (Int32)
  | 0, _, _ => none
  | n45 + 1, here, rest => if here < 0 ∨ 4000 ≤ here.toNatClampNeg then none else (if 0 ≤ (lg_cmp rest (((gMD_sizes σ) here.toNatClampNeg) - 1)) then (if here < 0 ∨ 4000 ≤ here.toNatClampNeg then none else (some ((gMD_makers σ) here.toNatClampNeg))) else (if here < 0 ∨ 4000 ≤ here.toNatClampNeg then none else (A_MD_full_L67 σ here (A_MD_full_L45 σ n45) fuelM rest ((gMD_fromAt σ) here.toNatClampNeg))))
def A_MD_full (σ : tMD) (r : Int32) (k : Int32) : Option (Int32) := if (A_MD_isRow σ r) = 0 then (some (-1)) else (if r < 0 ∨ 4000 ≤ r.toNatClampNeg then none else (if 0 < (lg_cmp ((gMD_sizes σ) r.toNatClampNeg) 4000) then (some (-1)) else (if k < 0 then (some (-1)) else (if r < 0 ∨ 4000 ≤ r.toNatClampNeg then none else (if (lg_cmp k.toInt64 ((gMD_sizes σ) r.toNatClampNeg)) < 0 then (A_MD_full_L45 σ fuelM r k.toInt64) else (some (-1)))))))
set_option maxHeartbeats 4000000 in
set_option maxRecDepth 100000 in
theorem c_MD_full (l : Launch) (G : pG) (h0 : Nat) (σ : tMD) (r : Int32) (k : Int32) (H : Heap) (w : va_W) (hP0 : va_P G.1 vwCl w H) (hσ : pMD G h0 σ w) (res : Int32) (hr0 : A_MD_full σ r k = some res) : MRi l y_MD_full w_MD_full 1 21 G [.ref h0, .int r, .int k] H res := by
  refine Met.ofW (cc := b_MD_full) (maxL := 7) (ret := (some .int)) (by decide) rfl ?_
  intro p e s m args below meth c s₁ B hml hv
  obtain ⟨rfl, rfl, hK⟩ := hv
  have hx := B.exec
  have hb := B.bytes
  have hr := B.returns
  have hts0 := atoms_spec (ws := w_MD_full) B.pre
  have hts := fun w (h : w ∈ lw_g) => hts0 w (List.mem_cons_of_mem _ h)
  have hown : s.vm.findClass RMD = some m.cls := findClass_of_methodNamed B.named
  have hlocks := B.notSynchronized
  have hσ0 := hσ
  obtain ⟨q1, q2, q3, q4, q5, q6, q7, q8, q9, q10, q11, q12, q13, q14, q15, q16, q17, q18, rfl⟩ := hσ
  have hP := hP0
  obtain ⟨A, hAe⟩ : ∃ A : Nat → Prop, A = fun _ => False := ⟨_, rfl⟩
  rw [← hAe]
  have hS : va_S A s.heap s.heap [] := va_S.rf
  have hl := lv_entry ([.ref h0, .int r, .int k]) (n := 7) (Nat.le_of_ble_eq_true rfl)
  rw [lg_entry_eq]
  generalize (lg_sl ([.ref h0, .int r, .int k]) ++ List.replicate (7 - (lg_sl ([.ref h0, .int r, .int k])).length) Slot.unset).toArray = ls at hl ⊢
  have hl : lv_has ls 7 [(0, .ref h0), (1, .int r), (2, .int k)] := hl
  unfold A_MD_full at hr0
  refine lv_aload_n hx hb d_MD_full_0 rfl (lv_at hl 0 rfl) ?_
  refine lv_iload_n hx hb d_MD_full_1 rfl (lv_at hl 1 rfl) ?_
  refine rdV (G := G) (As := [.int r]) (rest := []) (C := RMD) ⟨hx, hb, hml, hown, hts⟩ (c_MD_isRow l G h0 σ r _ _ hP0 hσ0 _ rfl) (cwV 1 hts (gd_V ml_MD_109 im_MD_isRow sl_MD_isRow ini_MD k_MD_isRow) rfl rmK_c rmK_s (by decide +kernel) ⟨Nat.le_of_ble_eq_true rfl, Nat.le_of_ble_eq_true rfl⟩) hK (pMD_recv hK hP0 hσ0) hS ⟨Nat.le_refl _, Nat.le_refl _⟩ rfl hl.1 (Nat.le_of_ble_eq_true rfl) d_MD_full_2 (fun locs hS => ?_)
  refine lv_if_eq (tgt := 37) hx hb d_MD_full_5 (by decide) (fun c19 => ?_) (fun c19 => ?_)
  · have hr0 := ai_pos c19 hr0
    refine lv_iconst (v := (-1)) hx hb d_MD_full_37 (by decide) ?_
    have hr0 := Option.some.inj hr0
    exact W.iret (v := (-1)) hx hb hr (fun t ht hW => ⟨⟨(-1), (), rfl, hr0, ht⟩, hS.F ht⟩) hS.2.2 d_MD_full_38
  · have hr0 := ai_neg c19 hr0
    refine lv_aload_n hx hb d_MD_full_8 rfl (lv_at hl 0 rfl) ?_
    refine va_get (D := G.1) (ci := 6) (v := .ref q6) (C := RMD) (T := TMD) (N := 28) hx hb hts inMD hown hK hP 0 rfl rfl 8 (by decide) (hts _ fl_MD_25) (fun _ h9 => h9) rfl d_MD_full_9 ?_
    refine lv_iload_n hx hb d_MD_full_12 rfl (lv_at hl 1 rfl) ?_
    have c20 := og_n hr0
    have hr0 := og_e hr0
    refine va_lald hx hb hK hP 6 1 rfl rfl (c20) d_MD_full_13 ?_
    refine lv_ldc2 (v := 4000) hx hb hown (hts _ cl2_MD_154) d_MD_full_14 ?_
    refine W.lcmp hx hb d_MD_full_17 ?_
    refine lv_if_gt (tgt := 37) hx hb d_MD_full_18 (by decide) (fun c21 => ?_) (fun c21 => ?_)
    · have hr0 := ai_pos c21 hr0
      refine lv_iconst (v := (-1)) hx hb d_MD_full_37 (by decide) ?_
      have hr0 := Option.some.inj hr0
      exact W.iret (v := (-1)) hx hb hr (fun t ht hW => ⟨⟨(-1), (), rfl, hr0, ht⟩, hS.F ht⟩) hS.2.2 d_MD_full_38
    · have hr0 := ai_neg c21 hr0
      refine lv_iload_n hx hb d_MD_full_21 rfl (lv_at hl 2 rfl) ?_
      refine lv_if_lt (tgt := 37) hx hb d_MD_full_22 (by decide) (fun c22 => ?_) (fun c22 => ?_)
      · have hr0 := ai_pos c22 hr0
        refine lv_iconst (v := (-1)) hx hb d_MD_full_37 (by decide) ?_
        have hr0 := Option.some.inj hr0
        exact W.iret (v := (-1)) hx hb hr (fun t ht hW => ⟨⟨(-1), (), rfl, hr0, ht⟩, hS.F ht⟩) hS.2.2 d_MD_full_38
      · have hr0 := ai_neg c22 hr0
        refine lv_iload_n hx hb d_MD_full_25 rfl (lv_at hl 2 rfl) ?_
        refine lv_i2l (v := k.toInt64) hx hb d_MD_full_26 rfl ?_
        refine lv_aload_n hx hb d_MD_full_27 rfl (lv_at hl 0 rfl) ?_
        refine va_get (D := G.1) (ci := 6) (v := .ref q6) (C := RMD) (T := TMD) (N := 28) hx hb hts inMD hown hK hP 0 rfl rfl 8 (by decide) (hts _ fl_MD_25) (fun _ h9 => h9) rfl d_MD_full_28 ?_
        refine lv_iload_n hx hb d_MD_full_31 rfl (lv_at hl 1 rfl) ?_
        have c23 := og_n hr0
        have hr0 := og_e hr0
        refine va_lald hx hb hK hP 6 1 rfl rfl (c23) d_MD_full_32 ?_
        refine W.lcmp hx hb d_MD_full_33 ?_
        refine lv_if_lt (tgt := 39) hx hb d_MD_full_34 (by decide) (fun c24 => ?_) (fun c24 => ?_)
        · have hr0 := ai_pos c24 hr0
          refine lv_iload_n hx hb d_MD_full_39 rfl (lv_at hl 1 rfl) ?_
          refine lv_istore_n (lv' := [(3, .int r), (0, .ref h0), (1, .int r), (2, .int k)]) hx hb d_MD_full_40 rfl hl (by decide) rfl (fun ls hl => ?_)
          refine lv_iload_n hx hb d_MD_full_41 rfl (lv_at hl 3 rfl) ?_
          refine lv_i2l (v := k.toInt64) hx hb d_MD_full_42 rfl ?_
          refine lv_lstore (lv' := [(4, .long k.toInt64), (3, .int r), (0, .ref h0), (1, .int r), (2, .int k)]) hx hb d_MD_full_43 hl (by decide) rfl (fun ls hl => ?_)
          refine lp_R (I := fun n45 locs ls => ∃ (here : Int32) (rest : Int64), va_S A s.heap s.heap locs ∧ lv_has ls 7 [(0, .ref h0), (3, .int here), (4, .long rest)] ∧ A_MD_full_L45 σ n45 here rest = some res) ?_ ?_ fuelM _ _ ⟨r, k.toInt64, hS, lv_sub hl [2, 1, 0] rfl, hr0⟩
          · intro n45 ih45 locs ls ⟨here, rest, hS, hl, hr0⟩
            rw [A_MD_full_L45] at hr0
            refine lv_lload hx hb d_MD_full_45 (lv_at hl 2 rfl) ?_
            refine lv_aload_n hx hb d_MD_full_47 rfl (lv_at hl 0 rfl) ?_
            refine va_get (D := G.1) (ci := 6) (v := .ref q6) (C := RMD) (T := TMD) (N := 28) hx hb hts inMD hown hK hP 0 rfl rfl 8 (by decide) (hts _ fl_MD_25) (fun _ h9 => h9) rfl d_MD_full_48 ?_
            refine lv_iload_n hx hb d_MD_full_51 rfl (lv_at hl 1 rfl) ?_
            have c25 := og_n hr0
            have hr0 := og_e hr0
            refine va_lald hx hb hK hP 6 1 rfl rfl (c25) d_MD_full_52 ?_
            refine lv_lconst (v := 1) hx hb d_MD_full_53 (by decide) ?_
            refine lv_lsub hx hb d_MD_full_54 ?_
            refine W.lcmp hx hb d_MD_full_55 ?_
            refine lv_if_ge (tgt := 119) hx hb d_MD_full_56 (by decide) (fun c26 => ?_) (fun c26 => ?_)
            · have hr0 := ai_pos c26 hr0
              refine lv_aload_n hx hb d_MD_full_119 rfl (lv_at hl 0 rfl) ?_
              refine va_get (D := G.1) (ci := 6) (v := .ref q3) (C := RMD) (T := TMD) (N := 28) hx hb hts inMD hown hK hP 0 rfl rfl 5 (by decide) (hts _ fl_MD_16) (fun _ h9 => h9) rfl d_MD_full_120 ?_
              refine lv_iload_n hx hb d_MD_full_123 rfl (lv_at hl 1 rfl) ?_
              have c27 := og_n hr0
              have hr0 := og_e hr0
              refine va_iald hx hb hK hP 3 0 rfl rfl (c27) d_MD_full_124 ?_
              have hr0 := Option.some.inj hr0
              exact W.iret (v := ((gMD_makers σ) here.toNatClampNeg)) hx hb hr (fun t ht hW => ⟨⟨((gMD_makers σ) here.toNatClampNeg), (), rfl, hr0, ht⟩, hS.F ht⟩) hS.2.2 d_MD_full_125
            · have hr0 := ai_neg c26 hr0
              refine lv_aload_n hx hb d_MD_full_59 rfl (lv_at hl 0 rfl) ?_
              refine va_get (D := G.1) (ci := 6) (v := .ref q4) (C := RMD) (T := TMD) (N := 28) hx hb hts inMD hown hK hP 0 rfl rfl 6 (by decide) (hts _ fl_MD_19) (fun _ h9 => h9) rfl d_MD_full_60 ?_
              refine lv_iload_n hx hb d_MD_full_63 rfl (lv_at hl 1 rfl) ?_
              have c28 := og_n hr0
              have hr0 := og_e hr0
              refine va_iald hx hb hK hP 4 0 rfl rfl (c28) d_MD_full_64 ?_
              refine lv_istore (lv' := [(6, .int ((gMD_fromAt σ) here.toNatClampNeg)), (0, .ref h0), (3, .int here), (4, .long rest)]) hx hb d_MD_full_65 hl (by decide) rfl (fun ls hl => ?_)
              refine lp_R (I := fun n67 locs ls => ∃ (rest2 : Int64) (i : Int32), va_S A s.heap s.heap locs ∧ lv_has ls 7 [(0, .ref h0), (3, .int here), (4, .long rest2), (6, .int i)] ∧ A_MD_full_L67 σ here (A_MD_full_L45 σ n45) n67 rest2 i = some res) ?_ ?_ fuelM _ _ ⟨rest, ((gMD_fromAt σ) here.toNatClampNeg), hS, lv_sub hl [1, 2, 3, 0] rfl, hr0⟩
              · intro n67 ih67 locs ls ⟨rest2, i, hS, hl, hr0⟩
                rw [A_MD_full_L67] at hr0
                refine lv_lload hx hb d_MD_full_67 (lv_at hl 2 rfl) ?_
                refine lv_aload_n hx hb d_MD_full_69 rfl (lv_at hl 0 rfl) ?_
                refine va_get (D := G.1) (ci := 6) (v := .ref q6) (C := RMD) (T := TMD) (N := 28) hx hb hts inMD hown hK hP 0 rfl rfl 8 (by decide) (hts _ fl_MD_25) (fun _ h9 => h9) rfl d_MD_full_70 ?_
                refine lv_aload_n hx hb d_MD_full_73 rfl (lv_at hl 0 rfl) ?_
                refine va_get (D := G.1) (ci := 6) (v := .ref q7) (C := RMD) (T := TMD) (N := 28) hx hb hts inMD hown hK hP 0 rfl rfl 9 (by decide) (hts _ fl_MD_29) (fun _ h9 => h9) rfl d_MD_full_74 ?_
                refine lv_iload hx hb d_MD_full_77 (lv_at hl 3 rfl) ?_
                have c29 := og_n hr0
                have hr0 := og_e hr0
                refine va_iald hx hb hK hP 7 0 rfl rfl (c29) d_MD_full_79 ?_
                have c30 := og_n hr0
                have hr0 := og_e hr0
                refine va_lald hx hb hK hP 6 1 rfl rfl (c30) d_MD_full_80 ?_
                refine W.lcmp hx hb d_MD_full_81 ?_
                refine lv_if_lt (tgt := 108) hx hb d_MD_full_82 (by decide) (fun c31 => ?_) (fun c31 => ?_)
                · have hr0 := ai_pos c31 hr0
                  refine lv_aload_n hx hb d_MD_full_108 rfl (lv_at hl 0 rfl) ?_
                  refine va_get (D := G.1) (ci := 6) (v := .ref q7) (C := RMD) (T := TMD) (N := 28) hx hb hts inMD hown hK hP 0 rfl rfl 9 (by decide) (hts _ fl_MD_29) (fun _ h9 => h9) rfl d_MD_full_109 ?_
                  refine lv_iload hx hb d_MD_full_112 (lv_at hl 3 rfl) ?_
                  have c32 := og_n hr0
                  have hr0 := og_e hr0
                  refine va_iald hx hb hK hP 7 0 rfl rfl (c32) d_MD_full_114 ?_
                  refine lv_istore_n (lv' := [(3, .int ((gMD_froms σ) i.toNatClampNeg)), (0, .ref h0), (4, .long rest2), (6, .int i)]) hx hb d_MD_full_115 rfl hl (by decide) rfl (fun ls hl => ?_)
                  refine lv_goto (tgt := 45) hx hb d_MD_full_116 (by decide) ?_
                  exact ih45 _ _ ⟨((gMD_froms σ) i.toNatClampNeg), rest2, hS, lv_sub hl [1, 0, 2] rfl, hr0⟩
                · have hr0 := ai_neg c31 hr0
                  refine lv_lload hx hb d_MD_full_85 (lv_at hl 2 rfl) ?_
                  refine lv_aload_n hx hb d_MD_full_87 rfl (lv_at hl 0 rfl) ?_
                  refine va_get (D := G.1) (ci := 6) (v := .ref q6) (C := RMD) (T := TMD) (N := 28) hx hb hts inMD hown hK hP 0 rfl rfl 8 (by decide) (hts _ fl_MD_25) (fun _ h9 => h9) rfl d_MD_full_88 ?_
                  refine lv_aload_n hx hb d_MD_full_91 rfl (lv_at hl 0 rfl) ?_
                  refine va_get (D := G.1) (ci := 6) (v := .ref q7) (C := RMD) (T := TMD) (N := 28) hx hb hts inMD hown hK hP 0 rfl rfl 9 (by decide) (hts _ fl_MD_29) (fun _ h9 => h9) rfl d_MD_full_92 ?_
                  refine lv_iload hx hb d_MD_full_95 (lv_at hl 3 rfl) ?_
                  have c33 := og_n hr0
                  have hr0 := og_e hr0
                  refine va_iald hx hb hK hP 7 0 rfl rfl (c33) d_MD_full_97 ?_
                  have c34 := og_n hr0
                  have hr0 := og_e hr0
                  refine va_lald hx hb hK hP 6 1 rfl rfl (c34) d_MD_full_98 ?_
                  refine lv_lsub hx hb d_MD_full_99 ?_
                  refine lv_lstore (lv' := [(4, .long (rest2 - ((gMD_sizes σ) ((gMD_froms σ) i.toNatClampNeg).toNatClampNeg))), (0, .ref h0), (3, .int here), (6, .int i)]) hx hb d_MD_full_100 hl (by decide) rfl (fun ls hl => ?_)
                  refine lv_iinc (v := i + 1) (lv' := [(6, .int (i + 1)), (4, .long (rest2 - ((gMD_sizes σ) ((gMD_froms σ) i.toNatClampNeg).toNatClampNeg))), (0, .ref h0), (3, .int here)]) hx hb d_MD_full_102 hl (k := 3) rfl rfl (by decide) rfl (fun ls hl => ?_)
                  refine lv_goto (tgt := 67) hx hb d_MD_full_105 (by decide) ?_
                  exact ih67 _ _ ⟨(rest2 - ((gMD_sizes σ) ((gMD_froms σ) i.toNatClampNeg).toNatClampNeg)), (i + 1), hS, lv_sub hl [2, 3, 1, 0] rfl, hr0⟩
              · rintro locs ls ⟨_, _, -, -, hz⟩; cases hz
          · rintro locs ls ⟨_, _, -, -, hz⟩; cases hz
        · have hr0 := ai_neg c24 hr0
          refine lv_iconst (v := (-1)) hx hb d_MD_full_37 (by decide) ?_
          have hr0 := Option.some.inj hr0
          exact W.iret (v := (-1)) hx hb hr (fun t ht hW => ⟨⟨(-1), (), rfl, hr0, ht⟩, hS.F ht⟩) hS.2.2 d_MD_full_38

def A_MD_isAlike_L24 (σ : tMD) (a : Int32) (b : Int32) : Nat → Int32 → Int32 → Option (Int32)
  | 0, _, _ => none
  | n24 + 1, alike, k => if a < 0 ∨ 4000 ≤ a.toNatClampNeg then none else (if ((gMD_makers σ) a.toNatClampNeg) < 0 ∨ 1500 ≤ ((gMD_makers σ) a.toNatClampNeg).toNatClampNeg then none else (if ((gMD_takes σ) ((gMD_makers σ) a.toNatClampNeg).toNatClampNeg) ≤ k then (if ¬ (alike = 0 ∨ alike = 1) then none else (some alike)) else (if alike = 0 then (if ¬ (alike = 0 ∨ alike = 1) then none else (some alike)) else (if a < 0 ∨ 4000 ≤ a.toNatClampNeg then none else (if (((gMD_fromAt σ) a.toNatClampNeg) + k) < 0 ∨ 20100 ≤ (((gMD_fromAt σ) a.toNatClampNeg) + k).toNatClampNeg then none else (if ((gMD_froms σ) (((gMD_fromAt σ) a.toNatClampNeg) + k).toNatClampNeg) < 0 ∨ 4000 ≤ ((gMD_froms σ) (((gMD_fromAt σ) a.toNatClampNeg) + k).toNatClampNeg).toNatClampNeg then none else (if b < 0 ∨ 4000 ≤ b.toNatClampNeg then none else (if (((gMD_fromAt σ) b.toNatClampNeg) + k) < 0 ∨ 20100 ≤ (((gMD_fromAt σ) b.toNatClampNeg) + k).toNatClampNeg then none else (if ((gMD_froms σ) (((gMD_fromAt σ) b.toNatClampNeg) + k).toNatClampNeg) < 0 ∨ 4000 ≤ ((gMD_froms σ) (((gMD_fromAt σ) b.toNatClampNeg) + k).toNatClampNeg).toNatClampNeg then none else (if ((gMD_firstSame σ) ((gMD_froms σ) (((gMD_fromAt σ) a.toNatClampNeg) + k).toNatClampNeg).toNatClampNeg) = ((gMD_firstSame σ) ((gMD_froms σ) (((gMD_fromAt σ) b.toNatClampNeg) + k).toNatClampNeg).toNatClampNeg) then (A_MD_isAlike_L24 σ a b n24 1 (k + 1)) else (A_MD_isAlike_L24 σ a b n24 0 (k + 1))))))))))))
def A_MD_isAlike (σ : tMD) (a : Int32) (b : Int32) : Option (Int32) := if a < 0 ∨ 4000 ≤ a.toNatClampNeg then none else (if b < 0 ∨ 4000 ≤ b.toNatClampNeg then none else (if ((gMD_makers σ) a.toNatClampNeg) = ((gMD_makers σ) b.toNatClampNeg) then (A_MD_isAlike_L24 σ a b fuelM 1 0) else (A_MD_isAlike_L24 σ a b fuelM 0 0)))
set_option maxHeartbeats 4000000 in
set_option maxRecDepth 100000 in
theorem c_MD_isAlike (l : Launch) (G : pG) (h0 : Nat) (σ : tMD) (a : Int32) (b : Int32) (H : Heap) (w : va_W) (hP0 : va_P G.1 vwCl w H) (hσ : pMD G h0 σ w) (res : Int32) (hr0 : A_MD_isAlike σ a b = some res) : MRi l y_MD_isAlike w_MD_isAlike 0 0 G [.ref h0, .int a, .int b] H res := by
  refine Met.ofW (cc := b_MD_isAlike) (maxL := 5) (ret := (some .boolean)) (by decide) rfl ?_
  intro p e s m args below meth c s₁ B hml hv
  obtain ⟨rfl, rfl, hK⟩ := hv
  have hx := B.exec
  have hb := B.bytes
  have hr := B.returns
  have hts0 := atoms_spec (ws := w_MD_isAlike) B.pre
  have hts := fun w (h : w ∈ lw_g) => hts0 w (List.mem_cons_of_mem _ h)
  have hown : s.vm.findClass RMD = some m.cls := findClass_of_methodNamed B.named
  have hlocks := B.notSynchronized
  have hσ0 := hσ
  obtain ⟨q1, q2, q3, q4, q5, q6, q7, q8, q9, q10, q11, q12, q13, q14, q15, q16, q17, q18, rfl⟩ := hσ
  have hP := hP0
  obtain ⟨A, hAe⟩ : ∃ A : Nat → Prop, A = fun _ => False := ⟨_, rfl⟩
  rw [← hAe]
  have hS : va_S A s.heap s.heap [] := va_S.rf
  have hl := lv_entry ([.ref h0, .int a, .int b]) (n := 5) (Nat.le_of_ble_eq_true rfl)
  rw [lg_entry_eq]
  generalize (lg_sl ([.ref h0, .int a, .int b]) ++ List.replicate (5 - (lg_sl ([.ref h0, .int a, .int b])).length) Slot.unset).toArray = ls at hl ⊢
  have hl : lv_has ls 5 [(0, .ref h0), (1, .int a), (2, .int b)] := hl
  unfold A_MD_isAlike at hr0
  refine lv_aload_n hx hb d_MD_isAlike_0 rfl (lv_at hl 0 rfl) ?_
  refine va_get (D := G.1) (ci := 6) (v := .ref q3) (C := RMD) (T := TMD) (N := 28) hx hb hts inMD hown hK hP 0 rfl rfl 5 (by decide) (hts _ fl_MD_16) (fun _ h9 => h9) rfl d_MD_isAlike_1 ?_
  refine lv_iload_n hx hb d_MD_isAlike_4 rfl (lv_at hl 1 rfl) ?_
  have c19 := og_n hr0
  have hr0 := og_e hr0
  refine va_iald hx hb hK hP 3 0 rfl rfl (c19) d_MD_isAlike_5 ?_
  refine lv_aload_n hx hb d_MD_isAlike_6 rfl (lv_at hl 0 rfl) ?_
  refine va_get (D := G.1) (ci := 6) (v := .ref q3) (C := RMD) (T := TMD) (N := 28) hx hb hts inMD hown hK hP 0 rfl rfl 5 (by decide) (hts _ fl_MD_16) (fun _ h9 => h9) rfl d_MD_isAlike_7 ?_
  refine lv_iload_n hx hb d_MD_isAlike_10 rfl (lv_at hl 2 rfl) ?_
  have c20 := og_n hr0
  have hr0 := og_e hr0
  refine va_iald hx hb hK hP 3 0 rfl rfl (c20) d_MD_isAlike_11 ?_
  refine lv_icmp_ne (tgt := 19) hx hb d_MD_isAlike_12 (by decide) (fun c21 => ?_) (fun c21 => ?_)
  · have hr0 := ai_neg c21 hr0
    refine lv_iconst (v := 0) hx hb d_MD_isAlike_19 (by decide) ?_
    refine lv_istore_n (lv' := [(3, .int 0), (0, .ref h0), (1, .int a), (2, .int b)]) hx hb d_MD_isAlike_20 rfl hl (by decide) rfl (fun ls hl => ?_)
    refine lv_iconst (v := 0) hx hb d_MD_isAlike_21 (by decide) ?_
    refine lv_istore (lv' := [(4, .int 0), (3, .int 0), (0, .ref h0), (1, .int a), (2, .int b)]) hx hb d_MD_isAlike_22 hl (by decide) rfl (fun ls hl => ?_)
    refine lp_R (I := fun n24 locs ls => ∃ (alike : Int32) (k : Int32), va_S A s.heap s.heap locs ∧ lv_has ls 5 [(0, .ref h0), (1, .int a), (2, .int b), (3, .int alike), (4, .int k)] ∧ A_MD_isAlike_L24 σ a b n24 alike k = some res) ?_ ?_ fuelM _ _ ⟨0, 0, hS, lv_sub hl [2, 3, 4, 1, 0] rfl, hr0⟩
    · intro n24 ih24 locs ls ⟨alike, k, hS, hl, hr0⟩
      rw [A_MD_isAlike_L24] at hr0
      refine lv_iload hx hb d_MD_isAlike_24 (lv_at hl 4 rfl) ?_
      refine lv_aload_n hx hb d_MD_isAlike_26 rfl (lv_at hl 0 rfl) ?_
      refine va_get (D := G.1) (ci := 6) (v := .ref q1) (C := RMD) (T := TMD) (N := 28) hx hb hts inMD hown hK hP 0 rfl rfl 1 (by decide) (hts _ fl_MD_7) (fun _ h9 => h9) rfl d_MD_isAlike_27 ?_
      refine lv_aload_n hx hb d_MD_isAlike_30 rfl (lv_at hl 0 rfl) ?_
      refine va_get (D := G.1) (ci := 6) (v := .ref q3) (C := RMD) (T := TMD) (N := 28) hx hb hts inMD hown hK hP 0 rfl rfl 5 (by decide) (hts _ fl_MD_16) (fun _ h9 => h9) rfl d_MD_isAlike_31 ?_
      refine lv_iload_n hx hb d_MD_isAlike_34 rfl (lv_at hl 1 rfl) ?_
      have c22 := og_n hr0
      have hr0 := og_e hr0
      refine va_iald hx hb hK hP 3 0 rfl rfl (c22) d_MD_isAlike_35 ?_
      have c23 := og_n hr0
      have hr0 := og_e hr0
      refine va_iald hx hb hK hP 1 0 rfl rfl (c23) d_MD_isAlike_36 ?_
      refine lv_icmp_ge (tgt := 97) hx hb d_MD_isAlike_37 (by decide) (fun c24 => ?_) (fun c24 => ?_)
      · have hr0 := ai_pos c24 hr0
        refine lv_iload_n hx hb d_MD_isAlike_97 rfl (lv_at hl 3 rfl) ?_
        have c25 := og_n hr0
        have hr0 := og_e hr0
        have hr0 := Option.some.inj hr0
        exact W.zret (v := alike) hx hb hr (nb_ok c25) (fun t ht hW => ⟨⟨alike, (), rfl, hr0, ht⟩, hS.F ht⟩) hS.2.2 d_MD_isAlike_98
      · have hr0 := ai_neg c24 hr0
        refine lv_iload_n hx hb d_MD_isAlike_40 rfl (lv_at hl 3 rfl) ?_
        refine lv_if_eq (tgt := 97) hx hb d_MD_isAlike_41 (by decide) (fun c26 => ?_) (fun c26 => ?_)
        · have hr0 := ai_pos c26 hr0
          refine lv_iload_n hx hb d_MD_isAlike_97 rfl (lv_at hl 3 rfl) ?_
          have c27 := og_n hr0
          have hr0 := og_e hr0
          have hr0 := Option.some.inj hr0
          exact W.zret (v := alike) hx hb hr (nb_ok c27) (fun t ht hW => ⟨⟨alike, (), rfl, hr0, ht⟩, hS.F ht⟩) hS.2.2 d_MD_isAlike_98
        · have hr0 := ai_neg c26 hr0
          refine lv_aload_n hx hb d_MD_isAlike_44 rfl (lv_at hl 0 rfl) ?_
          refine va_get (D := G.1) (ci := 6) (v := .ref q5) (C := RMD) (T := TMD) (N := 28) hx hb hts inMD hown hK hP 0 rfl rfl 7 (by decide) (hts _ fl_MD_22) (fun _ h9 => h9) rfl d_MD_isAlike_45 ?_
          refine lv_aload_n hx hb d_MD_isAlike_48 rfl (lv_at hl 0 rfl) ?_
          refine va_get (D := G.1) (ci := 6) (v := .ref q7) (C := RMD) (T := TMD) (N := 28) hx hb hts inMD hown hK hP 0 rfl rfl 9 (by decide) (hts _ fl_MD_29) (fun _ h9 => h9) rfl d_MD_isAlike_49 ?_
          refine lv_aload_n hx hb d_MD_isAlike_52 rfl (lv_at hl 0 rfl) ?_
          refine va_get (D := G.1) (ci := 6) (v := .ref q4) (C := RMD) (T := TMD) (N := 28) hx hb hts inMD hown hK hP 0 rfl rfl 6 (by decide) (hts _ fl_MD_19) (fun _ h9 => h9) rfl d_MD_isAlike_53 ?_
          refine lv_iload_n hx hb d_MD_isAlike_56 rfl (lv_at hl 1 rfl) ?_
          have c28 := og_n hr0
          have hr0 := og_e hr0
          refine va_iald hx hb hK hP 4 0 rfl rfl (c28) d_MD_isAlike_57 ?_
          refine lv_iload hx hb d_MD_isAlike_58 (lv_at hl 4 rfl) ?_
          refine lv_iadd hx hb d_MD_isAlike_60 ?_
          have c29 := og_n hr0
          have hr0 := og_e hr0
          refine va_iald hx hb hK hP 7 0 rfl rfl (c29) d_MD_isAlike_61 ?_
          have c30 := og_n hr0
          have hr0 := og_e hr0
          refine va_iald hx hb hK hP 5 0 rfl rfl (c30) d_MD_isAlike_62 ?_
          refine lv_aload_n hx hb d_MD_isAlike_63 rfl (lv_at hl 0 rfl) ?_
          refine va_get (D := G.1) (ci := 6) (v := .ref q5) (C := RMD) (T := TMD) (N := 28) hx hb hts inMD hown hK hP 0 rfl rfl 7 (by decide) (hts _ fl_MD_22) (fun _ h9 => h9) rfl d_MD_isAlike_64 ?_
          refine lv_aload_n hx hb d_MD_isAlike_67 rfl (lv_at hl 0 rfl) ?_
          refine va_get (D := G.1) (ci := 6) (v := .ref q7) (C := RMD) (T := TMD) (N := 28) hx hb hts inMD hown hK hP 0 rfl rfl 9 (by decide) (hts _ fl_MD_29) (fun _ h9 => h9) rfl d_MD_isAlike_68 ?_
          refine lv_aload_n hx hb d_MD_isAlike_71 rfl (lv_at hl 0 rfl) ?_
          refine va_get (D := G.1) (ci := 6) (v := .ref q4) (C := RMD) (T := TMD) (N := 28) hx hb hts inMD hown hK hP 0 rfl rfl 6 (by decide) (hts _ fl_MD_19) (fun _ h9 => h9) rfl d_MD_isAlike_72 ?_
          refine lv_iload_n hx hb d_MD_isAlike_75 rfl (lv_at hl 2 rfl) ?_
          have c31 := og_n hr0
          have hr0 := og_e hr0
          refine va_iald hx hb hK hP 4 0 rfl rfl (c31) d_MD_isAlike_76 ?_
          refine lv_iload hx hb d_MD_isAlike_77 (lv_at hl 4 rfl) ?_
          refine lv_iadd hx hb d_MD_isAlike_79 ?_
          have c32 := og_n hr0
          have hr0 := og_e hr0
          refine va_iald hx hb hK hP 7 0 rfl rfl (c32) d_MD_isAlike_80 ?_
          have c33 := og_n hr0
          have hr0 := og_e hr0
          refine va_iald hx hb hK hP 5 0 rfl rfl (c33) d_MD_isAlike_81 ?_
          refine lv_icmp_ne (tgt := 89) hx hb d_MD_isAlike_82 (by decide) (fun c34 => ?_) (fun c34 => ?_)
          · have hr0 := ai_neg c34 hr0
            refine lv_iconst (v := 0) hx hb d_MD_isAlike_89 (by decide) ?_
            refine lv_istore_n (lv' := [(3, .int 0), (0, .ref h0), (1, .int a), (2, .int b), (4, .int k)]) hx hb d_MD_isAlike_90 rfl hl (by decide) rfl (fun ls hl => ?_)
            refine lv_iinc (v := k + 1) (lv' := [(4, .int (k + 1)), (3, .int 0), (0, .ref h0), (1, .int a), (2, .int b)]) hx hb d_MD_isAlike_91 hl (k := 4) rfl rfl (by decide) rfl (fun ls hl => ?_)
            refine lv_goto (tgt := 24) hx hb d_MD_isAlike_94 (by decide) ?_
            exact ih24 _ _ ⟨0, (k + 1), hS, lv_sub hl [2, 3, 4, 1, 0] rfl, hr0⟩
          · have hr0 := ai_pos c34 hr0
            refine lv_iconst (v := 1) hx hb d_MD_isAlike_85 (by decide) ?_
            refine lv_goto (tgt := 90) hx hb d_MD_isAlike_86 (by decide) ?_
            refine lv_istore_n (lv' := [(3, .int 1), (0, .ref h0), (1, .int a), (2, .int b), (4, .int k)]) hx hb d_MD_isAlike_90 rfl hl (by decide) rfl (fun ls hl => ?_)
            refine lv_iinc (v := k + 1) (lv' := [(4, .int (k + 1)), (3, .int 1), (0, .ref h0), (1, .int a), (2, .int b)]) hx hb d_MD_isAlike_91 hl (k := 4) rfl rfl (by decide) rfl (fun ls hl => ?_)
            refine lv_goto (tgt := 24) hx hb d_MD_isAlike_94 (by decide) ?_
            exact ih24 _ _ ⟨1, (k + 1), hS, lv_sub hl [2, 3, 4, 1, 0] rfl, hr0⟩
    · rintro locs ls ⟨_, _, -, -, hz⟩; cases hz
  · have hr0 := ai_pos c21 hr0
    refine lv_iconst (v := 1) hx hb d_MD_isAlike_15 (by decide) ?_
    refine lv_goto (tgt := 20) hx hb d_MD_isAlike_16 (by decide) ?_
    refine lv_istore_n (lv' := [(3, .int 1), (0, .ref h0), (1, .int a), (2, .int b)]) hx hb d_MD_isAlike_20 rfl hl (by decide) rfl (fun ls hl => ?_)
    refine lv_iconst (v := 0) hx hb d_MD_isAlike_21 (by decide) ?_
    refine lv_istore (lv' := [(4, .int 0), (3, .int 1), (0, .ref h0), (1, .int a), (2, .int b)]) hx hb d_MD_isAlike_22 hl (by decide) rfl (fun ls hl => ?_)
    refine lp_R (I := fun n24 locs ls => ∃ (alike : Int32) (k : Int32), va_S A s.heap s.heap locs ∧ lv_has ls 5 [(0, .ref h0), (1, .int a), (2, .int b), (3, .int alike), (4, .int k)] ∧ A_MD_isAlike_L24 σ a b n24 alike k = some res) ?_ ?_ fuelM _ _ ⟨1, 0, hS, lv_sub hl [2, 3, 4, 1, 0] rfl, hr0⟩
    · intro n24 ih24 locs ls ⟨alike, k, hS, hl, hr0⟩
      rw [A_MD_isAlike_L24] at hr0
      refine lv_iload hx hb d_MD_isAlike_24 (lv_at hl 4 rfl) ?_
      refine lv_aload_n hx hb d_MD_isAlike_26 rfl (lv_at hl 0 rfl) ?_
      refine va_get (D := G.1) (ci := 6) (v := .ref q1) (C := RMD) (T := TMD) (N := 28) hx hb hts inMD hown hK hP 0 rfl rfl 1 (by decide) (hts _ fl_MD_7) (fun _ h9 => h9) rfl d_MD_isAlike_27 ?_
      refine lv_aload_n hx hb d_MD_isAlike_30 rfl (lv_at hl 0 rfl) ?_
      refine va_get (D := G.1) (ci := 6) (v := .ref q3) (C := RMD) (T := TMD) (N := 28) hx hb hts inMD hown hK hP 0 rfl rfl 5 (by decide) (hts _ fl_MD_16) (fun _ h9 => h9) rfl d_MD_isAlike_31 ?_
      refine lv_iload_n hx hb d_MD_isAlike_34 rfl (lv_at hl 1 rfl) ?_
      have c35 := og_n hr0
      have hr0 := og_e hr0
      refine va_iald hx hb hK hP 3 0 rfl rfl (c35) d_MD_isAlike_35 ?_
      have c36 := og_n hr0
      have hr0 := og_e hr0
      refine va_iald hx hb hK hP 1 0 rfl rfl (c36) d_MD_isAlike_36 ?_
      refine lv_icmp_ge (tgt := 97) hx hb d_MD_isAlike_37 (by decide) (fun c37 => ?_) (fun c37 => ?_)
      · have hr0 := ai_pos c37 hr0
        refine lv_iload_n hx hb d_MD_isAlike_97 rfl (lv_at hl 3 rfl) ?_
        have c38 := og_n hr0
        have hr0 := og_e hr0
        have hr0 := Option.some.inj hr0
        exact W.zret (v := alike) hx hb hr (nb_ok c38) (fun t ht hW => ⟨⟨alike, (), rfl, hr0, ht⟩, hS.F ht⟩) hS.2.2 d_MD_isAlike_98
      · have hr0 := ai_neg c37 hr0
        refine lv_iload_n hx hb d_MD_isAlike_40 rfl (lv_at hl 3 rfl) ?_
        refine lv_if_eq (tgt := 97) hx hb d_MD_isAlike_41 (by decide) (fun c39 => ?_) (fun c39 => ?_)
        · have hr0 := ai_pos c39 hr0
          refine lv_iload_n hx hb d_MD_isAlike_97 rfl (lv_at hl 3 rfl) ?_
          have c40 := og_n hr0
          have hr0 := og_e hr0
          have hr0 := Option.some.inj hr0
          exact W.zret (v := alike) hx hb hr (nb_ok c40) (fun t ht hW => ⟨⟨alike, (), rfl, hr0, ht⟩, hS.F ht⟩) hS.2.2 d_MD_isAlike_98
        · have hr0 := ai_neg c39 hr0
          refine lv_aload_n hx hb d_MD_isAlike_44 rfl (lv_at hl 0 rfl) ?_
          refine va_get (D := G.1) (ci := 6) (v := .ref q5) (C := RMD) (T := TMD) (N := 28) hx hb hts inMD hown hK hP 0 rfl rfl 7 (by decide) (hts _ fl_MD_22) (fun _ h9 => h9) rfl d_MD_isAlike_45 ?_
          refine lv_aload_n hx hb d_MD_isAlike_48 rfl (lv_at hl 0 rfl) ?_
          refine va_get (D := G.1) (ci := 6) (v := .ref q7) (C := RMD) (T := TMD) (N := 28) hx hb hts inMD hown hK hP 0 rfl rfl 9 (by decide) (hts _ fl_MD_29) (fun _ h9 => h9) rfl d_MD_isAlike_49 ?_
          refine lv_aload_n hx hb d_MD_isAlike_52 rfl (lv_at hl 0 rfl) ?_
          refine va_get (D := G.1) (ci := 6) (v := .ref q4) (C := RMD) (T := TMD) (N := 28) hx hb hts inMD hown hK hP 0 rfl rfl 6 (by decide) (hts _ fl_MD_19) (fun _ h9 => h9) rfl d_MD_isAlike_53 ?_
          refine lv_iload_n hx hb d_MD_isAlike_56 rfl (lv_at hl 1 rfl) ?_
          have c41 := og_n hr0
          have hr0 := og_e hr0
          refine va_iald hx hb hK hP 4 0 rfl rfl (c41) d_MD_isAlike_57 ?_
          refine lv_iload hx hb d_MD_isAlike_58 (lv_at hl 4 rfl) ?_
          refine lv_iadd hx hb d_MD_isAlike_60 ?_
          have c42 := og_n hr0
          have hr0 := og_e hr0
          refine va_iald hx hb hK hP 7 0 rfl rfl (c42) d_MD_isAlike_61 ?_
          have c43 := og_n hr0
          have hr0 := og_e hr0
          refine va_iald hx hb hK hP 5 0 rfl rfl (c43) d_MD_isAlike_62 ?_
          refine lv_aload_n hx hb d_MD_isAlike_63 rfl (lv_at hl 0 rfl) ?_
          refine va_get (D := G.1) (ci := 6) (v := .ref q5) (C := RMD) (T := TMD) (N := 28) hx hb hts inMD hown hK hP 0 rfl rfl 7 (by decide) (hts _ fl_MD_22) (fun _ h9 => h9) rfl d_MD_isAlike_64 ?_
          refine lv_aload_n hx hb d_MD_isAlike_67 rfl (lv_at hl 0 rfl) ?_
          refine va_get (D := G.1) (ci := 6) (v := .ref q7) (C := RMD) (T := TMD) (N := 28) hx hb hts inMD hown hK hP 0 rfl rfl 9 (by decide) (hts _ fl_MD_29) (fun _ h9 => h9) rfl d_MD_isAlike_68 ?_
          refine lv_aload_n hx hb d_MD_isAlike_71 rfl (lv_at hl 0 rfl) ?_
          refine va_get (D := G.1) (ci := 6) (v := .ref q4) (C := RMD) (T := TMD) (N := 28) hx hb hts inMD hown hK hP 0 rfl rfl 6 (by decide) (hts _ fl_MD_19) (fun _ h9 => h9) rfl d_MD_isAlike_72 ?_
          refine lv_iload_n hx hb d_MD_isAlike_75 rfl (lv_at hl 2 rfl) ?_
          have c44 := og_n hr0
          have hr0 := og_e hr0
          refine va_iald hx hb hK hP 4 0 rfl rfl (c44) d_MD_isAlike_76 ?_
          refine lv_iload hx hb d_MD_isAlike_77 (lv_at hl 4 rfl) ?_
          refine lv_iadd hx hb d_MD_isAlike_79 ?_
          have c45 := og_n hr0
          have hr0 := og_e hr0
          refine va_iald hx hb hK hP 7 0 rfl rfl (c45) d_MD_isAlike_80 ?_
          have c46 := og_n hr0
          have hr0 := og_e hr0
          refine va_iald hx hb hK hP 5 0 rfl rfl (c46) d_MD_isAlike_81 ?_
          refine lv_icmp_ne (tgt := 89) hx hb d_MD_isAlike_82 (by decide) (fun c47 => ?_) (fun c47 => ?_)
          · have hr0 := ai_neg c47 hr0
            refine lv_iconst (v := 0) hx hb d_MD_isAlike_89 (by decide) ?_
            refine lv_istore_n (lv' := [(3, .int 0), (0, .ref h0), (1, .int a), (2, .int b), (4, .int k)]) hx hb d_MD_isAlike_90 rfl hl (by decide) rfl (fun ls hl => ?_)
            refine lv_iinc (v := k + 1) (lv' := [(4, .int (k + 1)), (3, .int 0), (0, .ref h0), (1, .int a), (2, .int b)]) hx hb d_MD_isAlike_91 hl (k := 4) rfl rfl (by decide) rfl (fun ls hl => ?_)
            refine lv_goto (tgt := 24) hx hb d_MD_isAlike_94 (by decide) ?_
            exact ih24 _ _ ⟨0, (k + 1), hS, lv_sub hl [2, 3, 4, 1, 0] rfl, hr0⟩
          · have hr0 := ai_pos c47 hr0
            refine lv_iconst (v := 1) hx hb d_MD_isAlike_85 (by decide) ?_
            refine lv_goto (tgt := 90) hx hb d_MD_isAlike_86 (by decide) ?_
            refine lv_istore_n (lv' := [(3, .int 1), (0, .ref h0), (1, .int a), (2, .int b), (4, .int k)]) hx hb d_MD_isAlike_90 rfl hl (by decide) rfl (fun ls hl => ?_)
            refine lv_iinc (v := k + 1) (lv' := [(4, .int (k + 1)), (3, .int 1), (0, .ref h0), (1, .int a), (2, .int b)]) hx hb d_MD_isAlike_91 hl (k := 4) rfl rfl (by decide) rfl (fun ls hl => ?_)
            refine lv_goto (tgt := 24) hx hb d_MD_isAlike_94 (by decide) ?_
            exact ih24 _ _ ⟨1, (k + 1), hS, lv_sub hl [2, 3, 4, 1, 0] rfl, hr0⟩
    · rintro locs ls ⟨_, _, -, -, hz⟩; cases hz

def A_MD_findSame_L9 (r : Int32) : Nat → Int32 → tMD → Option (tMD)
  | 0, _, _ => none
  | n9 + 1, q, τ => if r ≤ q then (some τ) else (if r < 0 ∨ 4000 ≤ r.toNatClampNeg then none else (if ((gMD_firstSame τ) r.toNatClampNeg) = r then (if q < 0 ∨ 4000 ≤ q.toNatClampNeg then none else (if ((gMD_firstSame τ) q.toNatClampNeg) = q then ((A_MD_isAlike τ q r).bind (fun T46 => if T46 = 0 then (A_MD_findSame_L9 r n9 (q + 1) τ) else (if r < 0 ∨ 4000 ≤ r.toNatClampNeg then none else (bnd (uMD_firstSame τ (upd (gMD_firstSame τ) r.toNatClampNeg q)) (fun T50 => A_MD_findSame_L9 r n9 (q + 1) T50))))) else (A_MD_findSame_L9 r n9 (q + 1) τ))) else (some τ)))
def A_MD_findSame (σ : tMD) (r : Int32) : Option (tMD) := if r < 0 ∨ 4000 ≤ r.toNatClampNeg then none else (bnd (uMD_firstSame σ (upd (gMD_firstSame σ) r.toNatClampNeg r)) (fun T20 => A_MD_findSame_L9 r fuelM 0 T20))
set_option maxHeartbeats 4000000 in
set_option maxRecDepth 100000 in
theorem c_MD_findSame (l : Launch) (G : pG) (h0 : Nat) (σ : tMD) (r : Int32) (H : Heap) (w : va_W) (hP0 : va_P G.1 vwCl w H) (hD0 : va_D (fun _ => True) w) (hσ : pMD G h0 σ w) (res : tMD) (hr0 : A_MD_findSame σ r = some res) : MWv l y_MD_findSame w_MD_findSame 1 24 0 G [.ref h0, .int r] H w (pMD G h0 res) := by
  refine Met.ofW (cc := b_MD_findSame) (maxL := 3) (ret := none) (by decide) rfl ?_
  intro p e s m args below meth c s₁ B hml hv
  obtain ⟨rfl, rfl, hK⟩ := hv
  have hx := B.exec
  have hb := B.bytes
  have hr := B.returns
  have hts0 := atoms_spec (ws := w_MD_findSame) B.pre
  have hts := fun w (h : w ∈ lw_g) => hts0 w (List.mem_cons_of_mem _ h)
  have hown : s.vm.findClass RMD = some m.cls := findClass_of_methodNamed B.named
  have hlocks := B.notSynchronized
  have hA : ∀ q : Nat, s.heap.size ≤ q → va_A w s.heap.size q := fun _ h => Or.inr h
  have hB : bk G.1 vwCl (va_A w s.heap.size) [w] s.heap := bk_init hP0 hD0
  generalize va_A w s.heap.size = A at *
  have hS : va_S A s.heap s.heap [] := va_S.rf
  obtain ⟨q1, q2, q3, q4, q5, q6, q7, q8, q9, q10, q11, q12, q13, q14, q15, q16, q17, q18, rfl⟩ := hσ
  have hB := bk_many hB
  have hk : 0 + 0 = 0 := rfl
  have hl := lv_entry ([.ref h0, .int r]) (n := 3) (Nat.le_of_ble_eq_true rfl)
  rw [lg_entry_eq]
  generalize (lg_sl ([.ref h0, .int r]) ++ List.replicate (3 - (lg_sl ([.ref h0, .int r])).length) Slot.unset).toArray = ls at hl ⊢
  have hl : lv_has ls 3 [(0, .ref h0), (1, .int r)] := hl
  unfold A_MD_findSame at hr0
  refine lv_aload_n hx hb d_MD_findSame_0 rfl (lv_at hl 0 rfl) ?_
  refine va_get (D := G.1) (ci := 6) (v := .ref q5) (C := RMD) (T := TMD) (N := 28) hx hb hts inMD hown hK hB.1 0 rfl rfl 7 (by decide) (hts _ fl_MD_22) (fun _ h9 => h9) rfl d_MD_findSame_1 ?_
  refine lv_iload_n hx hb d_MD_findSame_4 rfl (lv_at hl 1 rfl) ?_
  refine lv_iload_n hx hb d_MD_findSame_5 rfl (lv_at hl 1 rfl) ?_
  have c19 := og_n hr0
  have hr0 := og_e hr0
  refine va_iast hx hb hK hB.1 hB.2 hS 5 0 rfl rfl (c19) d_MD_findSame_6 (fun H locs hP hD hS => ?_)
  have hB : bk G.1 vwCl A [[(h0, .inr (6, [.int (gMD_statements σ), .ref q1, .ref q2, .int (gMD_mandatoryCount σ), .int (gMD_rows σ), .ref q3, .ref q4, .ref q5, .ref q6, .ref q7, .int (gMD_fromCount σ), .ref q8, .int (gMD_piled σ), .int (gMD_puts σ), .int (gMD_steps σ), .ref q9, .ref q10, .ref q11, .ref q12, .ref q13, .int (gMD_savedCount σ), .ref q14, .int (gMD_labelCount σ), .ref q15, .int (gMD_letterCount σ), .ref q16, .ref q17, .ref q18]))], [(q1, .inl (G.2.1, 1500, .inl (gMD_takes σ)))], [(q2, .inl (G.2.1, 60, .inl (gMD_mandatories σ)))], [(q3, .inl (G.2.1, 4000, .inl (gMD_makers σ)))], [(q4, .inl (G.2.1, 4000, .inl (gMD_fromAt σ)))], [(q5, .inl (G.2.1, 4000, .inl (upd (gMD_firstSame σ) r.toNatClampNeg r)))], [(q6, .inl (G.2.2.1, 4000, .inr (.inl (gMD_sizes σ))))], [(q7, .inl (G.2.1, 20100, .inl (gMD_froms σ)))], [(q8, .inl (G.2.1, 200, .inl (gMD_pile σ)))], [(q9, .inl (G.2.1, 26000, .inl (gMD_toldStep σ)))], [(q10, .inl (G.2.1, 26000, .inl (gMD_stepRow σ)))], [(q11, .inl (G.2.2.2, 4000, .inl (gMD_isSaved σ)))], [(q12, .inl (G.2.2.2, 4000, .inl (gMD_isTold σ)))], [(q13, .inl (G.2.1, 4000, .inl (gMD_savedNumber σ)))], [(q14, .inl (G.2.1, 1500, .inl (gMD_labels σ)))], [(q15, .inl (G.2.1, 120000, .inl (gMD_letters σ)))], [(q16, .inl (G.2.2.2, 26000, .inl (gMD_saving σ)))], [(q17, .inl (G.2.1, 4001, .inl (gMD_walk σ)))], [(q18, .inl (G.2.1, 4001, .inl (gMD_walkAt σ)))]] H := ⟨hP, hD⟩
  obtain ⟨T20, hT21⟩ : ∃ z, uMD_firstSame σ (upd (gMD_firstSame σ) r.toNatClampNeg r) = z := ⟨_, rfl⟩
  have hr0 := bnd_e hT21 hr0
  have hB : bk G.1 vwCl A [[(h0, .inr (6, [.int (gMD_statements T20), .ref q1, .ref q2, .int (gMD_mandatoryCount T20), .int (gMD_rows T20), .ref q3, .ref q4, .ref q5, .ref q6, .ref q7, .int (gMD_fromCount T20), .ref q8, .int (gMD_piled T20), .int (gMD_puts T20), .int (gMD_steps T20), .ref q9, .ref q10, .ref q11, .ref q12, .ref q13, .int (gMD_savedCount T20), .ref q14, .int (gMD_labelCount T20), .ref q15, .int (gMD_letterCount T20), .ref q16, .ref q17, .ref q18]))], [(q1, .inl (G.2.1, 1500, .inl (gMD_takes T20)))], [(q2, .inl (G.2.1, 60, .inl (gMD_mandatories T20)))], [(q3, .inl (G.2.1, 4000, .inl (gMD_makers T20)))], [(q4, .inl (G.2.1, 4000, .inl (gMD_fromAt T20)))], [(q5, .inl (G.2.1, 4000, .inl (gMD_firstSame T20)))], [(q6, .inl (G.2.2.1, 4000, .inr (.inl (gMD_sizes T20))))], [(q7, .inl (G.2.1, 20100, .inl (gMD_froms T20)))], [(q8, .inl (G.2.1, 200, .inl (gMD_pile T20)))], [(q9, .inl (G.2.1, 26000, .inl (gMD_toldStep T20)))], [(q10, .inl (G.2.1, 26000, .inl (gMD_stepRow T20)))], [(q11, .inl (G.2.2.2, 4000, .inl (gMD_isSaved T20)))], [(q12, .inl (G.2.2.2, 4000, .inl (gMD_isTold T20)))], [(q13, .inl (G.2.1, 4000, .inl (gMD_savedNumber T20)))], [(q14, .inl (G.2.1, 1500, .inl (gMD_labels T20)))], [(q15, .inl (G.2.1, 120000, .inl (gMD_letters T20)))], [(q16, .inl (G.2.2.2, 26000, .inl (gMD_saving T20)))], [(q17, .inl (G.2.1, 4001, .inl (gMD_walk T20)))], [(q18, .inl (G.2.1, 4001, .inl (gMD_walkAt T20)))]] H := by subst hT21; exact hB
  refine lv_iconst (v := 0) hx hb d_MD_findSame_7 (by decide) ?_
  refine lv_istore_n (lv' := [(2, .int 0), (0, .ref h0), (1, .int r)]) hx hb d_MD_findSame_8 rfl hl (by decide) rfl (fun ls hl => ?_)
  refine lp_W (I := fun n9 H locs kc ls => ∃ (q : Int32) (τ : tMD) (w : va_W), pMD G h0  τ w ∧ bk G.1 vwCl A [w] H ∧ va_S A s.heap H locs ∧ lv_has ls 3 [(0, .ref h0), (1, .int r), (2, .int q)] ∧ A_MD_findSame_L9 r n9 q τ = some res ∧ kc = 0) ?_ ?_ fuelM _ _ _ _ ⟨0, T20, _, ⟨q1, q2, q3, q4, q5, q6, q7, q8, q9, q10, q11, q12, q13, q14, q15, q16, q17, q18, rfl⟩, bk_one hB, hS, lv_sub hl [1, 2, 0] rfl, hr0, rfl⟩
  · intro n9 ih9 H locs kc ls ⟨q, τ, w, hτ, hB, hS, hl, hr0, hkc⟩
    subst hkc
    obtain ⟨q22, q23, q24, q25, q26, q27, q28, q29, q30, q31, q32, q33, q34, q35, q36, q37, q38, q39, rfl⟩ := hτ
    have hB := bk_many hB
    rw [A_MD_findSame_L9] at hr0
    refine lv_iload_n hx hb d_MD_findSame_9 rfl (lv_at hl 2 rfl) ?_
    refine lv_iload_n hx hb d_MD_findSame_10 rfl (lv_at hl 1 rfl) ?_
    refine lv_icmp_ge (tgt := 56) hx hb d_MD_findSame_11 (by decide) (fun c40 => ?_) (fun c40 => ?_)
    · have hr0 := ai_pos c40 hr0
      have hr0 := Option.some.inj hr0
      subst hr0
      refine W.widen (k := 0) (n := 0) (Nat.le_refl _) (Nat.le_refl _) ?_
      exact W.vret hx hb hr (fun t ht hW => ⟨⟨[[(h0, .inr (6, [.int (gMD_statements τ), .ref q22, .ref q23, .int (gMD_mandatoryCount τ), .int (gMD_rows τ), .ref q24, .ref q25, .ref q26, .ref q27, .ref q28, .int (gMD_fromCount τ), .ref q29, .int (gMD_piled τ), .int (gMD_puts τ), .int (gMD_steps τ), .ref q30, .ref q31, .ref q32, .ref q33, .ref q34, .int (gMD_savedCount τ), .ref q35, .int (gMD_labelCount τ), .ref q36, .int (gMD_letterCount τ), .ref q37, .ref q38, .ref q39]))], [(q22, .inl (G.2.1, 1500, .inl (gMD_takes τ)))], [(q23, .inl (G.2.1, 60, .inl (gMD_mandatories τ)))], [(q24, .inl (G.2.1, 4000, .inl (gMD_makers τ)))], [(q25, .inl (G.2.1, 4000, .inl (gMD_fromAt τ)))], [(q26, .inl (G.2.1, 4000, .inl (gMD_firstSame τ)))], [(q27, .inl (G.2.2.1, 4000, .inr (.inl (gMD_sizes τ))))], [(q28, .inl (G.2.1, 20100, .inl (gMD_froms τ)))], [(q29, .inl (G.2.1, 200, .inl (gMD_pile τ)))], [(q30, .inl (G.2.1, 26000, .inl (gMD_toldStep τ)))], [(q31, .inl (G.2.1, 26000, .inl (gMD_stepRow τ)))], [(q32, .inl (G.2.2.2, 4000, .inl (gMD_isSaved τ)))], [(q33, .inl (G.2.2.2, 4000, .inl (gMD_isTold τ)))], [(q34, .inl (G.2.1, 4000, .inl (gMD_savedNumber τ)))], [(q35, .inl (G.2.1, 1500, .inl (gMD_labels τ)))], [(q36, .inl (G.2.1, 120000, .inl (gMD_letters τ)))], [(q37, .inl (G.2.2.2, 26000, .inl (gMD_saving τ)))], [(q38, .inl (G.2.1, 4001, .inl (gMD_walk τ)))], [(q39, .inl (G.2.1, 4001, .inl (gMD_walkAt τ)))]].flatten, rfl, ⟨q22, q23, q24, q25, q26, q27, q28, q29, q30, q31, q32, q33, q34, q35, q36, q37, q38, q39, rfl⟩, by rw [ht]; exact hB.1, hB.2⟩, hS.F ht⟩) hS.2.2 d_MD_findSame_56
    · have hr0 := ai_neg c40 hr0
      refine lv_aload_n hx hb d_MD_findSame_14 rfl (lv_at hl 0 rfl) ?_
      refine va_get (D := G.1) (ci := 6) (v := .ref q26) (C := RMD) (T := TMD) (N := 28) hx hb hts inMD hown hK hB.1 0 rfl rfl 7 (by decide) (hts _ fl_MD_22) (fun _ h9 => h9) rfl d_MD_findSame_15 ?_
      refine lv_iload_n hx hb d_MD_findSame_18 rfl (lv_at hl 1 rfl) ?_
      have c41 := og_n hr0
      have hr0 := og_e hr0
      refine va_iald hx hb hK hB.1 5 0 rfl rfl (c41) d_MD_findSame_19 ?_
      refine lv_iload_n hx hb d_MD_findSame_20 rfl (lv_at hl 1 rfl) ?_
      refine lv_icmp_ne (tgt := 56) hx hb d_MD_findSame_21 (by decide) (fun c42 => ?_) (fun c42 => ?_)
      · have hr0 := ai_neg c42 hr0
        have hr0 := Option.some.inj hr0
        subst hr0
        refine W.widen (k := 0) (n := 0) (Nat.le_refl _) (Nat.le_refl _) ?_
        exact W.vret hx hb hr (fun t ht hW => ⟨⟨[[(h0, .inr (6, [.int (gMD_statements τ), .ref q22, .ref q23, .int (gMD_mandatoryCount τ), .int (gMD_rows τ), .ref q24, .ref q25, .ref q26, .ref q27, .ref q28, .int (gMD_fromCount τ), .ref q29, .int (gMD_piled τ), .int (gMD_puts τ), .int (gMD_steps τ), .ref q30, .ref q31, .ref q32, .ref q33, .ref q34, .int (gMD_savedCount τ), .ref q35, .int (gMD_labelCount τ), .ref q36, .int (gMD_letterCount τ), .ref q37, .ref q38, .ref q39]))], [(q22, .inl (G.2.1, 1500, .inl (gMD_takes τ)))], [(q23, .inl (G.2.1, 60, .inl (gMD_mandatories τ)))], [(q24, .inl (G.2.1, 4000, .inl (gMD_makers τ)))], [(q25, .inl (G.2.1, 4000, .inl (gMD_fromAt τ)))], [(q26, .inl (G.2.1, 4000, .inl (gMD_firstSame τ)))], [(q27, .inl (G.2.2.1, 4000, .inr (.inl (gMD_sizes τ))))], [(q28, .inl (G.2.1, 20100, .inl (gMD_froms τ)))], [(q29, .inl (G.2.1, 200, .inl (gMD_pile τ)))], [(q30, .inl (G.2.1, 26000, .inl (gMD_toldStep τ)))], [(q31, .inl (G.2.1, 26000, .inl (gMD_stepRow τ)))], [(q32, .inl (G.2.2.2, 4000, .inl (gMD_isSaved τ)))], [(q33, .inl (G.2.2.2, 4000, .inl (gMD_isTold τ)))], [(q34, .inl (G.2.1, 4000, .inl (gMD_savedNumber τ)))], [(q35, .inl (G.2.1, 1500, .inl (gMD_labels τ)))], [(q36, .inl (G.2.1, 120000, .inl (gMD_letters τ)))], [(q37, .inl (G.2.2.2, 26000, .inl (gMD_saving τ)))], [(q38, .inl (G.2.1, 4001, .inl (gMD_walk τ)))], [(q39, .inl (G.2.1, 4001, .inl (gMD_walkAt τ)))]].flatten, rfl, ⟨q22, q23, q24, q25, q26, q27, q28, q29, q30, q31, q32, q33, q34, q35, q36, q37, q38, q39, rfl⟩, by rw [ht]; exact hB.1, hB.2⟩, hS.F ht⟩) hS.2.2 d_MD_findSame_56
      · have hr0 := ai_pos c42 hr0
        refine lv_aload_n hx hb d_MD_findSame_24 rfl (lv_at hl 0 rfl) ?_
        refine va_get (D := G.1) (ci := 6) (v := .ref q26) (C := RMD) (T := TMD) (N := 28) hx hb hts inMD hown hK hB.1 0 rfl rfl 7 (by decide) (hts _ fl_MD_22) (fun _ h9 => h9) rfl d_MD_findSame_25 ?_
        refine lv_iload_n hx hb d_MD_findSame_28 rfl (lv_at hl 2 rfl) ?_
        have c43 := og_n hr0
        have hr0 := og_e hr0
        refine va_iald hx hb hK hB.1 5 0 rfl rfl (c43) d_MD_findSame_29 ?_
        refine lv_iload_n hx hb d_MD_findSame_30 rfl (lv_at hl 2 rfl) ?_
        refine lv_icmp_ne (tgt := 50) hx hb d_MD_findSame_31 (by decide) (fun c44 => ?_) (fun c44 => ?_)
        · have hr0 := ai_neg c44 hr0
          refine lv_iinc (v := q + 1) (lv' := [(2, .int (q + 1)), (0, .ref h0), (1, .int r)]) hx hb d_MD_findSame_50 hl (k := 2) rfl rfl (by decide) rfl (fun ls hl => ?_)
          refine lv_goto (tgt := 9) hx hb d_MD_findSame_53 (by decide) ?_
          exact ih9 _ _ _ _ ⟨(q + 1), τ, _, ⟨q22, q23, q24, q25, q26, q27, q28, q29, q30, q31, q32, q33, q34, q35, q36, q37, q38, q39, rfl⟩, bk_one hB, hS, lv_sub hl [1, 2, 0] rfl, hr0, rfl⟩
        · have hr0 := ai_pos c44 hr0
          refine lv_aload_n hx hb d_MD_findSame_34 rfl (lv_at hl 0 rfl) ?_
          refine lv_iload_n hx hb d_MD_findSame_35 rfl (lv_at hl 2 rfl) ?_
          refine lv_iload_n hx hb d_MD_findSame_36 rfl (lv_at hl 1 rfl) ?_
          have hpk45 : pMD G h0  τ ([[(h0, .inr (6, [.int (gMD_statements τ), .ref q22, .ref q23, .int (gMD_mandatoryCount τ), .int (gMD_rows τ), .ref q24, .ref q25, .ref q26, .ref q27, .ref q28, .int (gMD_fromCount τ), .ref q29, .int (gMD_piled τ), .int (gMD_puts τ), .int (gMD_steps τ), .ref q30, .ref q31, .ref q32, .ref q33, .ref q34, .int (gMD_savedCount τ), .ref q35, .int (gMD_labelCount τ), .ref q36, .int (gMD_letterCount τ), .ref q37, .ref q38, .ref q39]))], [(q22, .inl (G.2.1, 1500, .inl (gMD_takes τ)))], [(q23, .inl (G.2.1, 60, .inl (gMD_mandatories τ)))], [(q24, .inl (G.2.1, 4000, .inl (gMD_makers τ)))], [(q25, .inl (G.2.1, 4000, .inl (gMD_fromAt τ)))], [(q26, .inl (G.2.1, 4000, .inl (gMD_firstSame τ)))], [(q27, .inl (G.2.2.1, 4000, .inr (.inl (gMD_sizes τ))))], [(q28, .inl (G.2.1, 20100, .inl (gMD_froms τ)))], [(q29, .inl (G.2.1, 200, .inl (gMD_pile τ)))], [(q30, .inl (G.2.1, 26000, .inl (gMD_toldStep τ)))], [(q31, .inl (G.2.1, 26000, .inl (gMD_stepRow τ)))], [(q32, .inl (G.2.2.2, 4000, .inl (gMD_isSaved τ)))], [(q33, .inl (G.2.2.2, 4000, .inl (gMD_isTold τ)))], [(q34, .inl (G.2.1, 4000, .inl (gMD_savedNumber τ)))], [(q35, .inl (G.2.1, 1500, .inl (gMD_labels τ)))], [(q36, .inl (G.2.1, 120000, .inl (gMD_letters τ)))], [(q37, .inl (G.2.2.2, 26000, .inl (gMD_saving τ)))], [(q38, .inl (G.2.1, 4001, .inl (gMD_walk τ)))], [(q39, .inl (G.2.1, 4001, .inl (gMD_walkAt τ)))]].flatten) := ⟨q22, q23, q24, q25, q26, q27, q28, q29, q30, q31, q32, q33, q34, q35, q36, q37, q38, q39, rfl⟩
          obtain ⟨T46, hT47, hr0⟩ := ob_e hr0
          refine rdV (G := G) (As := [.int q, .int r]) (rest := []) (C := RMD) ⟨hx, hb, hml, hown, hts⟩ (c_MD_isAlike l G h0 τ q r _ _ hB.1 hpk45 T46 hT47) (cwV 2 hts (gd_V ml_MD_82 im_MD_isAlike sl_MD_isAlike ini_MD k_MD_isAlike) rfl rmK_c rmK_s (by decide +kernel) ⟨Nat.le_of_ble_eq_true rfl, Nat.le_of_ble_eq_true rfl⟩) hK (pMD_recv hK hB.1 hpk45) hS ⟨Nat.le.intro hk, Nat.le.intro hk⟩ rfl hl.1 (Nat.le_of_ble_eq_true rfl) d_MD_findSame_37 (fun locs hS => ?_)
          refine lv_if_eq (tgt := 50) hx hb d_MD_findSame_40 (by decide) (fun c48 => ?_) (fun c48 => ?_)
          · have hr0 := ai_pos c48 hr0
            refine lv_iinc (v := q + 1) (lv' := [(2, .int (q + 1)), (0, .ref h0), (1, .int r)]) hx hb d_MD_findSame_50 hl (k := 2) rfl rfl (by decide) rfl (fun ls hl => ?_)
            refine lv_goto (tgt := 9) hx hb d_MD_findSame_53 (by decide) ?_
            exact ih9 _ _ _ _ ⟨(q + 1), τ, _, ⟨q22, q23, q24, q25, q26, q27, q28, q29, q30, q31, q32, q33, q34, q35, q36, q37, q38, q39, rfl⟩, bk_one hB, hS, lv_sub hl [1, 2, 0] rfl, hr0, rfl⟩
          · have hr0 := ai_neg c48 hr0
            refine lv_aload_n hx hb d_MD_findSame_43 rfl (lv_at hl 0 rfl) ?_
            refine va_get (D := G.1) (ci := 6) (v := .ref q26) (C := RMD) (T := TMD) (N := 28) hx hb hts inMD hown hK hB.1 0 rfl rfl 7 (by decide) (hts _ fl_MD_22) (fun _ h9 => h9) rfl d_MD_findSame_44 ?_
            refine lv_iload_n hx hb d_MD_findSame_47 rfl (lv_at hl 1 rfl) ?_
            refine lv_iload_n hx hb d_MD_findSame_48 rfl (lv_at hl 2 rfl) ?_
            have c49 := og_n hr0
            have hr0 := og_e hr0
            refine va_iast hx hb hK hB.1 hB.2 hS 5 0 rfl rfl (c49) d_MD_findSame_49 (fun H locs hP hD hS => ?_)
            have hB : bk G.1 vwCl A [[(h0, .inr (6, [.int (gMD_statements τ), .ref q22, .ref q23, .int (gMD_mandatoryCount τ), .int (gMD_rows τ), .ref q24, .ref q25, .ref q26, .ref q27, .ref q28, .int (gMD_fromCount τ), .ref q29, .int (gMD_piled τ), .int (gMD_puts τ), .int (gMD_steps τ), .ref q30, .ref q31, .ref q32, .ref q33, .ref q34, .int (gMD_savedCount τ), .ref q35, .int (gMD_labelCount τ), .ref q36, .int (gMD_letterCount τ), .ref q37, .ref q38, .ref q39]))], [(q22, .inl (G.2.1, 1500, .inl (gMD_takes τ)))], [(q23, .inl (G.2.1, 60, .inl (gMD_mandatories τ)))], [(q24, .inl (G.2.1, 4000, .inl (gMD_makers τ)))], [(q25, .inl (G.2.1, 4000, .inl (gMD_fromAt τ)))], [(q26, .inl (G.2.1, 4000, .inl (upd (gMD_firstSame τ) r.toNatClampNeg q)))], [(q27, .inl (G.2.2.1, 4000, .inr (.inl (gMD_sizes τ))))], [(q28, .inl (G.2.1, 20100, .inl (gMD_froms τ)))], [(q29, .inl (G.2.1, 200, .inl (gMD_pile τ)))], [(q30, .inl (G.2.1, 26000, .inl (gMD_toldStep τ)))], [(q31, .inl (G.2.1, 26000, .inl (gMD_stepRow τ)))], [(q32, .inl (G.2.2.2, 4000, .inl (gMD_isSaved τ)))], [(q33, .inl (G.2.2.2, 4000, .inl (gMD_isTold τ)))], [(q34, .inl (G.2.1, 4000, .inl (gMD_savedNumber τ)))], [(q35, .inl (G.2.1, 1500, .inl (gMD_labels τ)))], [(q36, .inl (G.2.1, 120000, .inl (gMD_letters τ)))], [(q37, .inl (G.2.2.2, 26000, .inl (gMD_saving τ)))], [(q38, .inl (G.2.1, 4001, .inl (gMD_walk τ)))], [(q39, .inl (G.2.1, 4001, .inl (gMD_walkAt τ)))]] H := ⟨hP, hD⟩
            obtain ⟨T50, hT51⟩ : ∃ z, uMD_firstSame τ (upd (gMD_firstSame τ) r.toNatClampNeg q) = z := ⟨_, rfl⟩
            have hr0 := bnd_e hT51 hr0
            have hB : bk G.1 vwCl A [[(h0, .inr (6, [.int (gMD_statements T50), .ref q22, .ref q23, .int (gMD_mandatoryCount T50), .int (gMD_rows T50), .ref q24, .ref q25, .ref q26, .ref q27, .ref q28, .int (gMD_fromCount T50), .ref q29, .int (gMD_piled T50), .int (gMD_puts T50), .int (gMD_steps T50), .ref q30, .ref q31, .ref q32, .ref q33, .ref q34, .int (gMD_savedCount T50), .ref q35, .int (gMD_labelCount T50), .ref q36, .int (gMD_letterCount T50), .ref q37, .ref q38, .ref q39]))], [(q22, .inl (G.2.1, 1500, .inl (gMD_takes T50)))], [(q23, .inl (G.2.1, 60, .inl (gMD_mandatories T50)))], [(q24, .inl (G.2.1, 4000, .inl (gMD_makers T50)))], [(q25, .inl (G.2.1, 4000, .inl (gMD_fromAt T50)))], [(q26, .inl (G.2.1, 4000, .inl (gMD_firstSame T50)))], [(q27, .inl (G.2.2.1, 4000, .inr (.inl (gMD_sizes T50))))], [(q28, .inl (G.2.1, 20100, .inl (gMD_froms T50)))], [(q29, .inl (G.2.1, 200, .inl (gMD_pile T50)))], [(q30, .inl (G.2.1, 26000, .inl (gMD_toldStep T50)))], [(q31, .inl (G.2.1, 26000, .inl (gMD_stepRow T50)))], [(q32, .inl (G.2.2.2, 4000, .inl (gMD_isSaved T50)))], [(q33, .inl (G.2.2.2, 4000, .inl (gMD_isTold T50)))], [(q34, .inl (G.2.1, 4000, .inl (gMD_savedNumber T50)))], [(q35, .inl (G.2.1, 1500, .inl (gMD_labels T50)))], [(q36, .inl (G.2.1, 120000, .inl (gMD_letters T50)))], [(q37, .inl (G.2.2.2, 26000, .inl (gMD_saving T50)))], [(q38, .inl (G.2.1, 4001, .inl (gMD_walk T50)))], [(q39, .inl (G.2.1, 4001, .inl (gMD_walkAt T50)))]] H := by subst hT51; exact hB
            refine lv_iinc (v := q + 1) (lv' := [(2, .int (q + 1)), (0, .ref h0), (1, .int r)]) hx hb d_MD_findSame_50 hl (k := 2) rfl rfl (by decide) rfl (fun ls hl => ?_)
            refine lv_goto (tgt := 9) hx hb d_MD_findSame_53 (by decide) ?_
            exact ih9 _ _ _ _ ⟨(q + 1), T50, _, ⟨q22, q23, q24, q25, q26, q27, q28, q29, q30, q31, q32, q33, q34, q35, q36, q37, q38, q39, rfl⟩, bk_one hB, hS, lv_sub hl [1, 2, 0] rfl, hr0, rfl⟩
  · rintro H locs kc ls ⟨_, _, _, -, -, -, -, hz, -⟩; cases hz

def A_MD_findSize_L5 (σ : tMD) (r : Int32) : Nat → Int64 → Int32 → Option (tMD)
  | 0, _, _ => none
  | n5 + 1, size, k => if r < 0 ∨ 4000 ≤ r.toNatClampNeg then none else (if ((gMD_makers σ) r.toNatClampNeg) < 0 ∨ 1500 ≤ ((gMD_makers σ) r.toNatClampNeg).toNatClampNeg then none else (if ((gMD_takes σ) ((gMD_makers σ) r.toNatClampNeg).toNatClampNeg) ≤ k then (if r < 0 ∨ 4000 ≤ r.toNatClampNeg then none else (bnd (uMD_sizes σ (vp_updL (gMD_sizes σ) r.toNatClampNeg size)) (fun T23 => some T23))) else (if r < 0 ∨ 4000 ≤ r.toNatClampNeg then none else (if (((gMD_fromAt σ) r.toNatClampNeg) + k) < 0 ∨ 20100 ≤ (((gMD_fromAt σ) r.toNatClampNeg) + k).toNatClampNeg then none else (if ((gMD_froms σ) (((gMD_fromAt σ) r.toNatClampNeg) + k).toNatClampNeg) < 0 ∨ 4000 ≤ ((gMD_froms σ) (((gMD_fromAt σ) r.toNatClampNeg) + k).toNatClampNeg).toNatClampNeg then none else (if (lg_cmp (size + ((gMD_sizes σ) ((gMD_froms σ) (((gMD_fromAt σ) r.toNatClampNeg) + k).toNatClampNeg).toNatClampNeg)) 1000000000000000000) ≤ 0 then (A_MD_findSize_L5 σ r n5 (size + ((gMD_sizes σ) ((gMD_froms σ) (((gMD_fromAt σ) r.toNatClampNeg) + k).toNatClampNeg).toNatClampNeg)) (k + 1)) else (A_MD_findSize_L5 σ r n5 1000000000000000001 (k + 1))))))))
def A_MD_findSize (σ : tMD) (r : Int32) : Option (tMD) := A_MD_findSize_L5 σ r fuelM 1 0
set_option maxHeartbeats 4000000 in
set_option maxRecDepth 100000 in
theorem c_MD_findSize (l : Launch) (G : pG) (h0 : Nat) (σ : tMD) (r : Int32) (H : Heap) (w : va_W) (hP0 : va_P G.1 vwCl w H) (hD0 : va_D (fun _ => True) w) (hσ : pMD G h0 σ w) (res : tMD) (hr0 : A_MD_findSize σ r = some res) : MWv l y_MD_findSize w_MD_findSize 0 0 0 G [.ref h0, .int r] H w (pMD G h0 res) := by
  refine Met.ofW (cc := b_MD_findSize) (maxL := 5) (ret := none) (by decide) rfl ?_
  intro p e s m args below meth c s₁ B hml hv
  obtain ⟨rfl, rfl, hK⟩ := hv
  have hx := B.exec
  have hb := B.bytes
  have hr := B.returns
  have hts0 := atoms_spec (ws := w_MD_findSize) B.pre
  have hts := fun w (h : w ∈ lw_g) => hts0 w (List.mem_cons_of_mem _ h)
  have hown : s.vm.findClass RMD = some m.cls := findClass_of_methodNamed B.named
  have hlocks := B.notSynchronized
  have hA : ∀ q : Nat, s.heap.size ≤ q → va_A w s.heap.size q := fun _ h => Or.inr h
  have hB : bk G.1 vwCl (va_A w s.heap.size) [w] s.heap := bk_init hP0 hD0
  generalize va_A w s.heap.size = A at *
  have hS : va_S A s.heap s.heap [] := va_S.rf
  obtain ⟨q1, q2, q3, q4, q5, q6, q7, q8, q9, q10, q11, q12, q13, q14, q15, q16, q17, q18, rfl⟩ := hσ
  have hB := bk_many hB
  have hk : 0 + 0 = 0 := rfl
  have hl := lv_entry ([.ref h0, .int r]) (n := 5) (Nat.le_of_ble_eq_true rfl)
  rw [lg_entry_eq]
  generalize (lg_sl ([.ref h0, .int r]) ++ List.replicate (5 - (lg_sl ([.ref h0, .int r])).length) Slot.unset).toArray = ls at hl ⊢
  have hl : lv_has ls 5 [(0, .ref h0), (1, .int r)] := hl
  unfold A_MD_findSize at hr0
  refine lv_lconst (v := 1) hx hb d_MD_findSize_0 (by decide) ?_
  refine lv_lstore_n (lv' := [(2, .long 1), (0, .ref h0), (1, .int r)]) hx hb d_MD_findSize_1 rfl hl (by decide) rfl (fun ls hl => ?_)
  refine lv_iconst (v := 0) hx hb d_MD_findSize_2 (by decide) ?_
  refine lv_istore (lv' := [(4, .int 0), (2, .long 1), (0, .ref h0), (1, .int r)]) hx hb d_MD_findSize_3 hl (by decide) rfl (fun ls hl => ?_)
  refine lp_W (I := fun n5 H locs kc ls => ∃ (size : Int64) (k : Int32), bk G.1 vwCl A [[(h0, .inr (6, [.int (gMD_statements σ), .ref q1, .ref q2, .int (gMD_mandatoryCount σ), .int (gMD_rows σ), .ref q3, .ref q4, .ref q5, .ref q6, .ref q7, .int (gMD_fromCount σ), .ref q8, .int (gMD_piled σ), .int (gMD_puts σ), .int (gMD_steps σ), .ref q9, .ref q10, .ref q11, .ref q12, .ref q13, .int (gMD_savedCount σ), .ref q14, .int (gMD_labelCount σ), .ref q15, .int (gMD_letterCount σ), .ref q16, .ref q17, .ref q18]))], [(q1, .inl (G.2.1, 1500, .inl (gMD_takes σ)))], [(q2, .inl (G.2.1, 60, .inl (gMD_mandatories σ)))], [(q3, .inl (G.2.1, 4000, .inl (gMD_makers σ)))], [(q4, .inl (G.2.1, 4000, .inl (gMD_fromAt σ)))], [(q5, .inl (G.2.1, 4000, .inl (gMD_firstSame σ)))], [(q6, .inl (G.2.2.1, 4000, .inr (.inl (gMD_sizes σ))))], [(q7, .inl (G.2.1, 20100, .inl (gMD_froms σ)))], [(q8, .inl (G.2.1, 200, .inl (gMD_pile σ)))], [(q9, .inl (G.2.1, 26000, .inl (gMD_toldStep σ)))], [(q10, .inl (G.2.1, 26000, .inl (gMD_stepRow σ)))], [(q11, .inl (G.2.2.2, 4000, .inl (gMD_isSaved σ)))], [(q12, .inl (G.2.2.2, 4000, .inl (gMD_isTold σ)))], [(q13, .inl (G.2.1, 4000, .inl (gMD_savedNumber σ)))], [(q14, .inl (G.2.1, 1500, .inl (gMD_labels σ)))], [(q15, .inl (G.2.1, 120000, .inl (gMD_letters σ)))], [(q16, .inl (G.2.2.2, 26000, .inl (gMD_saving σ)))], [(q17, .inl (G.2.1, 4001, .inl (gMD_walk σ)))], [(q18, .inl (G.2.1, 4001, .inl (gMD_walkAt σ)))]] H ∧ va_S A s.heap H locs ∧ lv_has ls 5 [(0, .ref h0), (1, .int r), (2, .long size), (4, .int k)] ∧ A_MD_findSize_L5 σ r n5 size k = some res ∧ kc = 0) ?_ ?_ fuelM _ _ _ _ ⟨1, 0, hB, hS, lv_sub hl [2, 3, 1, 0] rfl, hr0, rfl⟩
  · intro n5 ih5 H locs kc ls ⟨size, k, hB, hS, hl, hr0, hkc⟩
    subst hkc
    rw [A_MD_findSize_L5] at hr0
    refine lv_iload hx hb d_MD_findSize_5 (lv_at hl 3 rfl) ?_
    refine lv_aload_n hx hb d_MD_findSize_7 rfl (lv_at hl 0 rfl) ?_
    refine va_get (D := G.1) (ci := 6) (v := .ref q1) (C := RMD) (T := TMD) (N := 28) hx hb hts inMD hown hK hB.1 0 rfl rfl 1 (by decide) (hts _ fl_MD_7) (fun _ h9 => h9) rfl d_MD_findSize_8 ?_
    refine lv_aload_n hx hb d_MD_findSize_11 rfl (lv_at hl 0 rfl) ?_
    refine va_get (D := G.1) (ci := 6) (v := .ref q3) (C := RMD) (T := TMD) (N := 28) hx hb hts inMD hown hK hB.1 0 rfl rfl 5 (by decide) (hts _ fl_MD_16) (fun _ h9 => h9) rfl d_MD_findSize_12 ?_
    refine lv_iload_n hx hb d_MD_findSize_15 rfl (lv_at hl 1 rfl) ?_
    have c19 := og_n hr0
    have hr0 := og_e hr0
    refine va_iald hx hb hK hB.1 3 0 rfl rfl (c19) d_MD_findSize_16 ?_
    have c20 := og_n hr0
    have hr0 := og_e hr0
    refine va_iald hx hb hK hB.1 1 0 rfl rfl (c20) d_MD_findSize_17 ?_
    refine lv_icmp_ge (tgt := 65) hx hb d_MD_findSize_18 (by decide) (fun c21 => ?_) (fun c21 => ?_)
    · have hr0 := ai_pos c21 hr0
      refine lv_aload_n hx hb d_MD_findSize_65 rfl (lv_at hl 0 rfl) ?_
      refine va_get (D := G.1) (ci := 6) (v := .ref q6) (C := RMD) (T := TMD) (N := 28) hx hb hts inMD hown hK hB.1 0 rfl rfl 8 (by decide) (hts _ fl_MD_25) (fun _ h9 => h9) rfl d_MD_findSize_66 ?_
      refine lv_iload_n hx hb d_MD_findSize_69 rfl (lv_at hl 1 rfl) ?_
      refine lv_lload_n hx hb d_MD_findSize_70 rfl (lv_at hl 2 rfl) ?_
      have c22 := og_n hr0
      have hr0 := og_e hr0
      refine va_last hx hb hK hB.1 hB.2 hS 6 1 rfl rfl (c22) d_MD_findSize_71 (fun H locs hP hD hS => ?_)
      have hB : bk G.1 vwCl A [[(h0, .inr (6, [.int (gMD_statements σ), .ref q1, .ref q2, .int (gMD_mandatoryCount σ), .int (gMD_rows σ), .ref q3, .ref q4, .ref q5, .ref q6, .ref q7, .int (gMD_fromCount σ), .ref q8, .int (gMD_piled σ), .int (gMD_puts σ), .int (gMD_steps σ), .ref q9, .ref q10, .ref q11, .ref q12, .ref q13, .int (gMD_savedCount σ), .ref q14, .int (gMD_labelCount σ), .ref q15, .int (gMD_letterCount σ), .ref q16, .ref q17, .ref q18]))], [(q1, .inl (G.2.1, 1500, .inl (gMD_takes σ)))], [(q2, .inl (G.2.1, 60, .inl (gMD_mandatories σ)))], [(q3, .inl (G.2.1, 4000, .inl (gMD_makers σ)))], [(q4, .inl (G.2.1, 4000, .inl (gMD_fromAt σ)))], [(q5, .inl (G.2.1, 4000, .inl (gMD_firstSame σ)))], [(q6, .inl (G.2.2.1, 4000, .inr (.inl (vp_updL (gMD_sizes σ) r.toNatClampNeg size))))], [(q7, .inl (G.2.1, 20100, .inl (gMD_froms σ)))], [(q8, .inl (G.2.1, 200, .inl (gMD_pile σ)))], [(q9, .inl (G.2.1, 26000, .inl (gMD_toldStep σ)))], [(q10, .inl (G.2.1, 26000, .inl (gMD_stepRow σ)))], [(q11, .inl (G.2.2.2, 4000, .inl (gMD_isSaved σ)))], [(q12, .inl (G.2.2.2, 4000, .inl (gMD_isTold σ)))], [(q13, .inl (G.2.1, 4000, .inl (gMD_savedNumber σ)))], [(q14, .inl (G.2.1, 1500, .inl (gMD_labels σ)))], [(q15, .inl (G.2.1, 120000, .inl (gMD_letters σ)))], [(q16, .inl (G.2.2.2, 26000, .inl (gMD_saving σ)))], [(q17, .inl (G.2.1, 4001, .inl (gMD_walk σ)))], [(q18, .inl (G.2.1, 4001, .inl (gMD_walkAt σ)))]] H := ⟨hP, hD⟩
      obtain ⟨T23, hT24⟩ : ∃ z, uMD_sizes σ (vp_updL (gMD_sizes σ) r.toNatClampNeg size) = z := ⟨_, rfl⟩
      have hr0 := bnd_e hT24 hr0
      have hB : bk G.1 vwCl A [[(h0, .inr (6, [.int (gMD_statements T23), .ref q1, .ref q2, .int (gMD_mandatoryCount T23), .int (gMD_rows T23), .ref q3, .ref q4, .ref q5, .ref q6, .ref q7, .int (gMD_fromCount T23), .ref q8, .int (gMD_piled T23), .int (gMD_puts T23), .int (gMD_steps T23), .ref q9, .ref q10, .ref q11, .ref q12, .ref q13, .int (gMD_savedCount T23), .ref q14, .int (gMD_labelCount T23), .ref q15, .int (gMD_letterCount T23), .ref q16, .ref q17, .ref q18]))], [(q1, .inl (G.2.1, 1500, .inl (gMD_takes T23)))], [(q2, .inl (G.2.1, 60, .inl (gMD_mandatories T23)))], [(q3, .inl (G.2.1, 4000, .inl (gMD_makers T23)))], [(q4, .inl (G.2.1, 4000, .inl (gMD_fromAt T23)))], [(q5, .inl (G.2.1, 4000, .inl (gMD_firstSame T23)))], [(q6, .inl (G.2.2.1, 4000, .inr (.inl (gMD_sizes T23))))], [(q7, .inl (G.2.1, 20100, .inl (gMD_froms T23)))], [(q8, .inl (G.2.1, 200, .inl (gMD_pile T23)))], [(q9, .inl (G.2.1, 26000, .inl (gMD_toldStep T23)))], [(q10, .inl (G.2.1, 26000, .inl (gMD_stepRow T23)))], [(q11, .inl (G.2.2.2, 4000, .inl (gMD_isSaved T23)))], [(q12, .inl (G.2.2.2, 4000, .inl (gMD_isTold T23)))], [(q13, .inl (G.2.1, 4000, .inl (gMD_savedNumber T23)))], [(q14, .inl (G.2.1, 1500, .inl (gMD_labels T23)))], [(q15, .inl (G.2.1, 120000, .inl (gMD_letters T23)))], [(q16, .inl (G.2.2.2, 26000, .inl (gMD_saving T23)))], [(q17, .inl (G.2.1, 4001, .inl (gMD_walk T23)))], [(q18, .inl (G.2.1, 4001, .inl (gMD_walkAt T23)))]] H := by subst hT24; exact hB
      have hr0 := Option.some.inj hr0
      subst hr0
      refine W.widen (k := 0) (n := 0) (Nat.le_refl _) (Nat.le_refl _) ?_
      exact W.vret hx hb hr (fun t ht hW => ⟨⟨[[(h0, .inr (6, [.int (gMD_statements T23), .ref q1, .ref q2, .int (gMD_mandatoryCount T23), .int (gMD_rows T23), .ref q3, .ref q4, .ref q5, .ref q6, .ref q7, .int (gMD_fromCount T23), .ref q8, .int (gMD_piled T23), .int (gMD_puts T23), .int (gMD_steps T23), .ref q9, .ref q10, .ref q11, .ref q12, .ref q13, .int (gMD_savedCount T23), .ref q14, .int (gMD_labelCount T23), .ref q15, .int (gMD_letterCount T23), .ref q16, .ref q17, .ref q18]))], [(q1, .inl (G.2.1, 1500, .inl (gMD_takes T23)))], [(q2, .inl (G.2.1, 60, .inl (gMD_mandatories T23)))], [(q3, .inl (G.2.1, 4000, .inl (gMD_makers T23)))], [(q4, .inl (G.2.1, 4000, .inl (gMD_fromAt T23)))], [(q5, .inl (G.2.1, 4000, .inl (gMD_firstSame T23)))], [(q6, .inl (G.2.2.1, 4000, .inr (.inl (gMD_sizes T23))))], [(q7, .inl (G.2.1, 20100, .inl (gMD_froms T23)))], [(q8, .inl (G.2.1, 200, .inl (gMD_pile T23)))], [(q9, .inl (G.2.1, 26000, .inl (gMD_toldStep T23)))], [(q10, .inl (G.2.1, 26000, .inl (gMD_stepRow T23)))], [(q11, .inl (G.2.2.2, 4000, .inl (gMD_isSaved T23)))], [(q12, .inl (G.2.2.2, 4000, .inl (gMD_isTold T23)))], [(q13, .inl (G.2.1, 4000, .inl (gMD_savedNumber T23)))], [(q14, .inl (G.2.1, 1500, .inl (gMD_labels T23)))], [(q15, .inl (G.2.1, 120000, .inl (gMD_letters T23)))], [(q16, .inl (G.2.2.2, 26000, .inl (gMD_saving T23)))], [(q17, .inl (G.2.1, 4001, .inl (gMD_walk T23)))], [(q18, .inl (G.2.1, 4001, .inl (gMD_walkAt T23)))]].flatten, rfl, ⟨q1, q2, q3, q4, q5, q6, q7, q8, q9, q10, q11, q12, q13, q14, q15, q16, q17, q18, rfl⟩, by rw [ht]; exact hB.1, hB.2⟩, hS.F ht⟩) hS.2.2 d_MD_findSize_72
    · have hr0 := ai_neg c21 hr0
      refine lv_lload_n hx hb d_MD_findSize_21 rfl (lv_at hl 2 rfl) ?_
      refine lv_aload_n hx hb d_MD_findSize_22 rfl (lv_at hl 0 rfl) ?_
      refine va_get (D := G.1) (ci := 6) (v := .ref q6) (C := RMD) (T := TMD) (N := 28) hx hb hts inMD hown hK hB.1 0 rfl rfl 8 (by decide) (hts _ fl_MD_25) (fun _ h9 => h9) rfl d_MD_findSize_23 ?_
      refine lv_aload_n hx hb d_MD_findSize_26 rfl (lv_at hl 0 rfl) ?_
      refine va_get (D := G.1) (ci := 6) (v := .ref q7) (C := RMD) (T := TMD) (N := 28) hx hb hts inMD hown hK hB.1 0 rfl rfl 9 (by decide) (hts _ fl_MD_29) (fun _ h9 => h9) rfl d_MD_findSize_27 ?_
      refine lv_aload_n hx hb d_MD_findSize_30 rfl (lv_at hl 0 rfl) ?_
      refine va_get (D := G.1) (ci := 6) (v := .ref q4) (C := RMD) (T := TMD) (N := 28) hx hb hts inMD hown hK hB.1 0 rfl rfl 6 (by decide) (hts _ fl_MD_19) (fun _ h9 => h9) rfl d_MD_findSize_31 ?_
      refine lv_iload_n hx hb d_MD_findSize_34 rfl (lv_at hl 1 rfl) ?_
      have c25 := og_n hr0
      have hr0 := og_e hr0
      refine va_iald hx hb hK hB.1 4 0 rfl rfl (c25) d_MD_findSize_35 ?_
      refine lv_iload hx hb d_MD_findSize_36 (lv_at hl 3 rfl) ?_
      refine lv_iadd hx hb d_MD_findSize_38 ?_
      have c26 := og_n hr0
      have hr0 := og_e hr0
      refine va_iald hx hb hK hB.1 7 0 rfl rfl (c26) d_MD_findSize_39 ?_
      have c27 := og_n hr0
      have hr0 := og_e hr0
      refine va_lald hx hb hK hB.1 6 1 rfl rfl (c27) d_MD_findSize_40 ?_
      refine lv_ladd hx hb d_MD_findSize_41 ?_
      refine lv_lstore_n (lv' := [(2, .long (size + ((gMD_sizes σ) ((gMD_froms σ) (((gMD_fromAt σ) r.toNatClampNeg) + k).toNatClampNeg).toNatClampNeg))), (0, .ref h0), (1, .int r), (4, .int k)]) hx hb d_MD_findSize_42 rfl hl (by decide) rfl (fun ls hl => ?_)
      refine lv_lload_n hx hb d_MD_findSize_43 rfl (lv_at hl 0 rfl) ?_
      refine lv_ldc2 (v := 1000000000000000000) hx hb hown (hts _ cl2_MD_86) d_MD_findSize_44 ?_
      refine W.lcmp hx hb d_MD_findSize_47 ?_
      refine lv_if_le (tgt := 57) hx hb d_MD_findSize_48 (by decide) (fun c28 => ?_) (fun c28 => ?_)
      · have hr0 := ai_pos c28 hr0
        refine lv_lload_n hx hb d_MD_findSize_57 rfl (lv_at hl 0 rfl) ?_
        refine lv_lstore_n (lv' := [(2, .long (size + ((gMD_sizes σ) ((gMD_froms σ) (((gMD_fromAt σ) r.toNatClampNeg) + k).toNatClampNeg).toNatClampNeg))), (0, .ref h0), (1, .int r), (4, .int k)]) hx hb d_MD_findSize_58 rfl hl (by decide) rfl (fun ls hl => ?_)
        refine lv_iinc (v := k + 1) (lv' := [(4, .int (k + 1)), (2, .long (size + ((gMD_sizes σ) ((gMD_froms σ) (((gMD_fromAt σ) r.toNatClampNeg) + k).toNatClampNeg).toNatClampNeg))), (0, .ref h0), (1, .int r)]) hx hb d_MD_findSize_59 hl (k := 3) rfl rfl (by decide) rfl (fun ls hl => ?_)
        refine lv_goto (tgt := 5) hx hb d_MD_findSize_62 (by decide) ?_
        exact ih5 _ _ _ _ ⟨(size + ((gMD_sizes σ) ((gMD_froms σ) (((gMD_fromAt σ) r.toNatClampNeg) + k).toNatClampNeg).toNatClampNeg)), (k + 1), hB, hS, lv_sub hl [2, 3, 1, 0] rfl, hr0, rfl⟩
      · have hr0 := ai_neg c28 hr0
        refine lv_ldc2 (v := 1000000000000000001) hx hb hown (hts _ cl2_MD_88) d_MD_findSize_51 ?_
        refine lv_goto (tgt := 58) hx hb d_MD_findSize_54 (by decide) ?_
        refine lv_lstore_n (lv' := [(2, .long 1000000000000000001), (0, .ref h0), (1, .int r), (4, .int k)]) hx hb d_MD_findSize_58 rfl hl (by decide) rfl (fun ls hl => ?_)
        refine lv_iinc (v := k + 1) (lv' := [(4, .int (k + 1)), (2, .long 1000000000000000001), (0, .ref h0), (1, .int r)]) hx hb d_MD_findSize_59 hl (k := 3) rfl rfl (by decide) rfl (fun ls hl => ?_)
        refine lv_goto (tgt := 5) hx hb d_MD_findSize_62 (by decide) ?_
        exact ih5 _ _ _ _ ⟨1000000000000000001, (k + 1), hB, hS, lv_sub hl [2, 3, 1, 0] rfl, hr0, rfl⟩
  · rintro H locs kc ls ⟨_, _, -, -, -, hz, -⟩; cases hz

def A_MD_make_L92 (n : Int32) : Nat → Int32 → tMD → Option (Int32 × tMD)
  | 0, _, _ => none
  | n92 + 1, k, τ => if n ≤ k then (bnd (uMD_piled τ ((gMD_piled τ) - n)) (fun T53 => (A_MD_findSame T53 (gMD_rows T53)).bind (fun T56 => (A_MD_findSize T56 (gMD_rows T56)).bind (fun T79 => if (gMD_piled T79) < 0 ∨ 200 ≤ (gMD_piled T79).toNatClampNeg then none else (bnd (uMD_pile T79 (upd (gMD_pile T79) (gMD_piled T79).toNatClampNeg (gMD_rows T79))) (fun T102 => bnd (uMD_piled T102 ((gMD_piled T102) + 1)) (fun T104 => bnd (uMD_puts T104 ((gMD_puts T104) + 1)) (fun T106 => bnd (uMD_rows T106 ((gMD_rows T106) + 1)) (fun T108 => some ((gMD_rows T108) - 1, T108)))))))))) else (if (((gMD_piled τ) - n) + k) < 0 ∨ 200 ≤ (((gMD_piled τ) - n) + k).toNatClampNeg then none else (if (gMD_fromCount τ) < 0 ∨ 20100 ≤ (gMD_fromCount τ).toNatClampNeg then none else (bnd (uMD_froms τ (upd (gMD_froms τ) (gMD_fromCount τ).toNatClampNeg ((gMD_pile τ) (((gMD_piled τ) - n) + k).toNatClampNeg))) (fun T112 => bnd (uMD_fromCount T112 ((gMD_fromCount T112) + 1)) (fun T114 => A_MD_make_L92 n n92 (k + 1) T114)))))
def A_MD_make (σ : tMD) (i : Int32) : Option (Int32 × tMD) := if (A_MD_isStatement σ i) = 0 then (some ((-1), σ)) else (if i < 0 ∨ 1500 ≤ i.toNatClampNeg then none else (if (gMD_piled σ) < ((gMD_takes σ) i.toNatClampNeg) then (some ((-1), σ)) else (if (gMD_rows σ) = 4000 then (some ((-1), σ)) else (if i < 0 ∨ 1500 ≤ i.toNatClampNeg then none else (if ((gMD_piled σ) - ((gMD_takes σ) i.toNatClampNeg)) = 200 then (some ((-1), σ)) else (if (gMD_puts σ) = 20000 then (some ((-1), σ)) else (if i < 0 ∨ 1500 ≤ i.toNatClampNeg then none else (if (gMD_rows σ) < 0 ∨ 4000 ≤ (gMD_rows σ).toNatClampNeg then none else (bnd (uMD_makers σ (upd (gMD_makers σ) (gMD_rows σ).toNatClampNeg i)) (fun T29 => if (gMD_rows T29) < 0 ∨ 4000 ≤ (gMD_rows T29).toNatClampNeg then none else (bnd (uMD_fromAt T29 (upd (gMD_fromAt T29) (gMD_rows T29).toNatClampNeg (gMD_fromCount T29))) (fun T32 => A_MD_make_L92 ((gMD_takes σ) i.toNatClampNeg) fuelM 0 T32))))))))))))
set_option maxHeartbeats 4000000 in
set_option maxRecDepth 100000 in
theorem c_MD_make (l : Launch) (G : pG) (h0 : Nat) (σ : tMD) (i : Int32) (H : Heap) (w : va_W) (hP0 : va_P G.1 vwCl w H) (hD0 : va_D (fun _ => True) w) (hσ : pMD G h0 σ w) (res : Int32 × tMD) (hr0 : A_MD_make σ i = some res) : MWi l y_MD_make w_MD_make 2 46 0 G [.ref h0, .int i] H w res.1 (pMD G h0 res.2) := by
  refine Met.ofW (cc := b_MD_make) (maxL := 4) (ret := (some .int)) (by decide) rfl ?_
  intro p e s m args below meth c s₁ B hml hv
  obtain ⟨rfl, rfl, hK⟩ := hv
  have hx := B.exec
  have hb := B.bytes
  have hr := B.returns
  have hts0 := atoms_spec (ws := w_MD_make) B.pre
  have hts := fun w (h : w ∈ lw_g) => hts0 w (List.mem_cons_of_mem _ h)
  have hown : s.vm.findClass RMD = some m.cls := findClass_of_methodNamed B.named
  have hlocks := B.notSynchronized
  have hA : ∀ q : Nat, s.heap.size ≤ q → va_A w s.heap.size q := fun _ h => Or.inr h
  have hB : bk G.1 vwCl (va_A w s.heap.size) [w] s.heap := bk_init hP0 hD0
  generalize va_A w s.heap.size = A at *
  have hS : va_S A s.heap s.heap [] := va_S.rf
  obtain ⟨q1, q2, q3, q4, q5, q6, q7, q8, q9, q10, q11, q12, q13, q14, q15, q16, q17, q18, rfl⟩ := hσ
  have hB := bk_many hB
  have hk : 0 + 0 = 0 := rfl
  have hl := lv_entry ([.ref h0, .int i]) (n := 4) (Nat.le_of_ble_eq_true rfl)
  rw [lg_entry_eq]
  generalize (lg_sl ([.ref h0, .int i]) ++ List.replicate (4 - (lg_sl ([.ref h0, .int i])).length) Slot.unset).toArray = ls at hl ⊢
  have hl : lv_has ls 4 [(0, .ref h0), (1, .int i)] := hl
  unfold A_MD_make at hr0
  refine lv_aload_n hx hb d_MD_make_0 rfl (lv_at hl 0 rfl) ?_
  refine lv_iload_n hx hb d_MD_make_1 rfl (lv_at hl 1 rfl) ?_
  have hpk19 : pMD G h0  σ ([[(h0, .inr (6, [.int (gMD_statements σ), .ref q1, .ref q2, .int (gMD_mandatoryCount σ), .int (gMD_rows σ), .ref q3, .ref q4, .ref q5, .ref q6, .ref q7, .int (gMD_fromCount σ), .ref q8, .int (gMD_piled σ), .int (gMD_puts σ), .int (gMD_steps σ), .ref q9, .ref q10, .ref q11, .ref q12, .ref q13, .int (gMD_savedCount σ), .ref q14, .int (gMD_labelCount σ), .ref q15, .int (gMD_letterCount σ), .ref q16, .ref q17, .ref q18]))], [(q1, .inl (G.2.1, 1500, .inl (gMD_takes σ)))], [(q2, .inl (G.2.1, 60, .inl (gMD_mandatories σ)))], [(q3, .inl (G.2.1, 4000, .inl (gMD_makers σ)))], [(q4, .inl (G.2.1, 4000, .inl (gMD_fromAt σ)))], [(q5, .inl (G.2.1, 4000, .inl (gMD_firstSame σ)))], [(q6, .inl (G.2.2.1, 4000, .inr (.inl (gMD_sizes σ))))], [(q7, .inl (G.2.1, 20100, .inl (gMD_froms σ)))], [(q8, .inl (G.2.1, 200, .inl (gMD_pile σ)))], [(q9, .inl (G.2.1, 26000, .inl (gMD_toldStep σ)))], [(q10, .inl (G.2.1, 26000, .inl (gMD_stepRow σ)))], [(q11, .inl (G.2.2.2, 4000, .inl (gMD_isSaved σ)))], [(q12, .inl (G.2.2.2, 4000, .inl (gMD_isTold σ)))], [(q13, .inl (G.2.1, 4000, .inl (gMD_savedNumber σ)))], [(q14, .inl (G.2.1, 1500, .inl (gMD_labels σ)))], [(q15, .inl (G.2.1, 120000, .inl (gMD_letters σ)))], [(q16, .inl (G.2.2.2, 26000, .inl (gMD_saving σ)))], [(q17, .inl (G.2.1, 4001, .inl (gMD_walk σ)))], [(q18, .inl (G.2.1, 4001, .inl (gMD_walkAt σ)))]].flatten) := ⟨q1, q2, q3, q4, q5, q6, q7, q8, q9, q10, q11, q12, q13, q14, q15, q16, q17, q18, rfl⟩
  refine rdV (G := G) (As := [.int i]) (rest := []) (C := RMD) ⟨hx, hb, hml, hown, hts⟩ (c_MD_isStatement l G h0 σ i _ _ hB.1 hpk19 _ rfl) (cwV 1 hts (gd_V ml_MD_74 im_MD_isStatement sl_MD_isStatement ini_MD k_MD_isStatement) rfl rmK_c rmK_s (by decide +kernel) ⟨Nat.le_of_ble_eq_true rfl, Nat.le_of_ble_eq_true rfl⟩) hK (pMD_recv hK hB.1 hpk19) hS ⟨Nat.le.intro hk, Nat.le.intro hk⟩ rfl hl.1 (Nat.le_of_ble_eq_true rfl) d_MD_make_2 (fun locs hS => ?_)
  refine lv_if_eq (tgt := 58) hx hb d_MD_make_5 (by decide) (fun c20 => ?_) (fun c20 => ?_)
  · have hr0 := ai_pos c20 hr0
    refine lv_iconst (v := (-1)) hx hb d_MD_make_58 (by decide) ?_
    have hr0 := Option.some.inj hr0
    subst hr0
    refine W.widen (k := 0) (n := 0) (Nat.le_refl _) (Nat.le_refl _) ?_
    exact W.iret (v := (-1)) hx hb hr (fun t ht hW => ⟨⟨(-1), [[(h0, .inr (6, [.int (gMD_statements σ), .ref q1, .ref q2, .int (gMD_mandatoryCount σ), .int (gMD_rows σ), .ref q3, .ref q4, .ref q5, .ref q6, .ref q7, .int (gMD_fromCount σ), .ref q8, .int (gMD_piled σ), .int (gMD_puts σ), .int (gMD_steps σ), .ref q9, .ref q10, .ref q11, .ref q12, .ref q13, .int (gMD_savedCount σ), .ref q14, .int (gMD_labelCount σ), .ref q15, .int (gMD_letterCount σ), .ref q16, .ref q17, .ref q18]))], [(q1, .inl (G.2.1, 1500, .inl (gMD_takes σ)))], [(q2, .inl (G.2.1, 60, .inl (gMD_mandatories σ)))], [(q3, .inl (G.2.1, 4000, .inl (gMD_makers σ)))], [(q4, .inl (G.2.1, 4000, .inl (gMD_fromAt σ)))], [(q5, .inl (G.2.1, 4000, .inl (gMD_firstSame σ)))], [(q6, .inl (G.2.2.1, 4000, .inr (.inl (gMD_sizes σ))))], [(q7, .inl (G.2.1, 20100, .inl (gMD_froms σ)))], [(q8, .inl (G.2.1, 200, .inl (gMD_pile σ)))], [(q9, .inl (G.2.1, 26000, .inl (gMD_toldStep σ)))], [(q10, .inl (G.2.1, 26000, .inl (gMD_stepRow σ)))], [(q11, .inl (G.2.2.2, 4000, .inl (gMD_isSaved σ)))], [(q12, .inl (G.2.2.2, 4000, .inl (gMD_isTold σ)))], [(q13, .inl (G.2.1, 4000, .inl (gMD_savedNumber σ)))], [(q14, .inl (G.2.1, 1500, .inl (gMD_labels σ)))], [(q15, .inl (G.2.1, 120000, .inl (gMD_letters σ)))], [(q16, .inl (G.2.2.2, 26000, .inl (gMD_saving σ)))], [(q17, .inl (G.2.1, 4001, .inl (gMD_walk σ)))], [(q18, .inl (G.2.1, 4001, .inl (gMD_walkAt σ)))]].flatten, rfl, ⟨rfl, ⟨q1, q2, q3, q4, q5, q6, q7, q8, q9, q10, q11, q12, q13, q14, q15, q16, q17, q18, rfl⟩⟩, by rw [ht]; exact hB.1, hB.2⟩, hS.F ht⟩) hS.2.2 d_MD_make_59
  · have hr0 := ai_neg c20 hr0
    refine lv_aload_n hx hb d_MD_make_8 rfl (lv_at hl 0 rfl) ?_
    refine va_get (D := G.1) (ci := 6) (v := .int (gMD_piled σ)) (C := RMD) (T := TMD) (N := 28) hx hb hts inMD hown hK hB.1 0 rfl rfl 12 (by decide) (hts _ fl_MD_90) (fun _ h9 => h9) rfl d_MD_make_9 ?_
    refine lv_aload_n hx hb d_MD_make_12 rfl (lv_at hl 0 rfl) ?_
    refine va_get (D := G.1) (ci := 6) (v := .ref q1) (C := RMD) (T := TMD) (N := 28) hx hb hts inMD hown hK hB.1 0 rfl rfl 1 (by decide) (hts _ fl_MD_7) (fun _ h9 => h9) rfl d_MD_make_13 ?_
    refine lv_iload_n hx hb d_MD_make_16 rfl (lv_at hl 1 rfl) ?_
    have c21 := og_n hr0
    have hr0 := og_e hr0
    refine va_iald hx hb hK hB.1 1 0 rfl rfl (c21) d_MD_make_17 ?_
    refine lv_icmp_lt (tgt := 58) hx hb d_MD_make_18 (by decide) (fun c22 => ?_) (fun c22 => ?_)
    · have hr0 := ai_pos c22 hr0
      refine lv_iconst (v := (-1)) hx hb d_MD_make_58 (by decide) ?_
      have hr0 := Option.some.inj hr0
      subst hr0
      refine W.widen (k := 0) (n := 0) (Nat.le_refl _) (Nat.le_refl _) ?_
      exact W.iret (v := (-1)) hx hb hr (fun t ht hW => ⟨⟨(-1), [[(h0, .inr (6, [.int (gMD_statements σ), .ref q1, .ref q2, .int (gMD_mandatoryCount σ), .int (gMD_rows σ), .ref q3, .ref q4, .ref q5, .ref q6, .ref q7, .int (gMD_fromCount σ), .ref q8, .int (gMD_piled σ), .int (gMD_puts σ), .int (gMD_steps σ), .ref q9, .ref q10, .ref q11, .ref q12, .ref q13, .int (gMD_savedCount σ), .ref q14, .int (gMD_labelCount σ), .ref q15, .int (gMD_letterCount σ), .ref q16, .ref q17, .ref q18]))], [(q1, .inl (G.2.1, 1500, .inl (gMD_takes σ)))], [(q2, .inl (G.2.1, 60, .inl (gMD_mandatories σ)))], [(q3, .inl (G.2.1, 4000, .inl (gMD_makers σ)))], [(q4, .inl (G.2.1, 4000, .inl (gMD_fromAt σ)))], [(q5, .inl (G.2.1, 4000, .inl (gMD_firstSame σ)))], [(q6, .inl (G.2.2.1, 4000, .inr (.inl (gMD_sizes σ))))], [(q7, .inl (G.2.1, 20100, .inl (gMD_froms σ)))], [(q8, .inl (G.2.1, 200, .inl (gMD_pile σ)))], [(q9, .inl (G.2.1, 26000, .inl (gMD_toldStep σ)))], [(q10, .inl (G.2.1, 26000, .inl (gMD_stepRow σ)))], [(q11, .inl (G.2.2.2, 4000, .inl (gMD_isSaved σ)))], [(q12, .inl (G.2.2.2, 4000, .inl (gMD_isTold σ)))], [(q13, .inl (G.2.1, 4000, .inl (gMD_savedNumber σ)))], [(q14, .inl (G.2.1, 1500, .inl (gMD_labels σ)))], [(q15, .inl (G.2.1, 120000, .inl (gMD_letters σ)))], [(q16, .inl (G.2.2.2, 26000, .inl (gMD_saving σ)))], [(q17, .inl (G.2.1, 4001, .inl (gMD_walk σ)))], [(q18, .inl (G.2.1, 4001, .inl (gMD_walkAt σ)))]].flatten, rfl, ⟨rfl, ⟨q1, q2, q3, q4, q5, q6, q7, q8, q9, q10, q11, q12, q13, q14, q15, q16, q17, q18, rfl⟩⟩, by rw [ht]; exact hB.1, hB.2⟩, hS.F ht⟩) hS.2.2 d_MD_make_59
    · have hr0 := ai_neg c22 hr0
      refine lv_aload_n hx hb d_MD_make_21 rfl (lv_at hl 0 rfl) ?_
      refine va_get (D := G.1) (ci := 6) (v := .int (gMD_rows σ)) (C := RMD) (T := TMD) (N := 28) hx hb hts inMD hown hK hB.1 0 rfl rfl 4 (by decide) (hts _ fl_MD_93) (fun _ h9 => h9) rfl d_MD_make_22 ?_
      refine lv_sipush (v := 4000) hx hb d_MD_make_25 (by decide) ?_
      refine lv_icmp_eq (tgt := 58) hx hb d_MD_make_28 (by decide) (fun c23 => ?_) (fun c23 => ?_)
      · have hr0 := ai_pos c23 hr0
        refine lv_iconst (v := (-1)) hx hb d_MD_make_58 (by decide) ?_
        have hr0 := Option.some.inj hr0
        subst hr0
        refine W.widen (k := 0) (n := 0) (Nat.le_refl _) (Nat.le_refl _) ?_
        exact W.iret (v := (-1)) hx hb hr (fun t ht hW => ⟨⟨(-1), [[(h0, .inr (6, [.int (gMD_statements σ), .ref q1, .ref q2, .int (gMD_mandatoryCount σ), .int (gMD_rows σ), .ref q3, .ref q4, .ref q5, .ref q6, .ref q7, .int (gMD_fromCount σ), .ref q8, .int (gMD_piled σ), .int (gMD_puts σ), .int (gMD_steps σ), .ref q9, .ref q10, .ref q11, .ref q12, .ref q13, .int (gMD_savedCount σ), .ref q14, .int (gMD_labelCount σ), .ref q15, .int (gMD_letterCount σ), .ref q16, .ref q17, .ref q18]))], [(q1, .inl (G.2.1, 1500, .inl (gMD_takes σ)))], [(q2, .inl (G.2.1, 60, .inl (gMD_mandatories σ)))], [(q3, .inl (G.2.1, 4000, .inl (gMD_makers σ)))], [(q4, .inl (G.2.1, 4000, .inl (gMD_fromAt σ)))], [(q5, .inl (G.2.1, 4000, .inl (gMD_firstSame σ)))], [(q6, .inl (G.2.2.1, 4000, .inr (.inl (gMD_sizes σ))))], [(q7, .inl (G.2.1, 20100, .inl (gMD_froms σ)))], [(q8, .inl (G.2.1, 200, .inl (gMD_pile σ)))], [(q9, .inl (G.2.1, 26000, .inl (gMD_toldStep σ)))], [(q10, .inl (G.2.1, 26000, .inl (gMD_stepRow σ)))], [(q11, .inl (G.2.2.2, 4000, .inl (gMD_isSaved σ)))], [(q12, .inl (G.2.2.2, 4000, .inl (gMD_isTold σ)))], [(q13, .inl (G.2.1, 4000, .inl (gMD_savedNumber σ)))], [(q14, .inl (G.2.1, 1500, .inl (gMD_labels σ)))], [(q15, .inl (G.2.1, 120000, .inl (gMD_letters σ)))], [(q16, .inl (G.2.2.2, 26000, .inl (gMD_saving σ)))], [(q17, .inl (G.2.1, 4001, .inl (gMD_walk σ)))], [(q18, .inl (G.2.1, 4001, .inl (gMD_walkAt σ)))]].flatten, rfl, ⟨rfl, ⟨q1, q2, q3, q4, q5, q6, q7, q8, q9, q10, q11, q12, q13, q14, q15, q16, q17, q18, rfl⟩⟩, by rw [ht]; exact hB.1, hB.2⟩, hS.F ht⟩) hS.2.2 d_MD_make_59
      · have hr0 := ai_neg c23 hr0
        refine lv_aload_n hx hb d_MD_make_31 rfl (lv_at hl 0 rfl) ?_
        refine va_get (D := G.1) (ci := 6) (v := .int (gMD_piled σ)) (C := RMD) (T := TMD) (N := 28) hx hb hts inMD hown hK hB.1 0 rfl rfl 12 (by decide) (hts _ fl_MD_90) (fun _ h9 => h9) rfl d_MD_make_32 ?_
        refine lv_aload_n hx hb d_MD_make_35 rfl (lv_at hl 0 rfl) ?_
        refine va_get (D := G.1) (ci := 6) (v := .ref q1) (C := RMD) (T := TMD) (N := 28) hx hb hts inMD hown hK hB.1 0 rfl rfl 1 (by decide) (hts _ fl_MD_7) (fun _ h9 => h9) rfl d_MD_make_36 ?_
        refine lv_iload_n hx hb d_MD_make_39 rfl (lv_at hl 1 rfl) ?_
        have c24 := og_n hr0
        have hr0 := og_e hr0
        refine va_iald hx hb hK hB.1 1 0 rfl rfl (c24) d_MD_make_40 ?_
        refine lv_isub hx hb d_MD_make_41 ?_
        refine lv_sipush (v := 200) hx hb d_MD_make_42 (by decide) ?_
        refine lv_icmp_eq (tgt := 58) hx hb d_MD_make_45 (by decide) (fun c25 => ?_) (fun c25 => ?_)
        · have hr0 := ai_pos c25 hr0
          refine lv_iconst (v := (-1)) hx hb d_MD_make_58 (by decide) ?_
          have hr0 := Option.some.inj hr0
          subst hr0
          refine W.widen (k := 0) (n := 0) (Nat.le_refl _) (Nat.le_refl _) ?_
          exact W.iret (v := (-1)) hx hb hr (fun t ht hW => ⟨⟨(-1), [[(h0, .inr (6, [.int (gMD_statements σ), .ref q1, .ref q2, .int (gMD_mandatoryCount σ), .int (gMD_rows σ), .ref q3, .ref q4, .ref q5, .ref q6, .ref q7, .int (gMD_fromCount σ), .ref q8, .int (gMD_piled σ), .int (gMD_puts σ), .int (gMD_steps σ), .ref q9, .ref q10, .ref q11, .ref q12, .ref q13, .int (gMD_savedCount σ), .ref q14, .int (gMD_labelCount σ), .ref q15, .int (gMD_letterCount σ), .ref q16, .ref q17, .ref q18]))], [(q1, .inl (G.2.1, 1500, .inl (gMD_takes σ)))], [(q2, .inl (G.2.1, 60, .inl (gMD_mandatories σ)))], [(q3, .inl (G.2.1, 4000, .inl (gMD_makers σ)))], [(q4, .inl (G.2.1, 4000, .inl (gMD_fromAt σ)))], [(q5, .inl (G.2.1, 4000, .inl (gMD_firstSame σ)))], [(q6, .inl (G.2.2.1, 4000, .inr (.inl (gMD_sizes σ))))], [(q7, .inl (G.2.1, 20100, .inl (gMD_froms σ)))], [(q8, .inl (G.2.1, 200, .inl (gMD_pile σ)))], [(q9, .inl (G.2.1, 26000, .inl (gMD_toldStep σ)))], [(q10, .inl (G.2.1, 26000, .inl (gMD_stepRow σ)))], [(q11, .inl (G.2.2.2, 4000, .inl (gMD_isSaved σ)))], [(q12, .inl (G.2.2.2, 4000, .inl (gMD_isTold σ)))], [(q13, .inl (G.2.1, 4000, .inl (gMD_savedNumber σ)))], [(q14, .inl (G.2.1, 1500, .inl (gMD_labels σ)))], [(q15, .inl (G.2.1, 120000, .inl (gMD_letters σ)))], [(q16, .inl (G.2.2.2, 26000, .inl (gMD_saving σ)))], [(q17, .inl (G.2.1, 4001, .inl (gMD_walk σ)))], [(q18, .inl (G.2.1, 4001, .inl (gMD_walkAt σ)))]].flatten, rfl, ⟨rfl, ⟨q1, q2, q3, q4, q5, q6, q7, q8, q9, q10, q11, q12, q13, q14, q15, q16, q17, q18, rfl⟩⟩, by rw [ht]; exact hB.1, hB.2⟩, hS.F ht⟩) hS.2.2 d_MD_make_59
        · have hr0 := ai_neg c25 hr0
          refine lv_aload_n hx hb d_MD_make_48 rfl (lv_at hl 0 rfl) ?_
          refine va_get (D := G.1) (ci := 6) (v := .int (gMD_puts σ)) (C := RMD) (T := TMD) (N := 28) hx hb hts inMD hown hK hB.1 0 rfl rfl 13 (by decide) (hts _ fl_MD_96) (fun _ h9 => h9) rfl d_MD_make_49 ?_
          refine lv_sipush (v := 20000) hx hb d_MD_make_52 (by decide) ?_
          refine lv_icmp_ne (tgt := 60) hx hb d_MD_make_55 (by decide) (fun c26 => ?_) (fun c26 => ?_)
          · have hr0 := ai_neg c26 hr0
            refine lv_aload_n hx hb d_MD_make_60 rfl (lv_at hl 0 rfl) ?_
            refine va_get (D := G.1) (ci := 6) (v := .ref q1) (C := RMD) (T := TMD) (N := 28) hx hb hts inMD hown hK hB.1 0 rfl rfl 1 (by decide) (hts _ fl_MD_7) (fun _ h9 => h9) rfl d_MD_make_61 ?_
            refine lv_iload_n hx hb d_MD_make_64 rfl (lv_at hl 1 rfl) ?_
            have c27 := og_n hr0
            have hr0 := og_e hr0
            refine va_iald hx hb hK hB.1 1 0 rfl rfl (c27) d_MD_make_65 ?_
            refine lv_istore_n (lv' := [(2, .int ((gMD_takes σ) i.toNatClampNeg)), (0, .ref h0), (1, .int i)]) hx hb d_MD_make_66 rfl hl (by decide) rfl (fun ls hl => ?_)
            refine lv_aload_n hx hb d_MD_make_67 rfl (lv_at hl 1 rfl) ?_
            refine va_get (D := G.1) (ci := 6) (v := .ref q3) (C := RMD) (T := TMD) (N := 28) hx hb hts inMD hown hK hB.1 0 rfl rfl 5 (by decide) (hts _ fl_MD_16) (fun _ h9 => h9) rfl d_MD_make_68 ?_
            refine lv_aload_n hx hb d_MD_make_71 rfl (lv_at hl 1 rfl) ?_
            refine va_get (D := G.1) (ci := 6) (v := .int (gMD_rows σ)) (C := RMD) (T := TMD) (N := 28) hx hb hts inMD hown hK hB.1 0 rfl rfl 4 (by decide) (hts _ fl_MD_93) (fun _ h9 => h9) rfl d_MD_make_72 ?_
            refine lv_iload_n hx hb d_MD_make_75 rfl (lv_at hl 2 rfl) ?_
            have c28 := og_n hr0
            have hr0 := og_e hr0
            refine va_iast hx hb hK hB.1 hB.2 hS 3 0 rfl rfl (c28) d_MD_make_76 (fun H locs hP hD hS => ?_)
            have hB : bk G.1 vwCl A [[(h0, .inr (6, [.int (gMD_statements σ), .ref q1, .ref q2, .int (gMD_mandatoryCount σ), .int (gMD_rows σ), .ref q3, .ref q4, .ref q5, .ref q6, .ref q7, .int (gMD_fromCount σ), .ref q8, .int (gMD_piled σ), .int (gMD_puts σ), .int (gMD_steps σ), .ref q9, .ref q10, .ref q11, .ref q12, .ref q13, .int (gMD_savedCount σ), .ref q14, .int (gMD_labelCount σ), .ref q15, .int (gMD_letterCount σ), .ref q16, .ref q17, .ref q18]))], [(q1, .inl (G.2.1, 1500, .inl (gMD_takes σ)))], [(q2, .inl (G.2.1, 60, .inl (gMD_mandatories σ)))], [(q3, .inl (G.2.1, 4000, .inl (upd (gMD_makers σ) (gMD_rows σ).toNatClampNeg i)))], [(q4, .inl (G.2.1, 4000, .inl (gMD_fromAt σ)))], [(q5, .inl (G.2.1, 4000, .inl (gMD_firstSame σ)))], [(q6, .inl (G.2.2.1, 4000, .inr (.inl (gMD_sizes σ))))], [(q7, .inl (G.2.1, 20100, .inl (gMD_froms σ)))], [(q8, .inl (G.2.1, 200, .inl (gMD_pile σ)))], [(q9, .inl (G.2.1, 26000, .inl (gMD_toldStep σ)))], [(q10, .inl (G.2.1, 26000, .inl (gMD_stepRow σ)))], [(q11, .inl (G.2.2.2, 4000, .inl (gMD_isSaved σ)))], [(q12, .inl (G.2.2.2, 4000, .inl (gMD_isTold σ)))], [(q13, .inl (G.2.1, 4000, .inl (gMD_savedNumber σ)))], [(q14, .inl (G.2.1, 1500, .inl (gMD_labels σ)))], [(q15, .inl (G.2.1, 120000, .inl (gMD_letters σ)))], [(q16, .inl (G.2.2.2, 26000, .inl (gMD_saving σ)))], [(q17, .inl (G.2.1, 4001, .inl (gMD_walk σ)))], [(q18, .inl (G.2.1, 4001, .inl (gMD_walkAt σ)))]] H := ⟨hP, hD⟩
            obtain ⟨T29, hT30⟩ : ∃ z, uMD_makers σ (upd (gMD_makers σ) (gMD_rows σ).toNatClampNeg i) = z := ⟨_, rfl⟩
            have hr0 := bnd_e hT30 hr0
            have hB : bk G.1 vwCl A [[(h0, .inr (6, [.int (gMD_statements T29), .ref q1, .ref q2, .int (gMD_mandatoryCount T29), .int (gMD_rows T29), .ref q3, .ref q4, .ref q5, .ref q6, .ref q7, .int (gMD_fromCount T29), .ref q8, .int (gMD_piled T29), .int (gMD_puts T29), .int (gMD_steps T29), .ref q9, .ref q10, .ref q11, .ref q12, .ref q13, .int (gMD_savedCount T29), .ref q14, .int (gMD_labelCount T29), .ref q15, .int (gMD_letterCount T29), .ref q16, .ref q17, .ref q18]))], [(q1, .inl (G.2.1, 1500, .inl (gMD_takes T29)))], [(q2, .inl (G.2.1, 60, .inl (gMD_mandatories T29)))], [(q3, .inl (G.2.1, 4000, .inl (gMD_makers T29)))], [(q4, .inl (G.2.1, 4000, .inl (gMD_fromAt T29)))], [(q5, .inl (G.2.1, 4000, .inl (gMD_firstSame T29)))], [(q6, .inl (G.2.2.1, 4000, .inr (.inl (gMD_sizes T29))))], [(q7, .inl (G.2.1, 20100, .inl (gMD_froms T29)))], [(q8, .inl (G.2.1, 200, .inl (gMD_pile T29)))], [(q9, .inl (G.2.1, 26000, .inl (gMD_toldStep T29)))], [(q10, .inl (G.2.1, 26000, .inl (gMD_stepRow T29)))], [(q11, .inl (G.2.2.2, 4000, .inl (gMD_isSaved T29)))], [(q12, .inl (G.2.2.2, 4000, .inl (gMD_isTold T29)))], [(q13, .inl (G.2.1, 4000, .inl (gMD_savedNumber T29)))], [(q14, .inl (G.2.1, 1500, .inl (gMD_labels T29)))], [(q15, .inl (G.2.1, 120000, .inl (gMD_letters T29)))], [(q16, .inl (G.2.2.2, 26000, .inl (gMD_saving T29)))], [(q17, .inl (G.2.1, 4001, .inl (gMD_walk T29)))], [(q18, .inl (G.2.1, 4001, .inl (gMD_walkAt T29)))]] H := by subst hT30; exact hB
            refine lv_aload_n hx hb d_MD_make_77 rfl (lv_at hl 1 rfl) ?_
            refine va_get (D := G.1) (ci := 6) (v := .ref q4) (C := RMD) (T := TMD) (N := 28) hx hb hts inMD hown hK hB.1 0 rfl rfl 6 (by decide) (hts _ fl_MD_19) (fun _ h9 => h9) rfl d_MD_make_78 ?_
            refine lv_aload_n hx hb d_MD_make_81 rfl (lv_at hl 1 rfl) ?_
            refine va_get (D := G.1) (ci := 6) (v := .int (gMD_rows T29)) (C := RMD) (T := TMD) (N := 28) hx hb hts inMD hown hK hB.1 0 rfl rfl 4 (by decide) (hts _ fl_MD_93) (fun _ h9 => h9) rfl d_MD_make_82 ?_
            refine lv_aload_n hx hb d_MD_make_85 rfl (lv_at hl 1 rfl) ?_
            refine va_get (D := G.1) (ci := 6) (v := .int (gMD_fromCount T29)) (C := RMD) (T := TMD) (N := 28) hx hb hts inMD hown hK hB.1 0 rfl rfl 10 (by decide) (hts _ fl_MD_99) (fun _ h9 => h9) rfl d_MD_make_86 ?_
            have c31 := og_n hr0
            have hr0 := og_e hr0
            refine va_iast hx hb hK hB.1 hB.2 hS 4 0 rfl rfl (c31) d_MD_make_89 (fun H locs hP hD hS => ?_)
            have hB : bk G.1 vwCl A [[(h0, .inr (6, [.int (gMD_statements T29), .ref q1, .ref q2, .int (gMD_mandatoryCount T29), .int (gMD_rows T29), .ref q3, .ref q4, .ref q5, .ref q6, .ref q7, .int (gMD_fromCount T29), .ref q8, .int (gMD_piled T29), .int (gMD_puts T29), .int (gMD_steps T29), .ref q9, .ref q10, .ref q11, .ref q12, .ref q13, .int (gMD_savedCount T29), .ref q14, .int (gMD_labelCount T29), .ref q15, .int (gMD_letterCount T29), .ref q16, .ref q17, .ref q18]))], [(q1, .inl (G.2.1, 1500, .inl (gMD_takes T29)))], [(q2, .inl (G.2.1, 60, .inl (gMD_mandatories T29)))], [(q3, .inl (G.2.1, 4000, .inl (gMD_makers T29)))], [(q4, .inl (G.2.1, 4000, .inl (upd (gMD_fromAt T29) (gMD_rows T29).toNatClampNeg (gMD_fromCount T29))))], [(q5, .inl (G.2.1, 4000, .inl (gMD_firstSame T29)))], [(q6, .inl (G.2.2.1, 4000, .inr (.inl (gMD_sizes T29))))], [(q7, .inl (G.2.1, 20100, .inl (gMD_froms T29)))], [(q8, .inl (G.2.1, 200, .inl (gMD_pile T29)))], [(q9, .inl (G.2.1, 26000, .inl (gMD_toldStep T29)))], [(q10, .inl (G.2.1, 26000, .inl (gMD_stepRow T29)))], [(q11, .inl (G.2.2.2, 4000, .inl (gMD_isSaved T29)))], [(q12, .inl (G.2.2.2, 4000, .inl (gMD_isTold T29)))], [(q13, .inl (G.2.1, 4000, .inl (gMD_savedNumber T29)))], [(q14, .inl (G.2.1, 1500, .inl (gMD_labels T29)))], [(q15, .inl (G.2.1, 120000, .inl (gMD_letters T29)))], [(q16, .inl (G.2.2.2, 26000, .inl (gMD_saving T29)))], [(q17, .inl (G.2.1, 4001, .inl (gMD_walk T29)))], [(q18, .inl (G.2.1, 4001, .inl (gMD_walkAt T29)))]] H := ⟨hP, hD⟩
            obtain ⟨T32, hT33⟩ : ∃ z, uMD_fromAt T29 (upd (gMD_fromAt T29) (gMD_rows T29).toNatClampNeg (gMD_fromCount T29)) = z := ⟨_, rfl⟩
            have hr0 := bnd_e hT33 hr0
            have hB : bk G.1 vwCl A [[(h0, .inr (6, [.int (gMD_statements T32), .ref q1, .ref q2, .int (gMD_mandatoryCount T32), .int (gMD_rows T32), .ref q3, .ref q4, .ref q5, .ref q6, .ref q7, .int (gMD_fromCount T32), .ref q8, .int (gMD_piled T32), .int (gMD_puts T32), .int (gMD_steps T32), .ref q9, .ref q10, .ref q11, .ref q12, .ref q13, .int (gMD_savedCount T32), .ref q14, .int (gMD_labelCount T32), .ref q15, .int (gMD_letterCount T32), .ref q16, .ref q17, .ref q18]))], [(q1, .inl (G.2.1, 1500, .inl (gMD_takes T32)))], [(q2, .inl (G.2.1, 60, .inl (gMD_mandatories T32)))], [(q3, .inl (G.2.1, 4000, .inl (gMD_makers T32)))], [(q4, .inl (G.2.1, 4000, .inl (gMD_fromAt T32)))], [(q5, .inl (G.2.1, 4000, .inl (gMD_firstSame T32)))], [(q6, .inl (G.2.2.1, 4000, .inr (.inl (gMD_sizes T32))))], [(q7, .inl (G.2.1, 20100, .inl (gMD_froms T32)))], [(q8, .inl (G.2.1, 200, .inl (gMD_pile T32)))], [(q9, .inl (G.2.1, 26000, .inl (gMD_toldStep T32)))], [(q10, .inl (G.2.1, 26000, .inl (gMD_stepRow T32)))], [(q11, .inl (G.2.2.2, 4000, .inl (gMD_isSaved T32)))], [(q12, .inl (G.2.2.2, 4000, .inl (gMD_isTold T32)))], [(q13, .inl (G.2.1, 4000, .inl (gMD_savedNumber T32)))], [(q14, .inl (G.2.1, 1500, .inl (gMD_labels T32)))], [(q15, .inl (G.2.1, 120000, .inl (gMD_letters T32)))], [(q16, .inl (G.2.2.2, 26000, .inl (gMD_saving T32)))], [(q17, .inl (G.2.1, 4001, .inl (gMD_walk T32)))], [(q18, .inl (G.2.1, 4001, .inl (gMD_walkAt T32)))]] H := by subst hT33; exact hB
            refine lv_iconst (v := 0) hx hb d_MD_make_90 (by decide) ?_
            refine lv_istore_n (lv' := [(3, .int 0), (2, .int ((gMD_takes σ) i.toNatClampNeg)), (0, .ref h0), (1, .int i)]) hx hb d_MD_make_91 rfl hl (by decide) rfl (fun ls hl => ?_)
            refine lp_W (I := fun n92 H locs kc ls => ∃ (k : Int32) (τ : tMD) (w : va_W), pMD G h0  τ w ∧ bk G.1 vwCl A [w] H ∧ va_S A s.heap H locs ∧ lv_has ls 4 [(0, .ref h0), (2, .int ((gMD_takes σ) i.toNatClampNeg)), (3, .int k)] ∧ A_MD_make_L92 ((gMD_takes σ) i.toNatClampNeg) n92 k τ = some res ∧ kc = 0) ?_ ?_ fuelM _ _ _ _ ⟨0, T32, _, ⟨q1, q2, q3, q4, q5, q6, q7, q8, q9, q10, q11, q12, q13, q14, q15, q16, q17, q18, rfl⟩, bk_one hB, hS, lv_sub hl [2, 1, 0] rfl, hr0, rfl⟩
            · intro n92 ih92 H locs kc ls ⟨k, τ, w, hτ, hB, hS, hl, hr0, hkc⟩
              subst hkc
              obtain ⟨q34, q35, q36, q37, q38, q39, q40, q41, q42, q43, q44, q45, q46, q47, q48, q49, q50, q51, rfl⟩ := hτ
              have hB := bk_many hB
              rw [A_MD_make_L92] at hr0
              refine lv_iload_n hx hb d_MD_make_92 rfl (lv_at hl 2 rfl) ?_
              refine lv_iload_n hx hb d_MD_make_93 rfl (lv_at hl 1 rfl) ?_
              refine lv_icmp_ge (tgt := 135) hx hb d_MD_make_94 (by decide) (fun c52 => ?_) (fun c52 => ?_)
              · have hr0 := ai_pos c52 hr0
                refine lv_aload_n hx hb d_MD_make_135 rfl (lv_at hl 0 rfl) ?_
                refine lv_dup hx hb d_MD_make_136 rfl ?_
                refine va_get (D := G.1) (ci := 6) (v := .int (gMD_piled τ)) (C := RMD) (T := TMD) (N := 28) hx hb hts inMD hown hK hB.1 0 rfl rfl 12 (by decide) (hts _ fl_MD_90) (fun _ h9 => h9) rfl d_MD_make_137 ?_
                refine lv_iload_n hx hb d_MD_make_140 rfl (lv_at hl 1 rfl) ?_
                refine lv_isub hx hb d_MD_make_141 ?_
                refine va_put (D := G.1) (ci := 6) (v := .int ((gMD_piled τ) - ((gMD_takes σ) i.toNatClampNeg))) (ty := .int) (C := RMD) (T := TMD) (N := 28) hx hb hts inMD tyMD tokMD nmMD hown hK hB.1 hB.2 hS 0 rfl rfl 12 (by decide) (hts _ fl_MD_90) (fun _ h9 => h9) rfl (by decide +kernel) rfl rfl (Nat.le_of_ble_eq_true rfl) d_MD_make_142 (fun H locs hP hD hS => ?_)
                have hB : bk G.1 vwCl A [[(h0, .inr (6, [.int (gMD_statements τ), .ref q34, .ref q35, .int (gMD_mandatoryCount τ), .int (gMD_rows τ), .ref q36, .ref q37, .ref q38, .ref q39, .ref q40, .int (gMD_fromCount τ), .ref q41, .int ((gMD_piled τ) - ((gMD_takes σ) i.toNatClampNeg)), .int (gMD_puts τ), .int (gMD_steps τ), .ref q42, .ref q43, .ref q44, .ref q45, .ref q46, .int (gMD_savedCount τ), .ref q47, .int (gMD_labelCount τ), .ref q48, .int (gMD_letterCount τ), .ref q49, .ref q50, .ref q51]))], [(q34, .inl (G.2.1, 1500, .inl (gMD_takes τ)))], [(q35, .inl (G.2.1, 60, .inl (gMD_mandatories τ)))], [(q36, .inl (G.2.1, 4000, .inl (gMD_makers τ)))], [(q37, .inl (G.2.1, 4000, .inl (gMD_fromAt τ)))], [(q38, .inl (G.2.1, 4000, .inl (gMD_firstSame τ)))], [(q39, .inl (G.2.2.1, 4000, .inr (.inl (gMD_sizes τ))))], [(q40, .inl (G.2.1, 20100, .inl (gMD_froms τ)))], [(q41, .inl (G.2.1, 200, .inl (gMD_pile τ)))], [(q42, .inl (G.2.1, 26000, .inl (gMD_toldStep τ)))], [(q43, .inl (G.2.1, 26000, .inl (gMD_stepRow τ)))], [(q44, .inl (G.2.2.2, 4000, .inl (gMD_isSaved τ)))], [(q45, .inl (G.2.2.2, 4000, .inl (gMD_isTold τ)))], [(q46, .inl (G.2.1, 4000, .inl (gMD_savedNumber τ)))], [(q47, .inl (G.2.1, 1500, .inl (gMD_labels τ)))], [(q48, .inl (G.2.1, 120000, .inl (gMD_letters τ)))], [(q49, .inl (G.2.2.2, 26000, .inl (gMD_saving τ)))], [(q50, .inl (G.2.1, 4001, .inl (gMD_walk τ)))], [(q51, .inl (G.2.1, 4001, .inl (gMD_walkAt τ)))]] H := ⟨hP, hD⟩
                obtain ⟨T53, hT54⟩ : ∃ z, uMD_piled τ ((gMD_piled τ) - ((gMD_takes σ) i.toNatClampNeg)) = z := ⟨_, rfl⟩
                have hr0 := bnd_e hT54 hr0
                have hB : bk G.1 vwCl A [[(h0, .inr (6, [.int (gMD_statements T53), .ref q34, .ref q35, .int (gMD_mandatoryCount T53), .int (gMD_rows T53), .ref q36, .ref q37, .ref q38, .ref q39, .ref q40, .int (gMD_fromCount T53), .ref q41, .int (gMD_piled T53), .int (gMD_puts T53), .int (gMD_steps T53), .ref q42, .ref q43, .ref q44, .ref q45, .ref q46, .int (gMD_savedCount T53), .ref q47, .int (gMD_labelCount T53), .ref q48, .int (gMD_letterCount T53), .ref q49, .ref q50, .ref q51]))], [(q34, .inl (G.2.1, 1500, .inl (gMD_takes T53)))], [(q35, .inl (G.2.1, 60, .inl (gMD_mandatories T53)))], [(q36, .inl (G.2.1, 4000, .inl (gMD_makers T53)))], [(q37, .inl (G.2.1, 4000, .inl (gMD_fromAt T53)))], [(q38, .inl (G.2.1, 4000, .inl (gMD_firstSame T53)))], [(q39, .inl (G.2.2.1, 4000, .inr (.inl (gMD_sizes T53))))], [(q40, .inl (G.2.1, 20100, .inl (gMD_froms T53)))], [(q41, .inl (G.2.1, 200, .inl (gMD_pile T53)))], [(q42, .inl (G.2.1, 26000, .inl (gMD_toldStep T53)))], [(q43, .inl (G.2.1, 26000, .inl (gMD_stepRow T53)))], [(q44, .inl (G.2.2.2, 4000, .inl (gMD_isSaved T53)))], [(q45, .inl (G.2.2.2, 4000, .inl (gMD_isTold T53)))], [(q46, .inl (G.2.1, 4000, .inl (gMD_savedNumber T53)))], [(q47, .inl (G.2.1, 1500, .inl (gMD_labels T53)))], [(q48, .inl (G.2.1, 120000, .inl (gMD_letters T53)))], [(q49, .inl (G.2.2.2, 26000, .inl (gMD_saving T53)))], [(q50, .inl (G.2.1, 4001, .inl (gMD_walk T53)))], [(q51, .inl (G.2.1, 4001, .inl (gMD_walkAt T53)))]] H := by subst hT54; exact hB
                refine lv_aload_n hx hb d_MD_make_145 rfl (lv_at hl 0 rfl) ?_
                refine lv_aload_n hx hb d_MD_make_146 rfl (lv_at hl 0 rfl) ?_
                refine va_get (D := G.1) (ci := 6) (v := .int (gMD_rows T53)) (C := RMD) (T := TMD) (N := 28) hx hb hts inMD hown hK hB.1 0 rfl rfl 4 (by decide) (hts _ fl_MD_93) (fun _ h9 => h9) rfl d_MD_make_147 ?_
                have hB := bk_one hB
                have hpk55 : pMD G h0  T53 ([[(h0, .inr (6, [.int (gMD_statements T53), .ref q34, .ref q35, .int (gMD_mandatoryCount T53), .int (gMD_rows T53), .ref q36, .ref q37, .ref q38, .ref q39, .ref q40, .int (gMD_fromCount T53), .ref q41, .int (gMD_piled T53), .int (gMD_puts T53), .int (gMD_steps T53), .ref q42, .ref q43, .ref q44, .ref q45, .ref q46, .int (gMD_savedCount T53), .ref q47, .int (gMD_labelCount T53), .ref q48, .int (gMD_letterCount T53), .ref q49, .ref q50, .ref q51]))], [(q34, .inl (G.2.1, 1500, .inl (gMD_takes T53)))], [(q35, .inl (G.2.1, 60, .inl (gMD_mandatories T53)))], [(q36, .inl (G.2.1, 4000, .inl (gMD_makers T53)))], [(q37, .inl (G.2.1, 4000, .inl (gMD_fromAt T53)))], [(q38, .inl (G.2.1, 4000, .inl (gMD_firstSame T53)))], [(q39, .inl (G.2.2.1, 4000, .inr (.inl (gMD_sizes T53))))], [(q40, .inl (G.2.1, 20100, .inl (gMD_froms T53)))], [(q41, .inl (G.2.1, 200, .inl (gMD_pile T53)))], [(q42, .inl (G.2.1, 26000, .inl (gMD_toldStep T53)))], [(q43, .inl (G.2.1, 26000, .inl (gMD_stepRow T53)))], [(q44, .inl (G.2.2.2, 4000, .inl (gMD_isSaved T53)))], [(q45, .inl (G.2.2.2, 4000, .inl (gMD_isTold T53)))], [(q46, .inl (G.2.1, 4000, .inl (gMD_savedNumber T53)))], [(q47, .inl (G.2.1, 1500, .inl (gMD_labels T53)))], [(q48, .inl (G.2.1, 120000, .inl (gMD_letters T53)))], [(q49, .inl (G.2.2.2, 26000, .inl (gMD_saving T53)))], [(q50, .inl (G.2.1, 4001, .inl (gMD_walk T53)))], [(q51, .inl (G.2.1, 4001, .inl (gMD_walkAt T53)))]].flatten) := ⟨q34, q35, q36, q37, q38, q39, q40, q41, q42, q43, q44, q45, q46, q47, q48, q49, q50, q51, rfl⟩
                obtain ⟨T56, hT57, hr0⟩ := ob_e hr0
                refine wrV0 (G := G) (k := 0) (As := [.int (gMD_rows T53)]) (rest := []) (C := RMD) ⟨hx, hb, hml, hown, hts⟩ (c_MD_findSame l G h0 T53 (gMD_rows T53) _ _ (bk_gP (k := 0) hB.1 rfl) (bk_own (k := 0) hB rfl) hpk55 T56 hT57) (cwV 1 hts (gd_V ml_MD_102 im_MD_findSame sl_MD_findSame ini_MD k_MD_findSame) rfl rmK_c rmK_s (by decide +kernel) ⟨Nat.le_of_ble_eq_true rfl, Nat.le_of_ble_eq_true rfl⟩) hK (pMD_recv hK (bk_gP (k := 0) hB.1 rfl) hpk55) hS hA hB rfl hk ⟨rfl, rfl⟩ rfl hl.1 (Nat.le_of_ble_eq_true rfl) d_MD_make_150 (fun u58 H locs hu59 hB hS => ?_)
                have hB : bk G.1 vwCl A [u58] H := hB
                obtain ⟨q60, q61, q62, q63, q64, q65, q66, q67, q68, q69, q70, q71, q72, q73, q74, q75, q76, q77, rfl⟩ := hu59
                have hB : bk G.1 vwCl A [[(h0, .inr (6, [.int (gMD_statements T56), .ref q60, .ref q61, .int (gMD_mandatoryCount T56), .int (gMD_rows T56), .ref q62, .ref q63, .ref q64, .ref q65, .ref q66, .int (gMD_fromCount T56), .ref q67, .int (gMD_piled T56), .int (gMD_puts T56), .int (gMD_steps T56), .ref q68, .ref q69, .ref q70, .ref q71, .ref q72, .int (gMD_savedCount T56), .ref q73, .int (gMD_labelCount T56), .ref q74, .int (gMD_letterCount T56), .ref q75, .ref q76, .ref q77]))], [(q60, .inl (G.2.1, 1500, .inl (gMD_takes T56)))], [(q61, .inl (G.2.1, 60, .inl (gMD_mandatories T56)))], [(q62, .inl (G.2.1, 4000, .inl (gMD_makers T56)))], [(q63, .inl (G.2.1, 4000, .inl (gMD_fromAt T56)))], [(q64, .inl (G.2.1, 4000, .inl (gMD_firstSame T56)))], [(q65, .inl (G.2.2.1, 4000, .inr (.inl (gMD_sizes T56))))], [(q66, .inl (G.2.1, 20100, .inl (gMD_froms T56)))], [(q67, .inl (G.2.1, 200, .inl (gMD_pile T56)))], [(q68, .inl (G.2.1, 26000, .inl (gMD_toldStep T56)))], [(q69, .inl (G.2.1, 26000, .inl (gMD_stepRow T56)))], [(q70, .inl (G.2.2.2, 4000, .inl (gMD_isSaved T56)))], [(q71, .inl (G.2.2.2, 4000, .inl (gMD_isTold T56)))], [(q72, .inl (G.2.1, 4000, .inl (gMD_savedNumber T56)))], [(q73, .inl (G.2.1, 1500, .inl (gMD_labels T56)))], [(q74, .inl (G.2.1, 120000, .inl (gMD_letters T56)))], [(q75, .inl (G.2.2.2, 26000, .inl (gMD_saving T56)))], [(q76, .inl (G.2.1, 4001, .inl (gMD_walk T56)))], [(q77, .inl (G.2.1, 4001, .inl (gMD_walkAt T56)))]] H := bk_many hB
                refine lv_aload_n hx hb d_MD_make_153 rfl (lv_at hl 0 rfl) ?_
                refine lv_aload_n hx hb d_MD_make_154 rfl (lv_at hl 0 rfl) ?_
                refine va_get (D := G.1) (ci := 6) (v := .int (gMD_rows T56)) (C := RMD) (T := TMD) (N := 28) hx hb hts inMD hown hK hB.1 0 rfl rfl 4 (by decide) (hts _ fl_MD_93) (fun _ h9 => h9) rfl d_MD_make_155 ?_
                have hB := bk_one hB
                have hpk78 : pMD G h0  T56 ([[(h0, .inr (6, [.int (gMD_statements T56), .ref q60, .ref q61, .int (gMD_mandatoryCount T56), .int (gMD_rows T56), .ref q62, .ref q63, .ref q64, .ref q65, .ref q66, .int (gMD_fromCount T56), .ref q67, .int (gMD_piled T56), .int (gMD_puts T56), .int (gMD_steps T56), .ref q68, .ref q69, .ref q70, .ref q71, .ref q72, .int (gMD_savedCount T56), .ref q73, .int (gMD_labelCount T56), .ref q74, .int (gMD_letterCount T56), .ref q75, .ref q76, .ref q77]))], [(q60, .inl (G.2.1, 1500, .inl (gMD_takes T56)))], [(q61, .inl (G.2.1, 60, .inl (gMD_mandatories T56)))], [(q62, .inl (G.2.1, 4000, .inl (gMD_makers T56)))], [(q63, .inl (G.2.1, 4000, .inl (gMD_fromAt T56)))], [(q64, .inl (G.2.1, 4000, .inl (gMD_firstSame T56)))], [(q65, .inl (G.2.2.1, 4000, .inr (.inl (gMD_sizes T56))))], [(q66, .inl (G.2.1, 20100, .inl (gMD_froms T56)))], [(q67, .inl (G.2.1, 200, .inl (gMD_pile T56)))], [(q68, .inl (G.2.1, 26000, .inl (gMD_toldStep T56)))], [(q69, .inl (G.2.1, 26000, .inl (gMD_stepRow T56)))], [(q70, .inl (G.2.2.2, 4000, .inl (gMD_isSaved T56)))], [(q71, .inl (G.2.2.2, 4000, .inl (gMD_isTold T56)))], [(q72, .inl (G.2.1, 4000, .inl (gMD_savedNumber T56)))], [(q73, .inl (G.2.1, 1500, .inl (gMD_labels T56)))], [(q74, .inl (G.2.1, 120000, .inl (gMD_letters T56)))], [(q75, .inl (G.2.2.2, 26000, .inl (gMD_saving T56)))], [(q76, .inl (G.2.1, 4001, .inl (gMD_walk T56)))], [(q77, .inl (G.2.1, 4001, .inl (gMD_walkAt T56)))]].flatten) := ⟨q60, q61, q62, q63, q64, q65, q66, q67, q68, q69, q70, q71, q72, q73, q74, q75, q76, q77, rfl⟩
                obtain ⟨T79, hT80, hr0⟩ := ob_e hr0
                refine wrV0 (G := G) (k := 0) (As := [.int (gMD_rows T56)]) (rest := []) (C := RMD) ⟨hx, hb, hml, hown, hts⟩ (c_MD_findSize l G h0 T56 (gMD_rows T56) _ _ (bk_gP (k := 0) hB.1 rfl) (bk_own (k := 0) hB rfl) hpk78 T79 hT80) (cwV 1 hts (gd_V ml_MD_106 im_MD_findSize sl_MD_findSize ini_MD k_MD_findSize) rfl rmK_c rmK_s (by decide +kernel) ⟨Nat.le_of_ble_eq_true rfl, Nat.le_of_ble_eq_true rfl⟩) hK (pMD_recv hK (bk_gP (k := 0) hB.1 rfl) hpk78) hS hA hB rfl hk ⟨rfl, rfl⟩ rfl hl.1 (Nat.le_of_ble_eq_true rfl) d_MD_make_158 (fun u81 H locs hu82 hB hS => ?_)
                have hB : bk G.1 vwCl A [u81] H := hB
                obtain ⟨q83, q84, q85, q86, q87, q88, q89, q90, q91, q92, q93, q94, q95, q96, q97, q98, q99, q100, rfl⟩ := hu82
                have hB : bk G.1 vwCl A [[(h0, .inr (6, [.int (gMD_statements T79), .ref q83, .ref q84, .int (gMD_mandatoryCount T79), .int (gMD_rows T79), .ref q85, .ref q86, .ref q87, .ref q88, .ref q89, .int (gMD_fromCount T79), .ref q90, .int (gMD_piled T79), .int (gMD_puts T79), .int (gMD_steps T79), .ref q91, .ref q92, .ref q93, .ref q94, .ref q95, .int (gMD_savedCount T79), .ref q96, .int (gMD_labelCount T79), .ref q97, .int (gMD_letterCount T79), .ref q98, .ref q99, .ref q100]))], [(q83, .inl (G.2.1, 1500, .inl (gMD_takes T79)))], [(q84, .inl (G.2.1, 60, .inl (gMD_mandatories T79)))], [(q85, .inl (G.2.1, 4000, .inl (gMD_makers T79)))], [(q86, .inl (G.2.1, 4000, .inl (gMD_fromAt T79)))], [(q87, .inl (G.2.1, 4000, .inl (gMD_firstSame T79)))], [(q88, .inl (G.2.2.1, 4000, .inr (.inl (gMD_sizes T79))))], [(q89, .inl (G.2.1, 20100, .inl (gMD_froms T79)))], [(q90, .inl (G.2.1, 200, .inl (gMD_pile T79)))], [(q91, .inl (G.2.1, 26000, .inl (gMD_toldStep T79)))], [(q92, .inl (G.2.1, 26000, .inl (gMD_stepRow T79)))], [(q93, .inl (G.2.2.2, 4000, .inl (gMD_isSaved T79)))], [(q94, .inl (G.2.2.2, 4000, .inl (gMD_isTold T79)))], [(q95, .inl (G.2.1, 4000, .inl (gMD_savedNumber T79)))], [(q96, .inl (G.2.1, 1500, .inl (gMD_labels T79)))], [(q97, .inl (G.2.1, 120000, .inl (gMD_letters T79)))], [(q98, .inl (G.2.2.2, 26000, .inl (gMD_saving T79)))], [(q99, .inl (G.2.1, 4001, .inl (gMD_walk T79)))], [(q100, .inl (G.2.1, 4001, .inl (gMD_walkAt T79)))]] H := bk_many hB
                refine lv_aload_n hx hb d_MD_make_161 rfl (lv_at hl 0 rfl) ?_
                refine va_get (D := G.1) (ci := 6) (v := .ref q90) (C := RMD) (T := TMD) (N := 28) hx hb hts inMD hown hK hB.1 0 rfl rfl 11 (by decide) (hts _ fl_MD_32) (fun _ h9 => h9) rfl d_MD_make_162 ?_
                refine lv_aload_n hx hb d_MD_make_165 rfl (lv_at hl 0 rfl) ?_
                refine va_get (D := G.1) (ci := 6) (v := .int (gMD_piled T79)) (C := RMD) (T := TMD) (N := 28) hx hb hts inMD hown hK hB.1 0 rfl rfl 12 (by decide) (hts _ fl_MD_90) (fun _ h9 => h9) rfl d_MD_make_166 ?_
                refine lv_aload_n hx hb d_MD_make_169 rfl (lv_at hl 0 rfl) ?_
                refine va_get (D := G.1) (ci := 6) (v := .int (gMD_rows T79)) (C := RMD) (T := TMD) (N := 28) hx hb hts inMD hown hK hB.1 0 rfl rfl 4 (by decide) (hts _ fl_MD_93) (fun _ h9 => h9) rfl d_MD_make_170 ?_
                have c101 := og_n hr0
                have hr0 := og_e hr0
                refine va_iast hx hb hK hB.1 hB.2 hS 8 0 rfl rfl (c101) d_MD_make_173 (fun H locs hP hD hS => ?_)
                have hB : bk G.1 vwCl A [[(h0, .inr (6, [.int (gMD_statements T79), .ref q83, .ref q84, .int (gMD_mandatoryCount T79), .int (gMD_rows T79), .ref q85, .ref q86, .ref q87, .ref q88, .ref q89, .int (gMD_fromCount T79), .ref q90, .int (gMD_piled T79), .int (gMD_puts T79), .int (gMD_steps T79), .ref q91, .ref q92, .ref q93, .ref q94, .ref q95, .int (gMD_savedCount T79), .ref q96, .int (gMD_labelCount T79), .ref q97, .int (gMD_letterCount T79), .ref q98, .ref q99, .ref q100]))], [(q83, .inl (G.2.1, 1500, .inl (gMD_takes T79)))], [(q84, .inl (G.2.1, 60, .inl (gMD_mandatories T79)))], [(q85, .inl (G.2.1, 4000, .inl (gMD_makers T79)))], [(q86, .inl (G.2.1, 4000, .inl (gMD_fromAt T79)))], [(q87, .inl (G.2.1, 4000, .inl (gMD_firstSame T79)))], [(q88, .inl (G.2.2.1, 4000, .inr (.inl (gMD_sizes T79))))], [(q89, .inl (G.2.1, 20100, .inl (gMD_froms T79)))], [(q90, .inl (G.2.1, 200, .inl (upd (gMD_pile T79) (gMD_piled T79).toNatClampNeg (gMD_rows T79))))], [(q91, .inl (G.2.1, 26000, .inl (gMD_toldStep T79)))], [(q92, .inl (G.2.1, 26000, .inl (gMD_stepRow T79)))], [(q93, .inl (G.2.2.2, 4000, .inl (gMD_isSaved T79)))], [(q94, .inl (G.2.2.2, 4000, .inl (gMD_isTold T79)))], [(q95, .inl (G.2.1, 4000, .inl (gMD_savedNumber T79)))], [(q96, .inl (G.2.1, 1500, .inl (gMD_labels T79)))], [(q97, .inl (G.2.1, 120000, .inl (gMD_letters T79)))], [(q98, .inl (G.2.2.2, 26000, .inl (gMD_saving T79)))], [(q99, .inl (G.2.1, 4001, .inl (gMD_walk T79)))], [(q100, .inl (G.2.1, 4001, .inl (gMD_walkAt T79)))]] H := ⟨hP, hD⟩
                obtain ⟨T102, hT103⟩ : ∃ z, uMD_pile T79 (upd (gMD_pile T79) (gMD_piled T79).toNatClampNeg (gMD_rows T79)) = z := ⟨_, rfl⟩
                have hr0 := bnd_e hT103 hr0
                have hB : bk G.1 vwCl A [[(h0, .inr (6, [.int (gMD_statements T102), .ref q83, .ref q84, .int (gMD_mandatoryCount T102), .int (gMD_rows T102), .ref q85, .ref q86, .ref q87, .ref q88, .ref q89, .int (gMD_fromCount T102), .ref q90, .int (gMD_piled T102), .int (gMD_puts T102), .int (gMD_steps T102), .ref q91, .ref q92, .ref q93, .ref q94, .ref q95, .int (gMD_savedCount T102), .ref q96, .int (gMD_labelCount T102), .ref q97, .int (gMD_letterCount T102), .ref q98, .ref q99, .ref q100]))], [(q83, .inl (G.2.1, 1500, .inl (gMD_takes T102)))], [(q84, .inl (G.2.1, 60, .inl (gMD_mandatories T102)))], [(q85, .inl (G.2.1, 4000, .inl (gMD_makers T102)))], [(q86, .inl (G.2.1, 4000, .inl (gMD_fromAt T102)))], [(q87, .inl (G.2.1, 4000, .inl (gMD_firstSame T102)))], [(q88, .inl (G.2.2.1, 4000, .inr (.inl (gMD_sizes T102))))], [(q89, .inl (G.2.1, 20100, .inl (gMD_froms T102)))], [(q90, .inl (G.2.1, 200, .inl (gMD_pile T102)))], [(q91, .inl (G.2.1, 26000, .inl (gMD_toldStep T102)))], [(q92, .inl (G.2.1, 26000, .inl (gMD_stepRow T102)))], [(q93, .inl (G.2.2.2, 4000, .inl (gMD_isSaved T102)))], [(q94, .inl (G.2.2.2, 4000, .inl (gMD_isTold T102)))], [(q95, .inl (G.2.1, 4000, .inl (gMD_savedNumber T102)))], [(q96, .inl (G.2.1, 1500, .inl (gMD_labels T102)))], [(q97, .inl (G.2.1, 120000, .inl (gMD_letters T102)))], [(q98, .inl (G.2.2.2, 26000, .inl (gMD_saving T102)))], [(q99, .inl (G.2.1, 4001, .inl (gMD_walk T102)))], [(q100, .inl (G.2.1, 4001, .inl (gMD_walkAt T102)))]] H := by subst hT103; exact hB
                refine lv_aload_n hx hb d_MD_make_174 rfl (lv_at hl 0 rfl) ?_
                refine lv_dup hx hb d_MD_make_175 rfl ?_
                refine va_get (D := G.1) (ci := 6) (v := .int (gMD_piled T102)) (C := RMD) (T := TMD) (N := 28) hx hb hts inMD hown hK hB.1 0 rfl rfl 12 (by decide) (hts _ fl_MD_90) (fun _ h9 => h9) rfl d_MD_make_176 ?_
                refine lv_iconst (v := 1) hx hb d_MD_make_179 (by decide) ?_
                refine lv_iadd hx hb d_MD_make_180 ?_
                refine va_put (D := G.1) (ci := 6) (v := .int ((gMD_piled T102) + 1)) (ty := .int) (C := RMD) (T := TMD) (N := 28) hx hb hts inMD tyMD tokMD nmMD hown hK hB.1 hB.2 hS 0 rfl rfl 12 (by decide) (hts _ fl_MD_90) (fun _ h9 => h9) rfl (by decide +kernel) rfl rfl (Nat.le_of_ble_eq_true rfl) d_MD_make_181 (fun H locs hP hD hS => ?_)
                have hB : bk G.1 vwCl A [[(h0, .inr (6, [.int (gMD_statements T102), .ref q83, .ref q84, .int (gMD_mandatoryCount T102), .int (gMD_rows T102), .ref q85, .ref q86, .ref q87, .ref q88, .ref q89, .int (gMD_fromCount T102), .ref q90, .int ((gMD_piled T102) + 1), .int (gMD_puts T102), .int (gMD_steps T102), .ref q91, .ref q92, .ref q93, .ref q94, .ref q95, .int (gMD_savedCount T102), .ref q96, .int (gMD_labelCount T102), .ref q97, .int (gMD_letterCount T102), .ref q98, .ref q99, .ref q100]))], [(q83, .inl (G.2.1, 1500, .inl (gMD_takes T102)))], [(q84, .inl (G.2.1, 60, .inl (gMD_mandatories T102)))], [(q85, .inl (G.2.1, 4000, .inl (gMD_makers T102)))], [(q86, .inl (G.2.1, 4000, .inl (gMD_fromAt T102)))], [(q87, .inl (G.2.1, 4000, .inl (gMD_firstSame T102)))], [(q88, .inl (G.2.2.1, 4000, .inr (.inl (gMD_sizes T102))))], [(q89, .inl (G.2.1, 20100, .inl (gMD_froms T102)))], [(q90, .inl (G.2.1, 200, .inl (gMD_pile T102)))], [(q91, .inl (G.2.1, 26000, .inl (gMD_toldStep T102)))], [(q92, .inl (G.2.1, 26000, .inl (gMD_stepRow T102)))], [(q93, .inl (G.2.2.2, 4000, .inl (gMD_isSaved T102)))], [(q94, .inl (G.2.2.2, 4000, .inl (gMD_isTold T102)))], [(q95, .inl (G.2.1, 4000, .inl (gMD_savedNumber T102)))], [(q96, .inl (G.2.1, 1500, .inl (gMD_labels T102)))], [(q97, .inl (G.2.1, 120000, .inl (gMD_letters T102)))], [(q98, .inl (G.2.2.2, 26000, .inl (gMD_saving T102)))], [(q99, .inl (G.2.1, 4001, .inl (gMD_walk T102)))], [(q100, .inl (G.2.1, 4001, .inl (gMD_walkAt T102)))]] H := ⟨hP, hD⟩
                obtain ⟨T104, hT105⟩ : ∃ z, uMD_piled T102 ((gMD_piled T102) + 1) = z := ⟨_, rfl⟩
                have hr0 := bnd_e hT105 hr0
                have hB : bk G.1 vwCl A [[(h0, .inr (6, [.int (gMD_statements T104), .ref q83, .ref q84, .int (gMD_mandatoryCount T104), .int (gMD_rows T104), .ref q85, .ref q86, .ref q87, .ref q88, .ref q89, .int (gMD_fromCount T104), .ref q90, .int (gMD_piled T104), .int (gMD_puts T104), .int (gMD_steps T104), .ref q91, .ref q92, .ref q93, .ref q94, .ref q95, .int (gMD_savedCount T104), .ref q96, .int (gMD_labelCount T104), .ref q97, .int (gMD_letterCount T104), .ref q98, .ref q99, .ref q100]))], [(q83, .inl (G.2.1, 1500, .inl (gMD_takes T104)))], [(q84, .inl (G.2.1, 60, .inl (gMD_mandatories T104)))], [(q85, .inl (G.2.1, 4000, .inl (gMD_makers T104)))], [(q86, .inl (G.2.1, 4000, .inl (gMD_fromAt T104)))], [(q87, .inl (G.2.1, 4000, .inl (gMD_firstSame T104)))], [(q88, .inl (G.2.2.1, 4000, .inr (.inl (gMD_sizes T104))))], [(q89, .inl (G.2.1, 20100, .inl (gMD_froms T104)))], [(q90, .inl (G.2.1, 200, .inl (gMD_pile T104)))], [(q91, .inl (G.2.1, 26000, .inl (gMD_toldStep T104)))], [(q92, .inl (G.2.1, 26000, .inl (gMD_stepRow T104)))], [(q93, .inl (G.2.2.2, 4000, .inl (gMD_isSaved T104)))], [(q94, .inl (G.2.2.2, 4000, .inl (gMD_isTold T104)))], [(q95, .inl (G.2.1, 4000, .inl (gMD_savedNumber T104)))], [(q96, .inl (G.2.1, 1500, .inl (gMD_labels T104)))], [(q97, .inl (G.2.1, 120000, .inl (gMD_letters T104)))], [(q98, .inl (G.2.2.2, 26000, .inl (gMD_saving T104)))], [(q99, .inl (G.2.1, 4001, .inl (gMD_walk T104)))], [(q100, .inl (G.2.1, 4001, .inl (gMD_walkAt T104)))]] H := by subst hT105; exact hB
                refine lv_aload_n hx hb d_MD_make_184 rfl (lv_at hl 0 rfl) ?_
                refine lv_dup hx hb d_MD_make_185 rfl ?_
                refine va_get (D := G.1) (ci := 6) (v := .int (gMD_puts T104)) (C := RMD) (T := TMD) (N := 28) hx hb hts inMD hown hK hB.1 0 rfl rfl 13 (by decide) (hts _ fl_MD_96) (fun _ h9 => h9) rfl d_MD_make_186 ?_
                refine lv_iconst (v := 1) hx hb d_MD_make_189 (by decide) ?_
                refine lv_iadd hx hb d_MD_make_190 ?_
                refine va_put (D := G.1) (ci := 6) (v := .int ((gMD_puts T104) + 1)) (ty := .int) (C := RMD) (T := TMD) (N := 28) hx hb hts inMD tyMD tokMD nmMD hown hK hB.1 hB.2 hS 0 rfl rfl 13 (by decide) (hts _ fl_MD_96) (fun _ h9 => h9) rfl (by decide +kernel) rfl rfl (Nat.le_of_ble_eq_true rfl) d_MD_make_191 (fun H locs hP hD hS => ?_)
                have hB : bk G.1 vwCl A [[(h0, .inr (6, [.int (gMD_statements T104), .ref q83, .ref q84, .int (gMD_mandatoryCount T104), .int (gMD_rows T104), .ref q85, .ref q86, .ref q87, .ref q88, .ref q89, .int (gMD_fromCount T104), .ref q90, .int (gMD_piled T104), .int ((gMD_puts T104) + 1), .int (gMD_steps T104), .ref q91, .ref q92, .ref q93, .ref q94, .ref q95, .int (gMD_savedCount T104), .ref q96, .int (gMD_labelCount T104), .ref q97, .int (gMD_letterCount T104), .ref q98, .ref q99, .ref q100]))], [(q83, .inl (G.2.1, 1500, .inl (gMD_takes T104)))], [(q84, .inl (G.2.1, 60, .inl (gMD_mandatories T104)))], [(q85, .inl (G.2.1, 4000, .inl (gMD_makers T104)))], [(q86, .inl (G.2.1, 4000, .inl (gMD_fromAt T104)))], [(q87, .inl (G.2.1, 4000, .inl (gMD_firstSame T104)))], [(q88, .inl (G.2.2.1, 4000, .inr (.inl (gMD_sizes T104))))], [(q89, .inl (G.2.1, 20100, .inl (gMD_froms T104)))], [(q90, .inl (G.2.1, 200, .inl (gMD_pile T104)))], [(q91, .inl (G.2.1, 26000, .inl (gMD_toldStep T104)))], [(q92, .inl (G.2.1, 26000, .inl (gMD_stepRow T104)))], [(q93, .inl (G.2.2.2, 4000, .inl (gMD_isSaved T104)))], [(q94, .inl (G.2.2.2, 4000, .inl (gMD_isTold T104)))], [(q95, .inl (G.2.1, 4000, .inl (gMD_savedNumber T104)))], [(q96, .inl (G.2.1, 1500, .inl (gMD_labels T104)))], [(q97, .inl (G.2.1, 120000, .inl (gMD_letters T104)))], [(q98, .inl (G.2.2.2, 26000, .inl (gMD_saving T104)))], [(q99, .inl (G.2.1, 4001, .inl (gMD_walk T104)))], [(q100, .inl (G.2.1, 4001, .inl (gMD_walkAt T104)))]] H := ⟨hP, hD⟩
                obtain ⟨T106, hT107⟩ : ∃ z, uMD_puts T104 ((gMD_puts T104) + 1) = z := ⟨_, rfl⟩
                have hr0 := bnd_e hT107 hr0
                have hB : bk G.1 vwCl A [[(h0, .inr (6, [.int (gMD_statements T106), .ref q83, .ref q84, .int (gMD_mandatoryCount T106), .int (gMD_rows T106), .ref q85, .ref q86, .ref q87, .ref q88, .ref q89, .int (gMD_fromCount T106), .ref q90, .int (gMD_piled T106), .int (gMD_puts T106), .int (gMD_steps T106), .ref q91, .ref q92, .ref q93, .ref q94, .ref q95, .int (gMD_savedCount T106), .ref q96, .int (gMD_labelCount T106), .ref q97, .int (gMD_letterCount T106), .ref q98, .ref q99, .ref q100]))], [(q83, .inl (G.2.1, 1500, .inl (gMD_takes T106)))], [(q84, .inl (G.2.1, 60, .inl (gMD_mandatories T106)))], [(q85, .inl (G.2.1, 4000, .inl (gMD_makers T106)))], [(q86, .inl (G.2.1, 4000, .inl (gMD_fromAt T106)))], [(q87, .inl (G.2.1, 4000, .inl (gMD_firstSame T106)))], [(q88, .inl (G.2.2.1, 4000, .inr (.inl (gMD_sizes T106))))], [(q89, .inl (G.2.1, 20100, .inl (gMD_froms T106)))], [(q90, .inl (G.2.1, 200, .inl (gMD_pile T106)))], [(q91, .inl (G.2.1, 26000, .inl (gMD_toldStep T106)))], [(q92, .inl (G.2.1, 26000, .inl (gMD_stepRow T106)))], [(q93, .inl (G.2.2.2, 4000, .inl (gMD_isSaved T106)))], [(q94, .inl (G.2.2.2, 4000, .inl (gMD_isTold T106)))], [(q95, .inl (G.2.1, 4000, .inl (gMD_savedNumber T106)))], [(q96, .inl (G.2.1, 1500, .inl (gMD_labels T106)))], [(q97, .inl (G.2.1, 120000, .inl (gMD_letters T106)))], [(q98, .inl (G.2.2.2, 26000, .inl (gMD_saving T106)))], [(q99, .inl (G.2.1, 4001, .inl (gMD_walk T106)))], [(q100, .inl (G.2.1, 4001, .inl (gMD_walkAt T106)))]] H := by subst hT107; exact hB
                refine lv_aload_n hx hb d_MD_make_194 rfl (lv_at hl 0 rfl) ?_
                refine lv_dup hx hb d_MD_make_195 rfl ?_
                refine va_get (D := G.1) (ci := 6) (v := .int (gMD_rows T106)) (C := RMD) (T := TMD) (N := 28) hx hb hts inMD hown hK hB.1 0 rfl rfl 4 (by decide) (hts _ fl_MD_93) (fun _ h9 => h9) rfl d_MD_make_196 ?_
                refine lv_iconst (v := 1) hx hb d_MD_make_199 (by decide) ?_
                refine lv_iadd hx hb d_MD_make_200 ?_
                refine va_put (D := G.1) (ci := 6) (v := .int ((gMD_rows T106) + 1)) (ty := .int) (C := RMD) (T := TMD) (N := 28) hx hb hts inMD tyMD tokMD nmMD hown hK hB.1 hB.2 hS 0 rfl rfl 4 (by decide) (hts _ fl_MD_93) (fun _ h9 => h9) rfl (by decide +kernel) rfl rfl (Nat.le_of_ble_eq_true rfl) d_MD_make_201 (fun H locs hP hD hS => ?_)
                have hB : bk G.1 vwCl A [[(h0, .inr (6, [.int (gMD_statements T106), .ref q83, .ref q84, .int (gMD_mandatoryCount T106), .int ((gMD_rows T106) + 1), .ref q85, .ref q86, .ref q87, .ref q88, .ref q89, .int (gMD_fromCount T106), .ref q90, .int (gMD_piled T106), .int (gMD_puts T106), .int (gMD_steps T106), .ref q91, .ref q92, .ref q93, .ref q94, .ref q95, .int (gMD_savedCount T106), .ref q96, .int (gMD_labelCount T106), .ref q97, .int (gMD_letterCount T106), .ref q98, .ref q99, .ref q100]))], [(q83, .inl (G.2.1, 1500, .inl (gMD_takes T106)))], [(q84, .inl (G.2.1, 60, .inl (gMD_mandatories T106)))], [(q85, .inl (G.2.1, 4000, .inl (gMD_makers T106)))], [(q86, .inl (G.2.1, 4000, .inl (gMD_fromAt T106)))], [(q87, .inl (G.2.1, 4000, .inl (gMD_firstSame T106)))], [(q88, .inl (G.2.2.1, 4000, .inr (.inl (gMD_sizes T106))))], [(q89, .inl (G.2.1, 20100, .inl (gMD_froms T106)))], [(q90, .inl (G.2.1, 200, .inl (gMD_pile T106)))], [(q91, .inl (G.2.1, 26000, .inl (gMD_toldStep T106)))], [(q92, .inl (G.2.1, 26000, .inl (gMD_stepRow T106)))], [(q93, .inl (G.2.2.2, 4000, .inl (gMD_isSaved T106)))], [(q94, .inl (G.2.2.2, 4000, .inl (gMD_isTold T106)))], [(q95, .inl (G.2.1, 4000, .inl (gMD_savedNumber T106)))], [(q96, .inl (G.2.1, 1500, .inl (gMD_labels T106)))], [(q97, .inl (G.2.1, 120000, .inl (gMD_letters T106)))], [(q98, .inl (G.2.2.2, 26000, .inl (gMD_saving T106)))], [(q99, .inl (G.2.1, 4001, .inl (gMD_walk T106)))], [(q100, .inl (G.2.1, 4001, .inl (gMD_walkAt T106)))]] H := ⟨hP, hD⟩
                obtain ⟨T108, hT109⟩ : ∃ z, uMD_rows T106 ((gMD_rows T106) + 1) = z := ⟨_, rfl⟩
                have hr0 := bnd_e hT109 hr0
                have hB : bk G.1 vwCl A [[(h0, .inr (6, [.int (gMD_statements T108), .ref q83, .ref q84, .int (gMD_mandatoryCount T108), .int (gMD_rows T108), .ref q85, .ref q86, .ref q87, .ref q88, .ref q89, .int (gMD_fromCount T108), .ref q90, .int (gMD_piled T108), .int (gMD_puts T108), .int (gMD_steps T108), .ref q91, .ref q92, .ref q93, .ref q94, .ref q95, .int (gMD_savedCount T108), .ref q96, .int (gMD_labelCount T108), .ref q97, .int (gMD_letterCount T108), .ref q98, .ref q99, .ref q100]))], [(q83, .inl (G.2.1, 1500, .inl (gMD_takes T108)))], [(q84, .inl (G.2.1, 60, .inl (gMD_mandatories T108)))], [(q85, .inl (G.2.1, 4000, .inl (gMD_makers T108)))], [(q86, .inl (G.2.1, 4000, .inl (gMD_fromAt T108)))], [(q87, .inl (G.2.1, 4000, .inl (gMD_firstSame T108)))], [(q88, .inl (G.2.2.1, 4000, .inr (.inl (gMD_sizes T108))))], [(q89, .inl (G.2.1, 20100, .inl (gMD_froms T108)))], [(q90, .inl (G.2.1, 200, .inl (gMD_pile T108)))], [(q91, .inl (G.2.1, 26000, .inl (gMD_toldStep T108)))], [(q92, .inl (G.2.1, 26000, .inl (gMD_stepRow T108)))], [(q93, .inl (G.2.2.2, 4000, .inl (gMD_isSaved T108)))], [(q94, .inl (G.2.2.2, 4000, .inl (gMD_isTold T108)))], [(q95, .inl (G.2.1, 4000, .inl (gMD_savedNumber T108)))], [(q96, .inl (G.2.1, 1500, .inl (gMD_labels T108)))], [(q97, .inl (G.2.1, 120000, .inl (gMD_letters T108)))], [(q98, .inl (G.2.2.2, 26000, .inl (gMD_saving T108)))], [(q99, .inl (G.2.1, 4001, .inl (gMD_walk T108)))], [(q100, .inl (G.2.1, 4001, .inl (gMD_walkAt T108)))]] H := by subst hT109; exact hB
                refine lv_aload_n hx hb d_MD_make_204 rfl (lv_at hl 0 rfl) ?_
                refine va_get (D := G.1) (ci := 6) (v := .int (gMD_rows T108)) (C := RMD) (T := TMD) (N := 28) hx hb hts inMD hown hK hB.1 0 rfl rfl 4 (by decide) (hts _ fl_MD_93) (fun _ h9 => h9) rfl d_MD_make_205 ?_
                refine lv_iconst (v := 1) hx hb d_MD_make_208 (by decide) ?_
                refine lv_isub hx hb d_MD_make_209 ?_
                have hr0 := Option.some.inj hr0
                subst hr0
                refine W.widen (k := 0) (n := 0) (Nat.le_refl _) (Nat.le_refl _) ?_
                exact W.iret (v := ((gMD_rows T108) - 1)) hx hb hr (fun t ht hW => ⟨⟨((gMD_rows T108) - 1), [[(h0, .inr (6, [.int (gMD_statements T108), .ref q83, .ref q84, .int (gMD_mandatoryCount T108), .int (gMD_rows T108), .ref q85, .ref q86, .ref q87, .ref q88, .ref q89, .int (gMD_fromCount T108), .ref q90, .int (gMD_piled T108), .int (gMD_puts T108), .int (gMD_steps T108), .ref q91, .ref q92, .ref q93, .ref q94, .ref q95, .int (gMD_savedCount T108), .ref q96, .int (gMD_labelCount T108), .ref q97, .int (gMD_letterCount T108), .ref q98, .ref q99, .ref q100]))], [(q83, .inl (G.2.1, 1500, .inl (gMD_takes T108)))], [(q84, .inl (G.2.1, 60, .inl (gMD_mandatories T108)))], [(q85, .inl (G.2.1, 4000, .inl (gMD_makers T108)))], [(q86, .inl (G.2.1, 4000, .inl (gMD_fromAt T108)))], [(q87, .inl (G.2.1, 4000, .inl (gMD_firstSame T108)))], [(q88, .inl (G.2.2.1, 4000, .inr (.inl (gMD_sizes T108))))], [(q89, .inl (G.2.1, 20100, .inl (gMD_froms T108)))], [(q90, .inl (G.2.1, 200, .inl (gMD_pile T108)))], [(q91, .inl (G.2.1, 26000, .inl (gMD_toldStep T108)))], [(q92, .inl (G.2.1, 26000, .inl (gMD_stepRow T108)))], [(q93, .inl (G.2.2.2, 4000, .inl (gMD_isSaved T108)))], [(q94, .inl (G.2.2.2, 4000, .inl (gMD_isTold T108)))], [(q95, .inl (G.2.1, 4000, .inl (gMD_savedNumber T108)))], [(q96, .inl (G.2.1, 1500, .inl (gMD_labels T108)))], [(q97, .inl (G.2.1, 120000, .inl (gMD_letters T108)))], [(q98, .inl (G.2.2.2, 26000, .inl (gMD_saving T108)))], [(q99, .inl (G.2.1, 4001, .inl (gMD_walk T108)))], [(q100, .inl (G.2.1, 4001, .inl (gMD_walkAt T108)))]].flatten, rfl, ⟨rfl, ⟨q83, q84, q85, q86, q87, q88, q89, q90, q91, q92, q93, q94, q95, q96, q97, q98, q99, q100, rfl⟩⟩, by rw [ht]; exact hB.1, hB.2⟩, hS.F ht⟩) hS.2.2 d_MD_make_210
              · have hr0 := ai_neg c52 hr0
                refine lv_aload_n hx hb d_MD_make_97 rfl (lv_at hl 0 rfl) ?_
                refine va_get (D := G.1) (ci := 6) (v := .ref q40) (C := RMD) (T := TMD) (N := 28) hx hb hts inMD hown hK hB.1 0 rfl rfl 9 (by decide) (hts _ fl_MD_29) (fun _ h9 => h9) rfl d_MD_make_98 ?_
                refine lv_aload_n hx hb d_MD_make_101 rfl (lv_at hl 0 rfl) ?_
                refine va_get (D := G.1) (ci := 6) (v := .int (gMD_fromCount τ)) (C := RMD) (T := TMD) (N := 28) hx hb hts inMD hown hK hB.1 0 rfl rfl 10 (by decide) (hts _ fl_MD_99) (fun _ h9 => h9) rfl d_MD_make_102 ?_
                refine lv_aload_n hx hb d_MD_make_105 rfl (lv_at hl 0 rfl) ?_
                refine va_get (D := G.1) (ci := 6) (v := .ref q41) (C := RMD) (T := TMD) (N := 28) hx hb hts inMD hown hK hB.1 0 rfl rfl 11 (by decide) (hts _ fl_MD_32) (fun _ h9 => h9) rfl d_MD_make_106 ?_
                refine lv_aload_n hx hb d_MD_make_109 rfl (lv_at hl 0 rfl) ?_
                refine va_get (D := G.1) (ci := 6) (v := .int (gMD_piled τ)) (C := RMD) (T := TMD) (N := 28) hx hb hts inMD hown hK hB.1 0 rfl rfl 12 (by decide) (hts _ fl_MD_90) (fun _ h9 => h9) rfl d_MD_make_110 ?_
                refine lv_iload_n hx hb d_MD_make_113 rfl (lv_at hl 1 rfl) ?_
                refine lv_isub hx hb d_MD_make_114 ?_
                refine lv_iload_n hx hb d_MD_make_115 rfl (lv_at hl 2 rfl) ?_
                refine lv_iadd hx hb d_MD_make_116 ?_
                have c110 := og_n hr0
                have hr0 := og_e hr0
                refine va_iald hx hb hK hB.1 8 0 rfl rfl (c110) d_MD_make_117 ?_
                have c111 := og_n hr0
                have hr0 := og_e hr0
                refine va_iast hx hb hK hB.1 hB.2 hS 7 0 rfl rfl (c111) d_MD_make_118 (fun H locs hP hD hS => ?_)
                have hB : bk G.1 vwCl A [[(h0, .inr (6, [.int (gMD_statements τ), .ref q34, .ref q35, .int (gMD_mandatoryCount τ), .int (gMD_rows τ), .ref q36, .ref q37, .ref q38, .ref q39, .ref q40, .int (gMD_fromCount τ), .ref q41, .int (gMD_piled τ), .int (gMD_puts τ), .int (gMD_steps τ), .ref q42, .ref q43, .ref q44, .ref q45, .ref q46, .int (gMD_savedCount τ), .ref q47, .int (gMD_labelCount τ), .ref q48, .int (gMD_letterCount τ), .ref q49, .ref q50, .ref q51]))], [(q34, .inl (G.2.1, 1500, .inl (gMD_takes τ)))], [(q35, .inl (G.2.1, 60, .inl (gMD_mandatories τ)))], [(q36, .inl (G.2.1, 4000, .inl (gMD_makers τ)))], [(q37, .inl (G.2.1, 4000, .inl (gMD_fromAt τ)))], [(q38, .inl (G.2.1, 4000, .inl (gMD_firstSame τ)))], [(q39, .inl (G.2.2.1, 4000, .inr (.inl (gMD_sizes τ))))], [(q40, .inl (G.2.1, 20100, .inl (upd (gMD_froms τ) (gMD_fromCount τ).toNatClampNeg ((gMD_pile τ) (((gMD_piled τ) - ((gMD_takes σ) i.toNatClampNeg)) + k).toNatClampNeg))))], [(q41, .inl (G.2.1, 200, .inl (gMD_pile τ)))], [(q42, .inl (G.2.1, 26000, .inl (gMD_toldStep τ)))], [(q43, .inl (G.2.1, 26000, .inl (gMD_stepRow τ)))], [(q44, .inl (G.2.2.2, 4000, .inl (gMD_isSaved τ)))], [(q45, .inl (G.2.2.2, 4000, .inl (gMD_isTold τ)))], [(q46, .inl (G.2.1, 4000, .inl (gMD_savedNumber τ)))], [(q47, .inl (G.2.1, 1500, .inl (gMD_labels τ)))], [(q48, .inl (G.2.1, 120000, .inl (gMD_letters τ)))], [(q49, .inl (G.2.2.2, 26000, .inl (gMD_saving τ)))], [(q50, .inl (G.2.1, 4001, .inl (gMD_walk τ)))], [(q51, .inl (G.2.1, 4001, .inl (gMD_walkAt τ)))]] H := ⟨hP, hD⟩
                obtain ⟨T112, hT113⟩ : ∃ z, uMD_froms τ (upd (gMD_froms τ) (gMD_fromCount τ).toNatClampNeg ((gMD_pile τ) (((gMD_piled τ) - ((gMD_takes σ) i.toNatClampNeg)) + k).toNatClampNeg)) = z := ⟨_, rfl⟩
                have hr0 := bnd_e hT113 hr0
                have hB : bk G.1 vwCl A [[(h0, .inr (6, [.int (gMD_statements T112), .ref q34, .ref q35, .int (gMD_mandatoryCount T112), .int (gMD_rows T112), .ref q36, .ref q37, .ref q38, .ref q39, .ref q40, .int (gMD_fromCount T112), .ref q41, .int (gMD_piled T112), .int (gMD_puts T112), .int (gMD_steps T112), .ref q42, .ref q43, .ref q44, .ref q45, .ref q46, .int (gMD_savedCount T112), .ref q47, .int (gMD_labelCount T112), .ref q48, .int (gMD_letterCount T112), .ref q49, .ref q50, .ref q51]))], [(q34, .inl (G.2.1, 1500, .inl (gMD_takes T112)))], [(q35, .inl (G.2.1, 60, .inl (gMD_mandatories T112)))], [(q36, .inl (G.2.1, 4000, .inl (gMD_makers T112)))], [(q37, .inl (G.2.1, 4000, .inl (gMD_fromAt T112)))], [(q38, .inl (G.2.1, 4000, .inl (gMD_firstSame T112)))], [(q39, .inl (G.2.2.1, 4000, .inr (.inl (gMD_sizes T112))))], [(q40, .inl (G.2.1, 20100, .inl (gMD_froms T112)))], [(q41, .inl (G.2.1, 200, .inl (gMD_pile T112)))], [(q42, .inl (G.2.1, 26000, .inl (gMD_toldStep T112)))], [(q43, .inl (G.2.1, 26000, .inl (gMD_stepRow T112)))], [(q44, .inl (G.2.2.2, 4000, .inl (gMD_isSaved T112)))], [(q45, .inl (G.2.2.2, 4000, .inl (gMD_isTold T112)))], [(q46, .inl (G.2.1, 4000, .inl (gMD_savedNumber T112)))], [(q47, .inl (G.2.1, 1500, .inl (gMD_labels T112)))], [(q48, .inl (G.2.1, 120000, .inl (gMD_letters T112)))], [(q49, .inl (G.2.2.2, 26000, .inl (gMD_saving T112)))], [(q50, .inl (G.2.1, 4001, .inl (gMD_walk T112)))], [(q51, .inl (G.2.1, 4001, .inl (gMD_walkAt T112)))]] H := by subst hT113; exact hB
                refine lv_aload_n hx hb d_MD_make_119 rfl (lv_at hl 0 rfl) ?_
                refine lv_dup hx hb d_MD_make_120 rfl ?_
                refine va_get (D := G.1) (ci := 6) (v := .int (gMD_fromCount T112)) (C := RMD) (T := TMD) (N := 28) hx hb hts inMD hown hK hB.1 0 rfl rfl 10 (by decide) (hts _ fl_MD_99) (fun _ h9 => h9) rfl d_MD_make_121 ?_
                refine lv_iconst (v := 1) hx hb d_MD_make_124 (by decide) ?_
                refine lv_iadd hx hb d_MD_make_125 ?_
                refine va_put (D := G.1) (ci := 6) (v := .int ((gMD_fromCount T112) + 1)) (ty := .int) (C := RMD) (T := TMD) (N := 28) hx hb hts inMD tyMD tokMD nmMD hown hK hB.1 hB.2 hS 0 rfl rfl 10 (by decide) (hts _ fl_MD_99) (fun _ h9 => h9) rfl (by decide +kernel) rfl rfl (Nat.le_of_ble_eq_true rfl) d_MD_make_126 (fun H locs hP hD hS => ?_)
                have hB : bk G.1 vwCl A [[(h0, .inr (6, [.int (gMD_statements T112), .ref q34, .ref q35, .int (gMD_mandatoryCount T112), .int (gMD_rows T112), .ref q36, .ref q37, .ref q38, .ref q39, .ref q40, .int ((gMD_fromCount T112) + 1), .ref q41, .int (gMD_piled T112), .int (gMD_puts T112), .int (gMD_steps T112), .ref q42, .ref q43, .ref q44, .ref q45, .ref q46, .int (gMD_savedCount T112), .ref q47, .int (gMD_labelCount T112), .ref q48, .int (gMD_letterCount T112), .ref q49, .ref q50, .ref q51]))], [(q34, .inl (G.2.1, 1500, .inl (gMD_takes T112)))], [(q35, .inl (G.2.1, 60, .inl (gMD_mandatories T112)))], [(q36, .inl (G.2.1, 4000, .inl (gMD_makers T112)))], [(q37, .inl (G.2.1, 4000, .inl (gMD_fromAt T112)))], [(q38, .inl (G.2.1, 4000, .inl (gMD_firstSame T112)))], [(q39, .inl (G.2.2.1, 4000, .inr (.inl (gMD_sizes T112))))], [(q40, .inl (G.2.1, 20100, .inl (gMD_froms T112)))], [(q41, .inl (G.2.1, 200, .inl (gMD_pile T112)))], [(q42, .inl (G.2.1, 26000, .inl (gMD_toldStep T112)))], [(q43, .inl (G.2.1, 26000, .inl (gMD_stepRow T112)))], [(q44, .inl (G.2.2.2, 4000, .inl (gMD_isSaved T112)))], [(q45, .inl (G.2.2.2, 4000, .inl (gMD_isTold T112)))], [(q46, .inl (G.2.1, 4000, .inl (gMD_savedNumber T112)))], [(q47, .inl (G.2.1, 1500, .inl (gMD_labels T112)))], [(q48, .inl (G.2.1, 120000, .inl (gMD_letters T112)))], [(q49, .inl (G.2.2.2, 26000, .inl (gMD_saving T112)))], [(q50, .inl (G.2.1, 4001, .inl (gMD_walk T112)))], [(q51, .inl (G.2.1, 4001, .inl (gMD_walkAt T112)))]] H := ⟨hP, hD⟩
                obtain ⟨T114, hT115⟩ : ∃ z, uMD_fromCount T112 ((gMD_fromCount T112) + 1) = z := ⟨_, rfl⟩
                have hr0 := bnd_e hT115 hr0
                have hB : bk G.1 vwCl A [[(h0, .inr (6, [.int (gMD_statements T114), .ref q34, .ref q35, .int (gMD_mandatoryCount T114), .int (gMD_rows T114), .ref q36, .ref q37, .ref q38, .ref q39, .ref q40, .int (gMD_fromCount T114), .ref q41, .int (gMD_piled T114), .int (gMD_puts T114), .int (gMD_steps T114), .ref q42, .ref q43, .ref q44, .ref q45, .ref q46, .int (gMD_savedCount T114), .ref q47, .int (gMD_labelCount T114), .ref q48, .int (gMD_letterCount T114), .ref q49, .ref q50, .ref q51]))], [(q34, .inl (G.2.1, 1500, .inl (gMD_takes T114)))], [(q35, .inl (G.2.1, 60, .inl (gMD_mandatories T114)))], [(q36, .inl (G.2.1, 4000, .inl (gMD_makers T114)))], [(q37, .inl (G.2.1, 4000, .inl (gMD_fromAt T114)))], [(q38, .inl (G.2.1, 4000, .inl (gMD_firstSame T114)))], [(q39, .inl (G.2.2.1, 4000, .inr (.inl (gMD_sizes T114))))], [(q40, .inl (G.2.1, 20100, .inl (gMD_froms T114)))], [(q41, .inl (G.2.1, 200, .inl (gMD_pile T114)))], [(q42, .inl (G.2.1, 26000, .inl (gMD_toldStep T114)))], [(q43, .inl (G.2.1, 26000, .inl (gMD_stepRow T114)))], [(q44, .inl (G.2.2.2, 4000, .inl (gMD_isSaved T114)))], [(q45, .inl (G.2.2.2, 4000, .inl (gMD_isTold T114)))], [(q46, .inl (G.2.1, 4000, .inl (gMD_savedNumber T114)))], [(q47, .inl (G.2.1, 1500, .inl (gMD_labels T114)))], [(q48, .inl (G.2.1, 120000, .inl (gMD_letters T114)))], [(q49, .inl (G.2.2.2, 26000, .inl (gMD_saving T114)))], [(q50, .inl (G.2.1, 4001, .inl (gMD_walk T114)))], [(q51, .inl (G.2.1, 4001, .inl (gMD_walkAt T114)))]] H := by subst hT115; exact hB
                refine lv_iinc (v := k + 1) (lv' := [(3, .int (k + 1)), (0, .ref h0), (2, .int ((gMD_takes σ) i.toNatClampNeg))]) hx hb d_MD_make_129 hl (k := 2) rfl rfl (by decide) rfl (fun ls hl => ?_)
                refine lv_goto (tgt := 92) hx hb d_MD_make_132 (by decide) ?_
                exact ih92 _ _ _ _ ⟨(k + 1), T114, _, ⟨q34, q35, q36, q37, q38, q39, q40, q41, q42, q43, q44, q45, q46, q47, q48, q49, q50, q51, rfl⟩, bk_one hB, hS, lv_sub hl [1, 2, 0] rfl, hr0, rfl⟩
            · rintro H locs kc ls ⟨_, _, _, -, -, -, -, hz, -⟩; cases hz
          · have hr0 := ai_pos c26 hr0
            refine lv_iconst (v := (-1)) hx hb d_MD_make_58 (by decide) ?_
            have hr0 := Option.some.inj hr0
            subst hr0
            refine W.widen (k := 0) (n := 0) (Nat.le_refl _) (Nat.le_refl _) ?_
            exact W.iret (v := (-1)) hx hb hr (fun t ht hW => ⟨⟨(-1), [[(h0, .inr (6, [.int (gMD_statements σ), .ref q1, .ref q2, .int (gMD_mandatoryCount σ), .int (gMD_rows σ), .ref q3, .ref q4, .ref q5, .ref q6, .ref q7, .int (gMD_fromCount σ), .ref q8, .int (gMD_piled σ), .int (gMD_puts σ), .int (gMD_steps σ), .ref q9, .ref q10, .ref q11, .ref q12, .ref q13, .int (gMD_savedCount σ), .ref q14, .int (gMD_labelCount σ), .ref q15, .int (gMD_letterCount σ), .ref q16, .ref q17, .ref q18]))], [(q1, .inl (G.2.1, 1500, .inl (gMD_takes σ)))], [(q2, .inl (G.2.1, 60, .inl (gMD_mandatories σ)))], [(q3, .inl (G.2.1, 4000, .inl (gMD_makers σ)))], [(q4, .inl (G.2.1, 4000, .inl (gMD_fromAt σ)))], [(q5, .inl (G.2.1, 4000, .inl (gMD_firstSame σ)))], [(q6, .inl (G.2.2.1, 4000, .inr (.inl (gMD_sizes σ))))], [(q7, .inl (G.2.1, 20100, .inl (gMD_froms σ)))], [(q8, .inl (G.2.1, 200, .inl (gMD_pile σ)))], [(q9, .inl (G.2.1, 26000, .inl (gMD_toldStep σ)))], [(q10, .inl (G.2.1, 26000, .inl (gMD_stepRow σ)))], [(q11, .inl (G.2.2.2, 4000, .inl (gMD_isSaved σ)))], [(q12, .inl (G.2.2.2, 4000, .inl (gMD_isTold σ)))], [(q13, .inl (G.2.1, 4000, .inl (gMD_savedNumber σ)))], [(q14, .inl (G.2.1, 1500, .inl (gMD_labels σ)))], [(q15, .inl (G.2.1, 120000, .inl (gMD_letters σ)))], [(q16, .inl (G.2.2.2, 26000, .inl (gMD_saving σ)))], [(q17, .inl (G.2.1, 4001, .inl (gMD_walk σ)))], [(q18, .inl (G.2.1, 4001, .inl (gMD_walkAt σ)))]].flatten, rfl, ⟨rfl, ⟨q1, q2, q3, q4, q5, q6, q7, q8, q9, q10, q11, q12, q13, q14, q15, q16, q17, q18, rfl⟩⟩, by rw [ht]; exact hB.1, hB.2⟩, hS.F ht⟩) hS.2.2 d_MD_make_59
