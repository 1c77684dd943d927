def M_RW_statementInFull_L47 (σ : tRW) (here : Int32) (level : Int32) (left2 : Int64) (place : Int32) : Nat := ((A_RW_amountOfParts σ here).toInt - place.toInt).toNat
def A_RW_statementInFull_L47 (σ : tRW) (here : Int32) (level : Int32) (rec9 : Int32 → Int64 → Int32 → Int32) : Nat → Int64 → Int32 → Int32
  | 0, _, _ => 0
  | n47 + 1, left2, place => if (A_RW_amountOfParts σ here) ≤ place then (rec9 (A_RW_part σ here place) left2 (level + 1)) else (if (lg_cmp left2 (A_RW_stepsInFull σ (A_RW_part σ here place))) < 0 then (rec9 (A_RW_part σ here place) left2 (level + 1)) else (A_RW_statementInFull_L47 σ here level rec9 n47 (left2 - (A_RW_stepsInFull σ (A_RW_part σ here place))) (place + 1)))
def M_RW_statementInFull_L9 (σ : tRW) (here : Int32) (left : Int64) (level : Int32) : Nat := ((4000 : Int32).toInt - level.toInt).toNat
def A_RW_statementInFull_L9 (σ : tRW) : Nat → Int32 → Int64 → Int32 → Int32
  | 0, _, _, _ => 0
  | n9 + 1, here, left, level => if 4000 ≤ level then (-1) else (if (A_RW_has σ here) = 0 then (-1) else (if (lg_cmp left ((A_RW_stepsInFull σ here) - 1)) < 0 then (A_RW_statementInFull_L47 σ here level (A_RW_statementInFull_L9 σ n9) (M_RW_statementInFull_L47 σ here level left 0 + 1) left 0) else (A_RW_statementOf σ here)))
def A_RW_statementInFull (σ : tRW) (r : Int32) (k : Int32) : Int32 := A_RW_statementInFull_L9 σ (M_RW_statementInFull_L9 σ r k.toInt64 0 + 1) r k.toInt64 0
set_option maxHeartbeats 4000000 in
set_option maxRecDepth 100000 in
theorem c_RW_statementInFull (l : Launch) (G : pG) (h0 : Nat) (ad : Nat → Nat) (σ : tRW) (r : Int32) (k : Int32) (H : Heap) (w : va_W) (hP0 : va_P G.1 vwCl w H) (hσ : pRW G h0 ad σ w) (res : Int32) (hr0 : A_RW_statementInFull σ r k = res) : MRi l y_RW_statementInFull w_RW_statementInFull 4 84 G [.ref h0, .int r, .int k] H res := by
  refine Met.ofW (cc := b_RW_statementInFull) (maxL := 8) (ret := (some .int)) (by decide) rfl ?_
  intro p e s m args below meth c s₁ B hml hv
  obtain ⟨rfl, rfl, hK⟩ := hv
  have hx := B.exec
  have hb := B.bytes
  have hr := B.returns
  have hts0 := atoms_spec (ws := w_RW_statementInFull) B.pre
  have hts := fun w (h : w ∈ lw_g) => hts0 w (List.mem_cons_of_mem _ h)
  have hown : s.vm.findClass RRW = some m.cls := findClass_of_methodNamed B.named
  have hlocks := B.notSynchronized
  have hσ0 := hσ
  obtain ⟨q15, q16, w1, w3, w5, w7, w9, w11, w13, rfl, h2, h4, h6, h8, h10, h12, h14, h17⟩ := hσ
  have hP := hP0
  obtain ⟨A, hAe⟩ : ∃ A : Nat → Prop, A = fun _ => False := ⟨_, rfl⟩
  rw [← hAe]
  have hS : va_S A s.heap s.heap [] := va_S.rf
  have hl := lv_entry ([.ref h0, .int r, .int k]) (n := 8) (Nat.le_of_ble_eq_true rfl)
  rw [lg_entry_eq]
  generalize (lg_sl ([.ref h0, .int r, .int k]) ++ List.replicate (8 - (lg_sl ([.ref h0, .int r, .int k])).length) Slot.unset).toArray = ls at hl ⊢
  have hl : lv_has ls 8 [(0, .ref h0), (1, .int r), (2, .int k)] := hl
  unfold A_RW_statementInFull at hr0
  refine lv_iload_n hx hb d_RW_statementInFull_0 rfl (lv_at hl 1 rfl) ?_
  refine lv_istore_n (lv' := [(3, .int r), (0, .ref h0), (1, .int r), (2, .int k)]) hx hb d_RW_statementInFull_1 rfl hl (by decide) rfl (fun ls hl => ?_)
  refine lv_iload_n hx hb d_RW_statementInFull_2 rfl (lv_at hl 3 rfl) ?_
  refine lv_i2l (v := k.toInt64) hx hb d_RW_statementInFull_3 rfl ?_
  refine lv_lstore (lv' := [(4, .long k.toInt64), (3, .int r), (0, .ref h0), (1, .int r), (2, .int k)]) hx hb d_RW_statementInFull_4 hl (by decide) rfl (fun ls hl => ?_)
  refine lv_iconst (v := 0) hx hb d_RW_statementInFull_6 (by decide) ?_
  refine lv_istore (lv' := [(6, .int 0), (4, .long k.toInt64), (3, .int r), (0, .ref h0), (1, .int r), (2, .int k)]) hx hb d_RW_statementInFull_7 hl (by decide) rfl (fun ls hl => ?_)
  refine lp_R (I := fun n9 locs ls => ∃ (here : Int32) (left : Int64) (level : Int32), va_S A s.heap s.heap locs ∧ lv_has ls 8 [(0, .ref h0), (3, .int here), (4, .long left), (6, .int level)] ∧ A_RW_statementInFull_L9 σ n9 here left level = res ∧ M_RW_statementInFull_L9 σ here left level < n9) ?_ ?_ (M_RW_statementInFull_L9 σ r k.toInt64 0 + 1) _ _ ⟨r, k.toInt64, 0, hS, lv_sub hl [3, 2, 1, 0] rfl, hr0, Nat.lt_succ_self _⟩
  · intro n9 ih9 locs ls ⟨here, left, level, hS, hl, hr0, hm9⟩
    rw [A_RW_statementInFull_L9] at hr0
    refine lv_iload hx hb d_RW_statementInFull_9 (lv_at hl 3 rfl) ?_
    refine lv_sipush (v := 4000) hx hb d_RW_statementInFull_11 (by decide) ?_
    refine lv_icmp_ge (tgt := 110) hx hb d_RW_statementInFull_14 (by decide) (fun c18 => ?_) (fun c18 => ?_)
    · have hr0 := ai_pos c18 hr0
      refine lv_iconst (v := (-1)) hx hb d_RW_statementInFull_110 (by decide) ?_
      exact W.iret (v := (-1)) hx hb hr (fun t ht hW => ⟨⟨(-1), (), rfl, hr0, ht⟩, hS.F ht⟩) hS.2.2 d_RW_statementInFull_111
    · have hr0 := ai_neg c18 hr0
      refine lv_aload_n hx hb d_RW_statementInFull_17 rfl (lv_at hl 0 rfl) ?_
      refine lv_iload_n hx hb d_RW_statementInFull_18 rfl (lv_at hl 1 rfl) ?_
      refine rdV (G := G) (As := [.int here]) (rest := []) (C := RRW) ⟨hx, hb, hml, hown, hts⟩ (c_RW_has l G h0 ad σ here _ _ hP0 hσ0 _ rfl) (cwV 1 hts (gd_V ml_RW_65 im_RW_has sl_RW_has ini_RW k_RW_has) rfl rmK_c rmK_s (by decide +kernel) ⟨Nat.le_of_ble_eq_true rfl, Nat.le_of_ble_eq_true rfl⟩) hK (pRW_recv hK hP0 hσ0) hS ⟨Nat.le_refl _, Nat.le_refl _⟩ rfl hl.1 (Nat.le_of_ble_eq_true rfl) d_RW_statementInFull_19 (fun locs hS => ?_)
      refine lv_if_eq (tgt := 110) hx hb d_RW_statementInFull_22 (by decide) (fun c19 => ?_) (fun c19 => ?_)
      · have hr0 := ai_pos c19 hr0
        refine lv_iconst (v := (-1)) hx hb d_RW_statementInFull_110 (by decide) ?_
        exact W.iret (v := (-1)) hx hb hr (fun t ht hW => ⟨⟨(-1), (), rfl, hr0, ht⟩, hS.F ht⟩) hS.2.2 d_RW_statementInFull_111
      · have hr0 := ai_neg c19 hr0
        refine lv_lload hx hb d_RW_statementInFull_25 (lv_at hl 2 rfl) ?_
        refine lv_aload_n hx hb d_RW_statementInFull_27 rfl (lv_at hl 0 rfl) ?_
        refine lv_iload_n hx hb d_RW_statementInFull_28 rfl (lv_at hl 1 rfl) ?_
        refine rdVl (G := G) (As := [.int here]) (rest := [.long left]) (C := RRW) ⟨hx, hb, hml, hown, hts⟩ (c_RW_stepsInFull l G h0 ad σ here _ _ hP0 hσ0 _ rfl) (cwV 1 hts (gd_V ml_RW_110 im_RW_stepsInFull sl_RW_stepsInFull ini_RW k_RW_stepsInFull) rfl rmK_c rmK_s (by decide +kernel) ⟨Nat.le_of_ble_eq_true rfl, Nat.le_of_ble_eq_true rfl⟩) hK (pRW_recv hK hP0 hσ0) hS ⟨Nat.le_refl _, Nat.le_refl _⟩ rfl hl.1 (Nat.le_of_ble_eq_true rfl) d_RW_statementInFull_29 (fun locs hS => ?_)
        refine lv_lconst (v := 1) hx hb d_RW_statementInFull_32 (by decide) ?_
        refine lv_lsub hx hb d_RW_statementInFull_33 ?_
        refine W.lcmp hx hb d_RW_statementInFull_34 ?_
        refine lv_if_lt (tgt := 44) hx hb d_RW_statementInFull_35 (by decide) (fun c20 => ?_) (fun c20 => ?_)
        · have hr0 := ai_pos c20 hr0
          refine lv_iconst (v := 0) hx hb d_RW_statementInFull_44 (by decide) ?_
          refine lv_istore (lv' := [(7, .int 0), (0, .ref h0), (3, .int here), (4, .long left), (6, .int level)]) hx hb d_RW_statementInFull_45 hl (by decide) rfl (fun ls hl => ?_)
          refine lp_R (I := fun n47 locs ls => ∃ (left2 : Int64) (place : Int32), va_S A s.heap s.heap locs ∧ lv_has ls 8 [(0, .ref h0), (3, .int here), (6, .int level), (4, .long left2), (7, .int place)] ∧ A_RW_statementInFull_L47 σ here level (A_RW_statementInFull_L9 σ n9) n47 left2 place = res ∧ M_RW_statementInFull_L47 σ here level left2 place < n47) ?_ ?_ (M_RW_statementInFull_L47 σ here level left 0 + 1) _ _ ⟨left, 0, hS, lv_sub hl [1, 2, 4, 3, 0] rfl, hr0, Nat.lt_succ_self _⟩
          · intro n47 ih47 locs ls ⟨left2, place, hS, hl, hr0, hm47⟩
            rw [A_RW_statementInFull_L47] at hr0
            refine lv_iload hx hb d_RW_statementInFull_47 (lv_at hl 4 rfl) ?_
            refine lv_aload_n hx hb d_RW_statementInFull_49 rfl (lv_at hl 0 rfl) ?_
            refine lv_iload_n hx hb d_RW_statementInFull_50 rfl (lv_at hl 1 rfl) ?_
            refine rdV (G := G) (As := [.int here]) (rest := [.int place]) (C := RRW) ⟨hx, hb, hml, hown, hts⟩ (c_RW_amountOfParts l G h0 ad σ here _ _ hP0 hσ0 _ rfl) (cwV 1 hts (gd_V ml_RW_69 im_RW_amountOfParts sl_RW_amountOfParts ini_RW k_RW_amountOfParts) rfl rmK_c rmK_s (by decide +kernel) ⟨Nat.le_of_ble_eq_true rfl, Nat.le_of_ble_eq_true rfl⟩) hK (pRW_recv hK hP0 hσ0) hS ⟨Nat.le_refl _, Nat.le_refl _⟩ rfl hl.1 (Nat.le_of_ble_eq_true rfl) d_RW_statementInFull_51 (fun locs hS => ?_)
            refine lv_icmp_ge (tgt := 96) hx hb d_RW_statementInFull_54 (by decide) (fun c21 => ?_) (fun c21 => ?_)
            · have hr0 := ai_pos c21 hr0
              refine lv_aload_n hx hb d_RW_statementInFull_96 rfl (lv_at hl 0 rfl) ?_
              refine lv_iload_n hx hb d_RW_statementInFull_97 rfl (lv_at hl 1 rfl) ?_
              refine lv_iload hx hb d_RW_statementInFull_98 (lv_at hl 4 rfl) ?_
              refine rdV (G := G) (As := [.int here, .int place]) (rest := []) (C := RRW) ⟨hx, hb, hml, hown, hts⟩ (c_RW_part l G h0 ad σ here place _ _ hP0 hσ0 _ rfl) (cwV 2 hts (gd_V ml_RW_107 im_RW_part sl_RW_part ini_RW k_RW_part) rfl rmK_c rmK_s (by decide +kernel) ⟨Nat.le_of_ble_eq_true rfl, Nat.le_of_ble_eq_true rfl⟩) hK (pRW_recv hK hP0 hσ0) hS ⟨Nat.le_refl _, Nat.le_refl _⟩ rfl hl.1 (Nat.le_of_ble_eq_true rfl) d_RW_statementInFull_100 (fun locs hS => ?_)
              refine lv_istore_n (lv' := [(3, .int (A_RW_part σ here place)), (0, .ref h0), (6, .int level), (4, .long left2), (7, .int place)]) hx hb d_RW_statementInFull_103 rfl hl (by decide) rfl (fun ls hl => ?_)
              refine lv_iinc (v := level + 1) (lv' := [(6, .int (level + 1)), (3, .int (A_RW_part σ here place)), (0, .ref h0), (4, .long left2), (7, .int place)]) hx hb d_RW_statementInFull_104 hl (k := 2) rfl rfl (by decide) rfl (fun ls hl => ?_)
              refine lv_goto (tgt := 9) hx hb d_RW_statementInFull_107 (by decide) ?_
              exact ih9 _ _ ⟨(A_RW_part σ here place), left2, (level + 1), hS, lv_sub hl [2, 1, 3, 0] rfl, hr0, up_dec c18 hm9⟩
            · have hr0 := ai_neg c21 hr0
              refine lv_lload hx hb d_RW_statementInFull_57 (lv_at hl 3 rfl) ?_
              refine lv_aload_n hx hb d_RW_statementInFull_59 rfl (lv_at hl 0 rfl) ?_
              refine lv_aload_n hx hb d_RW_statementInFull_60 rfl (lv_at hl 0 rfl) ?_
              refine lv_iload_n hx hb d_RW_statementInFull_61 rfl (lv_at hl 1 rfl) ?_
              refine lv_iload hx hb d_RW_statementInFull_62 (lv_at hl 4 rfl) ?_
              refine rdV (G := G) (As := [.int here, .int place]) (rest := [.ref h0, .long left2]) (C := RRW) ⟨hx, hb, hml, hown, hts⟩ (c_RW_part l G h0 ad σ here place _ _ hP0 hσ0 _ rfl) (cwV 2 hts (gd_V ml_RW_107 im_RW_part sl_RW_part ini_RW k_RW_part) rfl rmK_c rmK_s (by decide +kernel) ⟨Nat.le_of_ble_eq_true rfl, Nat.le_of_ble_eq_true rfl⟩) hK (pRW_recv hK hP0 hσ0) hS ⟨Nat.le_refl _, Nat.le_refl _⟩ rfl hl.1 (Nat.le_of_ble_eq_true rfl) d_RW_statementInFull_64 (fun locs hS => ?_)
              refine rdVl (G := G) (As := [.int (A_RW_part σ here place)]) (rest := [.long left2]) (C := RRW) ⟨hx, hb, hml, hown, hts⟩ (c_RW_stepsInFull l G h0 ad σ (A_RW_part σ here place) _ _ hP0 hσ0 _ rfl) (cwV 1 hts (gd_V ml_RW_110 im_RW_stepsInFull sl_RW_stepsInFull ini_RW k_RW_stepsInFull) rfl rmK_c rmK_s (by decide +kernel) ⟨Nat.le_of_ble_eq_true rfl, Nat.le_of_ble_eq_true rfl⟩) hK (pRW_recv hK hP0 hσ0) hS ⟨Nat.le_refl _, Nat.le_refl _⟩ rfl hl.1 (Nat.le_of_ble_eq_true rfl) d_RW_statementInFull_67 (fun locs hS => ?_)
              refine W.lcmp hx hb d_RW_statementInFull_70 ?_
              refine lv_if_lt (tgt := 96) hx hb d_RW_statementInFull_71 (by decide) (fun c22 => ?_) (fun c22 => ?_)
              · have hr0 := ai_pos c22 hr0
                refine lv_aload_n hx hb d_RW_statementInFull_96 rfl (lv_at hl 0 rfl) ?_
                refine lv_iload_n hx hb d_RW_statementInFull_97 rfl (lv_at hl 1 rfl) ?_
                refine lv_iload hx hb d_RW_statementInFull_98 (lv_at hl 4 rfl) ?_
                refine rdV (G := G) (As := [.int here, .int place]) (rest := []) (C := RRW) ⟨hx, hb, hml, hown, hts⟩ (c_RW_part l G h0 ad σ here place _ _ hP0 hσ0 _ rfl) (cwV 2 hts (gd_V ml_RW_107 im_RW_part sl_RW_part ini_RW k_RW_part) rfl rmK_c rmK_s (by decide +kernel) ⟨Nat.le_of_ble_eq_true rfl, Nat.le_of_ble_eq_true rfl⟩) hK (pRW_recv hK hP0 hσ0) hS ⟨Nat.le_refl _, Nat.le_refl _⟩ rfl hl.1 (Nat.le_of_ble_eq_true rfl) d_RW_statementInFull_100 (fun locs hS => ?_)
                refine lv_istore_n (lv' := [(3, .int (A_RW_part σ here place)), (0, .ref h0), (6, .int level), (4, .long left2), (7, .int place)]) hx hb d_RW_statementInFull_103 rfl hl (by decide) rfl (fun ls hl => ?_)
                refine lv_iinc (v := level + 1) (lv' := [(6, .int (level + 1)), (3, .int (A_RW_part σ here place)), (0, .ref h0), (4, .long left2), (7, .int place)]) hx hb d_RW_statementInFull_104 hl (k := 2) rfl rfl (by decide) rfl (fun ls hl => ?_)
                refine lv_goto (tgt := 9) hx hb d_RW_statementInFull_107 (by decide) ?_
                exact ih9 _ _ ⟨(A_RW_part σ here place), left2, (level + 1), hS, lv_sub hl [2, 1, 3, 0] rfl, hr0, up_dec c18 hm9⟩
              · have hr0 := ai_neg c22 hr0
                refine lv_lload hx hb d_RW_statementInFull_74 (lv_at hl 3 rfl) ?_
                refine lv_aload_n hx hb d_RW_statementInFull_76 rfl (lv_at hl 0 rfl) ?_
                refine lv_aload_n hx hb d_RW_statementInFull_77 rfl (lv_at hl 0 rfl) ?_
                refine lv_iload_n hx hb d_RW_statementInFull_78 rfl (lv_at hl 1 rfl) ?_
                refine lv_iload hx hb d_RW_statementInFull_79 (lv_at hl 4 rfl) ?_
                refine rdV (G := G) (As := [.int here, .int place]) (rest := [.ref h0, .long left2]) (C := RRW) ⟨hx, hb, hml, hown, hts⟩ (c_RW_part l G h0 ad σ here place _ _ hP0 hσ0 _ rfl) (cwV 2 hts (gd_V ml_RW_107 im_RW_part sl_RW_part ini_RW k_RW_part) rfl rmK_c rmK_s (by decide +kernel) ⟨Nat.le_of_ble_eq_true rfl, Nat.le_of_ble_eq_true rfl⟩) hK (pRW_recv hK hP0 hσ0) hS ⟨Nat.le_refl _, Nat.le_refl _⟩ rfl hl.1 (Nat.le_of_ble_eq_true rfl) d_RW_statementInFull_81 (fun locs hS => ?_)
                refine rdVl (G := G) (As := [.int (A_RW_part σ here place)]) (rest := [.long left2]) (C := RRW) ⟨hx, hb, hml, hown, hts⟩ (c_RW_stepsInFull l G h0 ad σ (A_RW_part σ here place) _ _ hP0 hσ0 _ rfl) (cwV 1 hts (gd_V ml_RW_110 im_RW_stepsInFull sl_RW_stepsInFull ini_RW k_RW_stepsInFull) rfl rmK_c rmK_s (by decide +kernel) ⟨Nat.le_of_ble_eq_true rfl, Nat.le_of_ble_eq_true rfl⟩) hK (pRW_recv hK hP0 hσ0) hS ⟨Nat.le_refl _, Nat.le_refl _⟩ rfl hl.1 (Nat.le_of_ble_eq_true rfl) d_RW_statementInFull_84 (fun locs hS => ?_)
                refine lv_lsub hx hb d_RW_statementInFull_87 ?_
                refine lv_lstore (lv' := [(4, .long (left2 - (A_RW_stepsInFull σ (A_RW_part σ here place)))), (0, .ref h0), (3, .int here), (6, .int level), (7, .int place)]) hx hb d_RW_statementInFull_88 hl (by decide) rfl (fun ls hl => ?_)
                refine lv_iinc (v := place + 1) (lv' := [(7, .int (place + 1)), (4, .long (left2 - (A_RW_stepsInFull σ (A_RW_part σ here place)))), (0, .ref h0), (3, .int here), (6, .int level)]) hx hb d_RW_statementInFull_90 hl (k := 4) rfl rfl (by decide) rfl (fun ls hl => ?_)
                refine lv_goto (tgt := 47) hx hb d_RW_statementInFull_93 (by decide) ?_
                exact ih47 _ _ ⟨(left2 - (A_RW_stepsInFull σ (A_RW_part σ here place))), (place + 1), hS, lv_sub hl [2, 3, 4, 1, 0] rfl, hr0, up_dec c21 hm47⟩
          · rintro locs ls ⟨_, _, -, -, -, hz⟩; exact Nat.not_lt_zero _ hz
        · have hr0 := ai_neg c20 hr0
          refine lv_aload_n hx hb d_RW_statementInFull_38 rfl (lv_at hl 0 rfl) ?_
          refine lv_iload_n hx hb d_RW_statementInFull_39 rfl (lv_at hl 1 rfl) ?_
          refine rdV (G := G) (As := [.int here]) (rest := []) (C := RRW) ⟨hx, hb, hml, hown, hts⟩ (c_RW_statementOf l G h0 ad σ here _ _ hP0 hσ0 _ rfl) (cwV 1 hts (gd_V ml_RW_90 im_RW_statementOf sl_RW_statementOf ini_RW k_RW_statementOf) rfl rmK_c rmK_s (by decide +kernel) ⟨Nat.le_of_ble_eq_true rfl, Nat.le_of_ble_eq_true rfl⟩) hK (pRW_recv hK hP0 hσ0) hS ⟨Nat.le_refl _, Nat.le_refl _⟩ rfl hl.1 (Nat.le_of_ble_eq_true rfl) d_RW_statementInFull_40 (fun locs hS => ?_)
          exact W.iret (v := (A_RW_statementOf σ here)) hx hb hr (fun t ht hW => ⟨⟨(A_RW_statementOf σ here), (), rfl, hr0, ht⟩, hS.F ht⟩) hS.2.2 d_RW_statementInFull_43
  · rintro locs ls ⟨_, _, _, -, -, -, hz⟩; exact Nat.not_lt_zero _ hz
