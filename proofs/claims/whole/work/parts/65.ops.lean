/-! LEVEL B: make, again, clear -/
theorem MS_mk {μ μ' : tMD} {tk md : List Nat} (h : MS (gMD_statements μ) (gMD_takes μ) (gMD_mandatories μ) (gMD_mandatoryCount μ) tk md) (e : MK μ μ') : MS (gMD_statements μ') (gMD_takes μ') (gMD_mandatories μ') (gMD_mandatoryCount μ') tk md := by
  obtain ⟨⟨e1, e2, e3, e4⟩, -⟩ := e
  rw [e1, e2, e3, e4]; exact h
theorem TR_mk {τ : tTL} {μ μ' : tMD} (h : TR τ μ) (e : MK μ μ') : TR τ μ' := by
  obtain ⟨-, e1, e2, e3, e4, e5, e6, e7, e8⟩ := e
  refine TR_ft h ?_
  unfold ft
  rw [e1, e2, e3, e4, e5, e6, e7, e8]
theorem sub_neg0 {a b : Nat} (h : a < b) (hb : b < 2 ^ 30) : nI a - nI b < 0 := by
  rw [Int32.lt_iff_toInt_lt, Int32.toInt_sub, nI_toInt (by omega), nI_toInt (by omega), show (0 : Int32).toInt = 0 from rfl, Int.bmod_eq_of_le (by omega) (by omega)]
  omega
set_option maxHeartbeats 2000000 in
theorem rel_make (j : Nat) (σ : tPP) (μ : tMD) (a : Int32) (hj : j < 512) (h : RelP j σ μ) : ∃ μ' : tMD, A_MD_make μ a = some ((A_PP_make σ a).1, μ') ∧ K_PP_make σ a + Uo σ ≤ Uo (A_PP_make σ a).2 ∧ RelP (j + 1) (A_PP_make σ a).2 μ' := by
  have h0 := h
  obtain ⟨tk, md, rs, ks, fk, kd, sz, pl, pt, ⟨h1, h2, h3⟩, ⟨h4, h5, h6, h7⟩, ⟨⟨p1, p2, p3⟩, ⟨p4, p5, p6⟩, p7, p8, p9, p10⟩, ⟨h11, h12, h13⟩⟩ := h
  have htk := h3.1
  have hrs := h6.1
  have hkd := kd_le h6
  rcases ix_cases a (n := tk.length) (by omega) with hn | ⟨i, hi, rfl⟩
  · unfold A_MD_make A_PP_make K_PP_make
    rw [md_isSno h2.1 hn, st_hasno h1 hn, if_pos rfl, if_pos rfl, if_pos rfl]
    exact ⟨μ, rfl, by show 0 + Uo σ ≤ Uo σ; omega, rel_up _ _ _ h0⟩
  · have g : ¬ (nI i < 0 ∨ 1500 ≤ i) := ng2 (by omega) (by omega)
    have z : (nI i).toNatClampNeg = i := nI_clamp (by omega)
    have hle := tk_le h3.2.1 i
    have hlen : A_IL_length (gPP_pile σ) = nI pl.length := lI_length p1
    have htak := st_taking h1 hi (by omega)
    by_cases c1 : pl.length < tk.getD i 0
    · have e1 : nI pl.length - nI (tk.getD i 0) < 0 := by
        exact sub_neg0 c1 (by omega)
      unfold A_MD_make A_PP_make K_PP_make
      rw [md_isS h2.1 hi (by omega), st_has h1 hi (by omega), if_neg n10, if_neg n10, if_neg n10, hlen, htak, if_pos e1, if_pos e1, z, if_neg g, p4, h2.2.1 i hi, if_pos ((nI_ltI (by omega) (by omega)).mpr c1)]
      exact ⟨μ, rfl, by show 0 + Uo σ ≤ Uo σ; omega, rel_up _ _ _ h0⟩
    · obtain ⟨u, hu⟩ : ∃ u, u + tk.getD i 0 = pl.length := ⟨pl.length - tk.getD i 0, by omega⟩
      have hsub : nI pl.length - nI (tk.getD i 0) = nI u := by
        rw [pk_sub (by omega)]; congr 1; omega
      have e1 : ¬ nI u < 0 := nI_pos (by omega)
      have e2 : ¬ (4000 : Int32) ≤ nI rs.length := by
        show ¬ nI 4000 ≤ _
        rw [nI_leI (by omega) (by omega)]; omega
      have e3 : ¬ (20000 : Int32) ≤ nI pt := by
        show ¬ nI 20000 ≤ _
        rw [nI_leI (by omega) (by omega)]; omega
      by_cases c2 : u = 200
      · have e4 : ¬ nI rs.length = 4000 := fun e => by
          have : nI rs.length = nI 4000 := e
          rw [nI_eq (by omega) (by omega)] at this; omega
        have e5 : (200 : Int32) ≤ nI u := by
          show nI 200 ≤ _
          rw [nI_leI (by omega) (by omega)]; omega
        have e6 : nI u = 200 := by rw [c2]; rfl
        have em : A_PP_mayPutOn σ (nI u) = 0 := by unfold A_PP_mayPutOn; rw [if_pos e5]
        unfold A_MD_make A_PP_make K_PP_make
        rw [md_isS h2.1 hi (by omega), st_has h1 hi (by omega), if_neg n10, if_neg n10, if_neg n10, hlen, htak, hsub, if_neg e1, if_neg e1, cr_amount h4, if_neg e2, if_neg e2, em, if_pos rfl, if_pos rfl, z, if_neg g, p4, h2.2.1 i hi, if_neg (fun e => c1 ((nI_ltI (by omega) (by omega)).mp e)), h5.1, if_neg e4, if_neg g, hsub, if_pos e6]
        exact ⟨μ, rfl, by show 0 + Uo σ ≤ Uo σ; omega, rel_up _ _ _ h0⟩
      · have e5 : ¬ (200 : Int32) ≤ nI u := by
          show ¬ nI 200 ≤ _
          rw [nI_leI (by omega) (by omega)]; omega
        have em : A_PP_mayPutOn σ (nI u) = 1 := by unfold A_PP_mayPutOn; rw [if_neg e5, p3, if_neg e3]
        obtain ⟨ρ', r1, r2⟩ := cr_add h4 h6 h7 p1 (by omega) (by omega) (by omega) (by omega) hi hu p9
        obtain ⟨μ', m1, m2, m3, m4, m5, m6⟩ := md_make h2 h5 p4 p5 p6 h6 h7 (by omega) (by omega) (by omega) (by omega) p10 (by omega) hi hu (by omega) p9
        have hps : ∀ p ∈ pl.drop u, p < rs.length := fun p hp => p9 p (List.mem_of_mem_drop hp)
        have hpl : (pl.drop u).length = tk.getD i 0 := by rw [List.length_drop]; omega
        have hpp : A_PP_make σ (nI i) = (nI rs.length, A_PP_putOn (uPP_pile (uPP_rows σ ρ') (A_IL_cut (gPP_pile σ) (nI u))) (nI rs.length)) := by
          unfold A_PP_make
          rw [st_has h1 hi (by omega), if_neg n10, hlen, htak, hsub, if_neg e1, cr_amount h4, if_neg e2, em, if_neg n10, r1]
          rfl
        have hkk : K_PP_make σ (nI i) = K_RW_add (gPP_rows σ) (gPP_pile σ) (nI i) (nI u) + (K_IL_add (A_IL_cut (gPP_pile σ) (nI u)) (nI rs.length) + 0 + 0) := by
          unfold K_PP_make
          rw [st_has h1 hi (by omega), if_neg n10, hlen, htak, hsub, if_neg e1, cr_amount h4, if_neg e2, em, if_neg n10, r1]
          rfl
        rw [hpp, hkk]
        have hcut := lI_cut p1 (k := u) (by omega) (by omega)
        refine ⟨μ', m1, ?_, ?_⟩
        · have k1 : K_RW_add (gPP_rows σ) (gPP_pile σ) (nI i) (nI u) + 2 * cRW (gPP_rows σ) ≤ 2 * cRW ρ' := by
            have := ku_RW_add (gPP_rows σ) (gPP_pile σ) (nI i) (nI u) (by rw [lI_len h4.1.1]; simp; omega) (by have := h4.2.2.1.2.2.1; omega)
            rw [r1] at this
            exact this
          have k2 := ku_add (A_IL_cut (gPP_pile σ) (nI u)) (nI rs.length)
          rw [cap_cut] at k2
          show _ + 2 * (cST (gPP_statements σ) + cRW (gPP_rows σ) + cTL (gPP_telling σ) + (gPP_pile σ).2) ≤ 2 * (cST (gPP_statements σ) + cRW ρ' + cTL (gPP_telling σ) + (A_IL_add (A_IL_cut (gPP_pile σ) (nI u)) (nI rs.length)).2)
          omega
        · refine ⟨tk, md, rs ++ [(i, pl.drop u)], _, _, _, _, pl.take u ++ [rs.length], pt + 1, ⟨h1, MS_mk h2 m6, WS_up h3⟩, ⟨r2, m2, WR_new h6 (by omega) hi hpl hps _, WZ_new h7 hps (fun r hr p hp => ((h6.2.1 r hr).2.2 p hp).1)⟩, ⟨⟨?_, ?_, ?_⟩, ⟨?_, m4, m5⟩, ?_, by omega, ?_, ?_⟩, TR_mk h11 m6, CK_app h12 h6.2.2.1 (fun r hr p hp => ((h6.2.1 r hr).2.2 p hp).1), h13⟩
          · exact lI_add hcut _
          · exact cB_add (cB_cut p2 _) (by rw [lI_len hcut, List.length_take]; omega) _
          · show gPP_puts σ + 1 = _
            rw [p3, nI_1]
          · rw [m3]
            congr 1
            simp only [List.length_append, List.length_cons, List.length_nil, List.length_take]
            omega
          · rw [paL_app]
            simp only [List.length_append, List.length_cons, List.length_nil, List.length_take, List.length_drop]
            omega
          · intro p hp
            simp only [List.length_append, List.length_cons, List.length_nil]
            rcases List.mem_append.mp hp with h | h
            · have := p9 p (List.mem_of_mem_take h); omega
            · have : p = rs.length := by simpa using h
              omega
          · simp only [List.length_append, List.length_cons, List.length_nil, List.length_take]
            omega
set_option maxHeartbeats 1000000 in
theorem rel_again (j : Nat) (σ : tPP) (μ : tMD) (a : Int32) (hj : j < 512) (h : RelP j σ μ) : ∃ μ' : tMD, A_MD_again μ a = some ((A_PP_again σ a).1, μ') ∧ K_PP_again σ a + Uo σ ≤ Uo (A_PP_again σ a).2 ∧ RelP (j + 1) (A_PP_again σ a).2 μ' := by
  have h0 := h
  obtain ⟨tk, md, rs, ks, fk, kd, sz, pl, pt, ⟨h1, h2, h3⟩, ⟨h4, h5, h6, h7⟩, ⟨⟨p1, p2, p3⟩, ⟨p4, p5, p6⟩, p7, p8, p9, p10⟩, ⟨h11, h12, h13⟩⟩ := h
  have hrs := h6.1
  have hlen : A_IL_length (gPP_pile σ) = nI pl.length := lI_length p1
  unfold A_MD_again A_PP_again K_PP_again
  rcases ix_cases a (n := rs.length) (by omega) with hn | ⟨r, hr, rfl⟩
  · rw [md_isRno h5.1 hn, cr_hasno h4 hn, if_pos rfl, if_pos rfl, if_pos rfl]
    exact ⟨μ, rfl, by show 0 + Uo σ ≤ Uo σ; omega, rel_up _ _ _ h0⟩
  · have e3 : ¬ (20000 : Int32) ≤ nI pt := by
      show ¬ nI 20000 ≤ _
      rw [nI_leI (by omega) (by omega)]; omega
    have e4 : ¬ nI pt = 20000 := fun e => by
      have : nI pt = nI 20000 := e
      rw [nI_eq (by omega) (by omega)] at this; omega
    rw [md_isR h5.1 (by omega) hr, cr_has h4 (by omega) hr, if_neg n10, if_neg n10, if_neg n10, hlen, p4, p6]
    by_cases c : pl.length = 200
    · have e5 : (200 : Int32) ≤ nI pl.length := by
        show nI 200 ≤ _
        rw [nI_leI (by omega) (by omega)]; omega
      have em : A_PP_mayPutOn σ (nI pl.length) = 0 := by unfold A_PP_mayPutOn; rw [if_pos e5]
      have e6 : nI pl.length = 200 := by rw [c]; rfl
      rw [em, if_pos rfl, if_pos rfl, if_pos e6]
      exact ⟨μ, rfl, by show 0 + Uo σ ≤ Uo σ; omega, rel_up _ _ _ h0⟩
    · have e5 : ¬ (200 : Int32) ≤ nI pl.length := by
        show ¬ nI 200 ≤ _
        rw [nI_leI (by omega) (by omega)]; omega
      have em : A_PP_mayPutOn σ (nI pl.length) = 1 := by unfold A_PP_mayPutOn; rw [if_neg e5, p3, if_neg e3]
      have e6 : ¬ nI pl.length = 200 := fun e => by
        have : nI pl.length = nI 200 := e
        rw [nI_eq (by omega) (by omega)] at this; omega
      have g : ¬ (nI pl.length < 0 ∨ 200 ≤ pl.length) := ng2 (by omega) (by omega)
      have z : (nI pl.length).toNatClampNeg = pl.length := nI_clamp (by omega)
      have hl2 : A_IL_length (gPP_pile (A_PP_putOn σ (nI r))) = nI (pl.length + 1) := by
        show A_IL_length (A_IL_add (gPP_pile σ) (nI r)) = _
        rw [len_add, lI_len p1]
      rw [em, if_neg n10, if_neg n10, if_neg e6, if_neg e4, z, if_neg g]
      simp only [bnd, gu_MD_piled_pile, gu_MD_piled_piled, gu_MD_piled_puts, gu_MD_puts_pile, gu_MD_puts_piled, gu_MD_puts_puts, p4, p6, nI_1, hl2]
      refine ⟨_, rfl, ?_, ?_⟩
      · have k2 := ku_add (gPP_pile σ) (nI r)
        show K_IL_add (gPP_pile σ) (nI r) + 0 + 0 + 2 * (cST (gPP_statements σ) + cRW (gPP_rows σ) + cTL (gPP_telling σ) + (gPP_pile σ).2) ≤ 2 * (cST (gPP_statements σ) + cRW (gPP_rows σ) + cTL (gPP_telling σ) + (A_IL_add (gPP_pile σ) (nI r)).2)
        omega
      · refine ⟨tk, md, rs, ks, fk, kd, sz, pl ++ [r], pt + 1, ⟨h1, ?_, WS_up h3⟩, ⟨h4, ?_, WR_up h6, h7⟩, ⟨⟨?_, ?_, ?_⟩, ?_, ?_, by omega, ?_, ?_⟩, TR_ft h11 rfl, h12, h13⟩
        · simp only [gu_MD_statements_pile, gu_MD_statements_piled, gu_MD_statements_puts, gu_MD_takes_pile, gu_MD_takes_piled, gu_MD_takes_puts, gu_MD_mandatories_pile, gu_MD_mandatories_piled, gu_MD_mandatories_puts, gu_MD_mandatoryCount_pile, gu_MD_mandatoryCount_piled, gu_MD_mandatoryCount_puts]; exact h2
        · simp only [gu_MD_rows_pile, gu_MD_rows_piled, gu_MD_rows_puts, gu_MD_makers_pile, gu_MD_makers_piled, gu_MD_makers_puts, gu_MD_fromAt_pile, gu_MD_fromAt_piled, gu_MD_fromAt_puts, gu_MD_firstSame_pile, gu_MD_firstSame_piled, gu_MD_firstSame_puts, gu_MD_sizes_pile, gu_MD_sizes_piled, gu_MD_sizes_puts, gu_MD_froms_pile, gu_MD_froms_piled, gu_MD_froms_puts, gu_MD_fromCount_pile, gu_MD_fromCount_piled, gu_MD_fromCount_puts]; exact h5
        · exact lI_add p1 r
        · exact cB_add p2 (by rw [lI_len p1]; omega) _
        · show gPP_puts σ + 1 = _
          rw [p3, nI_1]
        · simp only [gu_MD_piled_pile, gu_MD_piled_piled, gu_MD_piled_puts, gu_MD_pile_pile, gu_MD_pile_piled, gu_MD_pile_puts, gu_MD_puts_pile, gu_MD_puts_piled, gu_MD_puts_puts]
          exact ⟨by simp, aI_push p5 r, trivial⟩
        · simp only [List.length_append, List.length_cons, List.length_nil]; omega
        · intro p hp
          rcases List.mem_append.mp hp with h | h
          · exact p9 p h
          · have : p = r := by simpa using h
            omega
        · simp only [List.length_append, List.length_cons, List.length_nil]; omega
set_option maxHeartbeats 2000000 in
theorem rel_clear (j : Nat) (σ : tPP) (μ : tMD) (hj : j < 512) (h : RelP j σ μ) : (A_MD_clear μ).1 = (A_PP_clear σ).1 ∧ Uo σ ≤ Uo (A_PP_clear σ).2 ∧ RelP (j + 1) (A_PP_clear σ).2 (A_MD_clear μ).2 := by
  obtain ⟨tk, md, rs, ks, fk, kd, sz, pl, pt, ⟨h1, h2, h3⟩, ⟨h4, h5, h6, h7⟩, ⟨⟨p1, p2, p3⟩, ⟨p4, p5, p6⟩, p7, p8, p9, p10⟩, ⟨h11, h12, h13, h14⟩⟩ := h
  have hrs := h6.1
  have hkd := kd_le h6
  obtain ⟨⟨c1, c2, c3, c4, c5, c6⟩, ⟨c7, -⟩, ⟨-, c8, c9, -⟩, d1, d2, d3, d4, d5, d6, d7⟩ := h4
  obtain ⟨f1, f2, f3, f4, f5, f6, f7, f8, f9, f10⟩ := h13
  obtain ⟨s1, s2, s3, s4, s5, s6, s7, s8⟩ := h14
  have hz : ∀ {x : tIL} {l : List Nat}, lI x l → l.length < 2 ^ 31 → lI (A_IL_cut x 0) [] := fun hx hl => by
    unfold lI
    rw [cut0 (by rw [lI_len hx]; exact hl)]; rfl
  unfold A_MD_clear A_PP_clear
  simp only [bnd]
  refine ⟨?_, ?_, ?_⟩
  · rw [h5.1]
    show _ = A_IL_length (gRW_statements (gPP_rows σ))
    rw [lI_length c1]; simp
  · show 2 * (cST (gPP_statements σ) + cRW (gPP_rows σ) + cTL (gPP_telling σ) + (gPP_pile σ).2) ≤ 2 * (cST (gPP_statements σ) + cRW (A_RW_forget (gPP_rows σ)) + cTL (A_TL_forget (gPP_telling σ)) + (A_IL_cut (gPP_pile σ) 0).2)
    have k1 : cRW (A_RW_forget (gPP_rows σ)) = cRW (gPP_rows σ) := by
      show (A_IL_cut (gRW_statements (gPP_rows σ)) 0).2 + (A_IL_cut (gRW_starts (gPP_rows σ)) 1).2 + (A_IL_cut (gRW_parts (gPP_rows σ)) 0).2 + (A_IL_cut (gRW_partKinds (gPP_rows σ)) 0).2 + (A_IL_cut (gRW_kinds (gPP_rows σ)) 0).2 + (A_IL_cut (gRW_firstOfKind (gPP_rows σ)) 0).2 + (A_IL_cut (gRW_olderKind (gPP_rows σ)) 0).2 + (gRW_steps (gPP_rows σ)).2 = _
      simp only [cap_cut]
      rfl
    have k2 : cTL (A_TL_forget (gPP_telling σ)) = cTL (gPP_telling σ) := by
      show (A_IL_cut (gTL_steps (gPP_telling σ)) 0).2 + (A_IL_cut (gTL_savedAs (gPP_telling σ)) 0).2 + (A_IL_cut (gTL_labels (gPP_telling σ)) 0).2 + (A_IL_cut (gTL_letters (gPP_telling σ)) 0).2 + (gTL_openRows (gPP_telling σ)).2 + (gTL_openParts (gPP_telling σ)).2 + (gTL_toldAt (gPP_telling σ)).2 + (gTL_numbers (gPP_telling σ)).2 + (gTL_remade (gPP_telling σ)).2 + (gTL_savedKinds (gPP_telling σ)).2 = _
      simp only [cap_cut]
      rfl
    rw [k1, k2, cap_cut]
    exact Nat.le_refl _
  · have w4 := h6.2.2.2.1
    have w3 := h6.2.2.1
    refine ⟨tk, md, [], [], [], [], [], [], 0, ⟨h1, ?_, WS_up h3⟩, ⟨⟨⟨hz c1 (by simp; omega), ?_, hz c3 (by omega), hz c4 (by simp; omega), hz c5 (by omega), hz c6 (by omega)⟩, ⟨?_, fun a h => absurd h (Nat.not_lt_zero _), fun b => rfl⟩, ⟨Nat.zero_le _, c8, c9, fun r h => absurd h (Nat.not_lt_zero _)⟩, cB_cut d1 _, cB_cut d2 _, cB_cut d3 _, cB_cut d4 _, cB_cut d5 _, cB_cut d6 _, cB_cut d7 _⟩, ?_, ?_, ?_⟩, ?_, ?_⟩
    · simp only [gu_MD_statements_rows, gu_MD_statements_fromCount, gu_MD_statements_piled, gu_MD_statements_puts, gu_MD_statements_steps, gu_MD_statements_labelCount, gu_MD_statements_letterCount, gu_MD_statements_savedCount, gu_MD_takes_rows, gu_MD_takes_fromCount, gu_MD_takes_piled, gu_MD_takes_puts, gu_MD_takes_steps, gu_MD_takes_labelCount, gu_MD_takes_letterCount, gu_MD_takes_savedCount, gu_MD_mandatories_rows, gu_MD_mandatories_fromCount, gu_MD_mandatories_piled, gu_MD_mandatories_puts, gu_MD_mandatories_steps, gu_MD_mandatories_labelCount, gu_MD_mandatories_letterCount, gu_MD_mandatories_savedCount, gu_MD_mandatoryCount_rows, gu_MD_mandatoryCount_fromCount, gu_MD_mandatoryCount_piled, gu_MD_mandatoryCount_puts, gu_MD_mandatoryCount_steps, gu_MD_mandatoryCount_labelCount, gu_MD_mandatoryCount_letterCount, gu_MD_mandatoryCount_savedCount]; exact h2
    · have := lI_cut c2 (k := 1) (by simp) (by simp; omega)
      have e : ((List.range (rs.length + 1)).map (off rs)).take 1 = (List.range (([] : tRS).length + 1)).map (off []) := by
        rw [List.range_succ_eq_map]
        simp [off_0]
      rw [e] at this
      exact this
    · show (A_IL_cut (gRW_olderKind (gPP_rows σ)) 0).1.length = _
      rw [cut0 (by omega)]; rfl
    · simp only [gu_MD_rows_rows, gu_MD_rows_fromCount, gu_MD_rows_piled, gu_MD_rows_puts, gu_MD_rows_steps, gu_MD_rows_labelCount, gu_MD_rows_letterCount, gu_MD_rows_savedCount, gu_MD_makers_rows, gu_MD_makers_fromCount, gu_MD_makers_piled, gu_MD_makers_puts, gu_MD_makers_steps, gu_MD_makers_labelCount, gu_MD_makers_letterCount, gu_MD_makers_savedCount, gu_MD_fromAt_rows, gu_MD_fromAt_fromCount, gu_MD_fromAt_piled, gu_MD_fromAt_puts, gu_MD_fromAt_steps, gu_MD_fromAt_labelCount, gu_MD_fromAt_letterCount, gu_MD_fromAt_savedCount, gu_MD_firstSame_rows, gu_MD_firstSame_fromCount, gu_MD_firstSame_piled, gu_MD_firstSame_puts, gu_MD_firstSame_steps, gu_MD_firstSame_labelCount, gu_MD_firstSame_letterCount, gu_MD_firstSame_savedCount, gu_MD_sizes_rows, gu_MD_sizes_fromCount, gu_MD_sizes_piled, gu_MD_sizes_puts, gu_MD_sizes_steps, gu_MD_sizes_labelCount, gu_MD_sizes_letterCount, gu_MD_sizes_savedCount, gu_MD_froms_rows, gu_MD_froms_fromCount, gu_MD_froms_piled, gu_MD_froms_puts, gu_MD_froms_steps, gu_MD_froms_labelCount, gu_MD_froms_letterCount, gu_MD_froms_savedCount, gu_MD_fromCount_rows, gu_MD_fromCount_fromCount, gu_MD_fromCount_piled, gu_MD_fromCount_puts, gu_MD_fromCount_steps, gu_MD_fromCount_labelCount, gu_MD_fromCount_letterCount, gu_MD_fromCount_savedCount]
      exact ⟨rfl, aI_nil _, fun r h => absurd h (Nat.not_lt_zero _), fun r h => absurd h (Nat.not_lt_zero _), fun r h => absurd h (Nat.not_lt_zero _), aI_nil _, rfl⟩
    · exact ⟨Nat.zero_le _, fun r h => absurd h (Nat.not_lt_zero _), rfl, rfl, rfl, fun r h => absurd h (Nat.not_lt_zero _), fun a b h => absurd h (Nat.not_lt_zero _), fun r h => absurd h (Nat.not_lt_zero _), fun a b _ h => absurd h (Nat.not_lt_zero _)⟩
    · exact ⟨rfl, fun r h => absurd h (Nat.not_lt_zero _)⟩
    · refine ⟨⟨hz p1 (by omega), cB_cut p2 _, rfl⟩, ?_, rfl, Nat.zero_le _, fun p h => by simp at h, by simp⟩
      simp only [gu_MD_piled_rows, gu_MD_piled_fromCount, gu_MD_piled_piled, gu_MD_piled_puts, gu_MD_piled_steps, gu_MD_piled_labelCount, gu_MD_piled_letterCount, gu_MD_piled_savedCount, gu_MD_pile_rows, gu_MD_pile_fromCount, gu_MD_pile_piled, gu_MD_pile_puts, gu_MD_pile_steps, gu_MD_pile_labelCount, gu_MD_pile_letterCount, gu_MD_pile_savedCount, gu_MD_puts_rows, gu_MD_puts_fromCount, gu_MD_puts_piled, gu_MD_puts_puts, gu_MD_puts_steps, gu_MD_puts_labelCount, gu_MD_puts_letterCount, gu_MD_puts_savedCount]
      exact ⟨rfl, aI_nil _, rfl⟩
    · have t1 : (A_IL_cut (gTL_steps (gPP_telling σ)) 0).1 = [] := cut0 s1
      have t2 : (A_IL_cut (gTL_savedAs (gPP_telling σ)) 0).1 = [] := cut0 s2
      have t3 : (A_IL_cut (gTL_labels (gPP_telling σ)) 0).1 = [] := cut0 s5
      have t4 : (A_IL_cut (gTL_letters (gPP_telling σ)) 0).1 = [] := cut0 s6
      have y1 : gTL_steps (A_TL_forget (gPP_telling σ)) = A_IL_cut (gTL_steps (gPP_telling σ)) 0 := rfl
      have y2 : gTL_savedAs (A_TL_forget (gPP_telling σ)) = A_IL_cut (gTL_savedAs (gPP_telling σ)) 0 := rfl
      have y3 : gTL_labels (A_TL_forget (gPP_telling σ)) = A_IL_cut (gTL_labels (gPP_telling σ)) 0 := rfl
      have y4 : gTL_letters (A_TL_forget (gPP_telling σ)) = A_IL_cut (gTL_letters (gPP_telling σ)) 0 := rfl
      have y5 : gTL_savedRows (A_TL_forget (gPP_telling σ)) = 0 := rfl
      show TR (A_TL_forget (gPP_telling σ)) _ ∧ CkR (A_TL_forget (gPP_telling σ)) [] [] ∧ CAP (A_TL_forget (gPP_telling σ)) ∧ SML (A_TL_forget (gPP_telling σ))
      refine ⟨?_, Or.inl rfl, ?_, ?_⟩
      · unfold TR ltR
        simp only [y1, y2, y3, y4, y5, t1, t2, t3, t4, gu_MD_steps_rows, gu_MD_steps_fromCount, gu_MD_steps_piled, gu_MD_steps_puts, gu_MD_steps_steps, gu_MD_steps_labelCount, gu_MD_steps_letterCount, gu_MD_steps_savedCount, gu_MD_toldStep_rows, gu_MD_toldStep_fromCount, gu_MD_toldStep_piled, gu_MD_toldStep_puts, gu_MD_toldStep_steps, gu_MD_toldStep_labelCount, gu_MD_toldStep_letterCount, gu_MD_toldStep_savedCount, gu_MD_saving_rows, gu_MD_saving_fromCount, gu_MD_saving_piled, gu_MD_saving_puts, gu_MD_saving_steps, gu_MD_saving_labelCount, gu_MD_saving_letterCount, gu_MD_saving_savedCount, gu_MD_labels_rows, gu_MD_labels_fromCount, gu_MD_labels_piled, gu_MD_labels_puts, gu_MD_labels_steps, gu_MD_labels_labelCount, gu_MD_labels_letterCount, gu_MD_labels_savedCount, gu_MD_labelCount_rows, gu_MD_labelCount_fromCount, gu_MD_labelCount_piled, gu_MD_labelCount_puts, gu_MD_labelCount_steps, gu_MD_labelCount_labelCount, gu_MD_labelCount_letterCount, gu_MD_labelCount_savedCount, gu_MD_letters_rows, gu_MD_letters_fromCount, gu_MD_letters_piled, gu_MD_letters_puts, gu_MD_letters_steps, gu_MD_letters_labelCount, gu_MD_letters_letterCount, gu_MD_letters_savedCount, gu_MD_letterCount_rows, gu_MD_letterCount_fromCount, gu_MD_letterCount_piled, gu_MD_letterCount_puts, gu_MD_letterCount_steps, gu_MD_letterCount_labelCount, gu_MD_letterCount_letterCount, gu_MD_letterCount_savedCount, gu_MD_savedCount_rows, gu_MD_savedCount_fromCount, gu_MD_savedCount_piled, gu_MD_savedCount_puts, gu_MD_savedCount_steps, gu_MD_savedCount_labelCount, gu_MD_savedCount_letterCount, gu_MD_savedCount_savedCount]
        exact ⟨⟨by simp, rfl, fun i h => absurd h (Nat.not_lt_zero _)⟩, ⟨trivial, fun i h => absurd h (Nat.not_lt_zero _)⟩, ⟨by simp, rfl, fun i h => absurd h (Nat.not_lt_zero _)⟩, ⟨by simp, rfl, fun i h => absurd h (Nat.not_lt_zero _)⟩, trivial⟩
      · exact ⟨cB_cut f1 _, cB_cut f2 _, f3, f4, f5, cB_cut f6 _, cB_cut f7 _, f8, f9, f10⟩
      · unfold SML
        rw [y1, y2, y3, y4, t1, t2, t3, t4]
        exact ⟨by simp, by simp, s3, s4, by simp, by simp, s7, s8⟩
