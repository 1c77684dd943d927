/-! LEVEL B: what is read of the telling; pack, check; the law -/
section RDS
variable {τ : tTL} {μ : tMD}
theorem t_step (h : TR τ μ) (a : Int32) : A_MD_step μ a = some (A_TL_stepAt τ a) := by
  obtain ⟨⟨b, h1, h2⟩, -⟩ := h
  unfold A_MD_step A_TL_stepAt
  rcases ix_cases a (n := (gTL_steps τ).1.length) (by omega) with hn | ⟨k, hk, rfl⟩
  · rw [il_at_out hn, h1]
    by_cases c : a < 0
    · rw [if_pos c]
    · rw [if_neg c, if_pos (hn.resolve_left c)]
  · have g : ¬ (nI k < 0 ∨ 26000 ≤ k) := ng2 (by omega) (by omega)
    have z : (nI k).toNatClampNeg = k := nI_clamp (by omega)
    rw [if_neg (nI_pos (by omega)), h1, if_neg (fun e => by have := (nI_leI (by omega) (by omega)).mp e; omega), z, if_neg g, h2 k hk, il_at hk (by omega)]
theorem t_saves (h : TR τ μ) (a : Int32) : A_MD_saves μ a = some (if a < 0 then (-1) else (if a < (A_TL_amountOfSteps τ) then (if (A_TL_isSavedAt τ a) = 0 then 0 else 1) else (-1))) := by
  obtain ⟨⟨b, h1, -⟩, ⟨h2, h3⟩, -⟩ := h
  unfold A_MD_saves
  have e : A_TL_amountOfSteps τ = nI (gTL_steps τ).1.length := rfl
  rw [e, h1]
  by_cases c : a < 0
  · rw [if_pos c, if_pos c]
  · rw [if_neg c, if_neg c]
    by_cases d : a < nI (gTL_steps τ).1.length
    · rw [if_pos d, if_pos d]
      obtain ⟨k, hk, rfl⟩ := nI_of c
      have hk2 := (nI_ltI hk (by omega)).mp d
      have g : ¬ (nI k < 0 ∨ 26000 ≤ k) := ng2 (by omega) (by omega)
      have z : (nI k).toNatClampNeg = k := nI_clamp (by omega)
      rw [z, if_neg g, h3 k hk2]
      unfold A_TL_isSavedAt
      rw [il_at (by omega) (by omega)]
      by_cases f : (gTL_savedAs τ).1.getD k 0 = -1
      · rw [if_pos f, if_pos rfl, if_pos rfl]
      · rw [if_neg f, if_neg n10, if_neg n10]
    · rw [if_neg d, if_neg d]
theorem t_label (h : TR τ μ) (a : Int32) : A_MD_label μ a = some (A_TL_labelAt τ a) := by
  obtain ⟨-, -, ⟨b, h1, h2⟩, -⟩ := h
  unfold A_MD_label A_TL_labelAt
  rcases ix_cases a (n := (gTL_labels τ).1.length) (by omega) with hn | ⟨k, hk, rfl⟩
  · rw [il_at_out hn, h1]
    by_cases c : a < 0
    · rw [if_pos c]
    · rw [if_neg c, if_pos (hn.resolve_left c)]
  · have g : ¬ (nI k < 0 ∨ 1500 ≤ k) := ng2 (by omega) (by omega)
    have z : (nI k).toNatClampNeg = k := nI_clamp (by omega)
    rw [if_neg (nI_pos (by omega)), h1, if_neg (fun e => by have := (nI_leI (by omega) (by omega)).mp e; omega), z, if_neg g, h2 k hk, il_at hk (by omega)]
theorem t_letter (h : TR τ μ) (a : Int32) : A_MD_letter μ a = some (A_TL_letterAt τ a) := by
  obtain ⟨-, -, -, ⟨b, h1, h2⟩, -⟩ := h
  unfold A_MD_letter A_TL_letterAt A_LL_letterAt
  rcases ix_cases a (n := (gTL_letters τ).1.length) (by omega) with hn | ⟨k, hk, rfl⟩
  · rw [il_at_out hn, h1]
    by_cases c : a < 0
    · rw [if_pos c]
    · rw [if_neg c, if_pos (hn.resolve_left c)]
  · have g : ¬ (nI k < 0 ∨ 120000 ≤ k) := ng2 (by omega) (by omega)
    have z : (nI k).toNatClampNeg = k := nI_clamp (by omega)
    rw [if_neg (nI_pos (by omega)), h1, if_neg (fun e => by have := (nI_leI (by omega) (by omega)).mp e; omega), z, if_neg g, h2 k hk, il_at hk (by omega)]
theorem t_packed (h : TR τ μ) (a : Int32) : A_MD_packed μ a = if a = 0 then (A_TL_amountOfLabels τ) else (if a = 1 then (A_TL_amountOfLetters τ) else (if a = 2 then (A_TL_amountOfSaved τ) else (-1))) := by
  obtain ⟨-, -, ⟨-, h1, -⟩, ⟨-, h2, -⟩, h3⟩ := h
  unfold A_MD_packed
  rw [h1, h2, h3]
  rfl
end RDS
theorem rel_count (j : Nat) (σ : tPP) (μ : tMD) (a : Int32) (hj : j < 512) (h : RelP j σ μ) : A_MD_count μ a = some (A_PP_count σ a) := by
  obtain ⟨tk, md, rs, ks, fk, kd, sz, pl, pt, ⟨h1, h2, h3⟩, ⟨h4, h5, h6, h7⟩, ⟨⟨p1, p2, p3⟩, ⟨p4, p5, p6⟩, p7, p8, p9, p10⟩, -⟩ := h
  have hkd := kd_le h6
  have hrs := h6.1
  have h5c := b_count5 h5 h6 (by omega) (by omega)
  unfold A_MD_count A_PP_count
  have e0 : A_ST_amount (gPP_statements σ) = nI tk.length := lI_length h1.1
  have e1 : A_ST_mandatories (gPP_statements σ) = nI md.length := h1.2.2.1
  have e3 : A_IL_length (gPP_pile σ) = nI pl.length := lI_length p1
  rw [h5c, e0, e1, cr_amount h4, e3, p3, cr_kinds h4 h6, h2.1, h2.2.2.1, h5.1, p4, p6]
  repeat' split
  all_goals rfl
theorem rel_row (j : Nat) (σ : tPP) (μ : tMD) (a : Int32) (hj : j < 512) (h : RelP j σ μ) : A_MD_row μ a = some (A_PP_row σ a) := by
  obtain ⟨tk, md, rs, ks, fk, kd, sz, pl, pt, ⟨h1, h2, h3⟩, ⟨h4, h5, h6, h7⟩, -, -⟩ := h
  exact b_row h4 h5 (by have := h6.1; omega) a
theorem rel_frm (j : Nat) (σ : tPP) (μ : tMD) (a b : Int32) (hj : j < 512) (h : RelP j σ μ) : A_MD_frm μ a b = some (A_PP_frm σ a b) := by
  obtain ⟨tk, md, rs, ks, fk, kd, sz, pl, pt, ⟨h1, h2, h3⟩, ⟨h4, h5, h6, h7⟩, ⟨-, -, p7, p8, -⟩, -⟩ := h
  have := h3.1
  have := h6.1
  exact b_from h4 h5 h2.2.1 h6 (by omega) (by omega) (by omega) a b
theorem rel_same (j : Nat) (σ : tPP) (μ : tMD) (a b : Int32) (hj : j < 512) (h : RelP j σ μ) : A_MD_same μ a b = some (A_PP_same σ a b) := by
  obtain ⟨tk, md, rs, ks, fk, kd, sz, pl, pt, ⟨h1, h2, h3⟩, ⟨h4, h5, h6, h7⟩, -, -⟩ := h
  have := h6.1
  have := kd_le h6
  exact b_same h4 h5 h6 (by omega) (by omega) a b
theorem rel_size (j : Nat) (σ : tPP) (μ : tMD) (a : Int32) (hj : j < 512) (h : RelP j σ μ) : A_MD_size μ a = some (A_PP_size σ a) := by
  obtain ⟨tk, md, rs, ks, fk, kd, sz, pl, pt, ⟨h1, h2, h3⟩, ⟨h4, h5, h6, h7⟩, -, -⟩ := h
  exact b_size h4 h5 (by have := h6.1; omega) a
theorem rel_full (j : Nat) (σ : tPP) (μ : tMD) (a b : Int32) (hj : j < 512) (h : RelP j σ μ) : A_MD_full μ a b = some (A_PP_full σ a b) := by
  obtain ⟨tk, md, rs, ks, fk, kd, sz, pl, pt, ⟨h1, h2, h3⟩, ⟨h4, h5, h6, h7⟩, ⟨-, -, p7, p8, -⟩, -⟩ := h
  have := h6.1
  exact b_full h4 h5 h7 (by omega) (by omega) (fun r hr p hp => ((h6.2.1 r hr).2.2 p hp).1) a b
theorem rel_tr (j : Nat) (σ : tPP) (μ : tMD) (h : RelP j σ μ) : TR (gPP_telling σ) μ := by
  obtain ⟨tk, md, rs, ks, fk, kd, sz, pl, pt, -, -, -, h11, -⟩ := h
  exact h11
theorem rel_pack (j : Nat) (σ : tPP) (μ : tMD) (hj : j < 512) (h : RelP j σ μ) : ∃ μ' : tMD, A_MD_pack μ = some ((A_PP_pack σ).1, μ') ∧ K_PP_pack σ + Uo σ ≤ Uo (A_PP_pack σ).2 ∧ RelP (j + 1) (A_PP_pack σ).2 μ' := by
  have h0 := h
  obtain ⟨tk, md, rs, ks, fk, kd, sz, pl, pt, ⟨h1, h2, h3⟩, ⟨h4, h5, h6, h7⟩, ⟨⟨p1, p2, p3⟩, ⟨p4, p5, p6⟩, p7, p8, p9, p10⟩, ⟨h11, h12, h13, h14⟩⟩ := h
  have hkd := kd_le h6
  have hrs := h6.1
  have htk := h3.1
  have hlen : A_IL_length (gPP_pile σ) = nI pl.length := lI_length p1
  unfold A_MD_pack A_PP_pack K_PP_pack
  rw [hlen, p4]
  by_cases c : pl.length = 1
  · have e1 : nI pl.length = 1 := by rw [c]; rfl
    have g0 : ¬ ((0 : Int32) < 0 ∨ 200 ≤ (0 : Int32).toNatClampNeg) := by decide
    have z0 : (0 : Int32).toNatClampNeg = 0 := rfl
    have ht : pl.getD 0 0 < rs.length := p9 _ (memD (by omega))
    have a1 : A_IL_at (gPP_pile σ) 0 = nI (pl.getD 0 0) := by
      have := lI_at p1 (k := 0) (by omega) (by omega)
      rw [nI_0] at this
      exact this
    have a2 : gMD_pile μ 0 = nI (pl.getD 0 0) := p5 0 (by omega)
    obtain ⟨n, τ', μ', r1, r2, r3, r4, r5, r6, r7, r8⟩ := pack_eq h1 h3 h4 h6 ht (by omega) (by omega) (by omega) (by omega) h13 h14 h2 ⟨h5, h2.2.1⟩
    rw [if_pos e1, if_pos e1, if_pos e1, if_neg g0, z0, a1, a2, r3]
    simp only [bnd]
    have k1 := ku_TL_tell (gPP_telling σ) (gPP_statements σ) (gPP_rows σ) (nI (pl.getD 0 0))
    rw [r1] at k1 ⊢
    refine ⟨μ', by rw [r2], ?_, ?_⟩
    · show K_TL_tell (gPP_telling σ) (gPP_statements σ) (gPP_rows σ) (nI (pl.getD 0 0)) + 0 + 2 * (cST (gPP_statements σ) + cRW (gPP_rows σ) + cTL (gPP_telling σ) + (gPP_pile σ).2) ≤ 2 * (cST (gPP_statements σ) + cRW (gPP_rows σ) + cTL τ' + (gPP_pile σ).2)
      omega
    · obtain ⟨e1, e2, e3, e4, e5, e6, e7, e8, e9, e10, e11, e12, e13, e14⟩ := fx_out r4
      refine ⟨tk, md, rs, ks, fk, kd, sz, pl, pt, ⟨h1, MS_fx h2 r4, WS_up h3⟩, ⟨h4, ?_, WR_up h6, h7⟩, ⟨⟨p1, p2, p3⟩, ?_, p7, by omega, p9, p10⟩, r5, r6, r7, r8⟩
      · rw [e5, e6, e7, e8, e9, e10, e11]; exact h5
      · rw [e12, e13, e14]; exact ⟨p4, p5, p6⟩
  · have e1 : ¬ nI pl.length = 1 := fun e => by
      have : nI pl.length = nI 1 := e
      rw [nI_eq (by omega) (by omega)] at this; omega
    rw [if_neg e1, if_neg e1, if_neg e1]
    exact ⟨μ, rfl, by show 0 + Uo σ ≤ Uo σ; omega, rel_up _ _ _ h0⟩
theorem rel_check (j : Nat) (σ : tPP) (μ : tMD) (hj : j < 512) (h : RelP j σ μ) : A_MD_check μ = (A_PP_check σ).1 ∧ K_PP_check σ + Uo σ ≤ Uo (A_PP_check σ).2 ∧ RelP (j + 1) (A_PP_check σ).2 μ := by
  obtain ⟨tk, md, rs, ks, fk, kd, sz, pl, pt, ⟨h1, h2, h3⟩, ⟨h4, h5, h6, h7⟩, ⟨h8, h9, p7, p8, p9⟩, ⟨h11, h12, h13, h14⟩⟩ := h
  have hkd := kd_le h6
  have hrs := h6.1
  have htk := h3.1
  obtain ⟨τ', r1, r2, r3, r4⟩ := check_eq h1 h4 h6 (by omega) (by omega) (by omega) (by omega) h13 h14 h12
  have k1 : K_TL_makesItsRow (gPP_telling σ) (gPP_statements σ) (gPP_rows σ) + 2 * cTL (gPP_telling σ) ≤ 2 * cTL τ' := by
    have := ku_TL_mk (gPP_telling σ) (gPP_statements σ) (gPP_rows σ)
    rw [r1] at this
    exact this
  have hpp : A_PP_check σ = (1, uPP_telling σ τ') := by
    unfold A_PP_check
    rw [r1]
    rfl
  have hkk : K_PP_check σ = K_TL_makesItsRow (gPP_telling σ) (gPP_statements σ) (gPP_rows σ) + 0 := by
    unfold K_PP_check
    rw [r1]
    rfl
  rw [hpp, hkk]
  obtain ⟨v1, v2, v3, v4, v5, v6, v7, v8, v9, v10⟩ := fm_out r2
  refine ⟨rfl, ?_, ?_⟩
  · show K_TL_makesItsRow (gPP_telling σ) (gPP_statements σ) (gPP_rows σ) + 0 + 2 * (cST (gPP_statements σ) + cRW (gPP_rows σ) + cTL (gPP_telling σ) + (gPP_pile σ).2) ≤ 2 * (cST (gPP_statements σ) + cRW (gPP_rows σ) + cTL τ' + (gPP_pile σ).2)
    omega
  · refine ⟨tk, md, rs, ks, fk, kd, sz, pl, pt, ⟨h1, h2, WS_up h3⟩, ⟨h4, h5, WR_up h6, h7⟩, ⟨h8, h9, p7, by omega, p9⟩, ?_, ?_, r3, r4⟩
    · show TR τ' μ
      unfold TR at *
      rw [v1, v2, v3, v4, v6]
      exact h11
    · show CkR τ' rs ks
      unfold CkR NC at *
      rw [v1, v2, v5, v6]
      exact h12
theorem law_holds : LawOK RelP Uo :=
  ⟨rel_0, rel_U, rel_up, rel_statement, rel_mandatory, rel_make, rel_again, rel_clear, rel_count, rel_row, rel_frm, rel_same, rel_pack,
    fun j σ μ a _ h => t_step (rel_tr j σ μ h) a, fun j σ μ a _ h => t_saves (rel_tr j σ μ h) a, fun j σ μ a _ h => t_label (rel_tr j σ μ h) a, fun j σ μ a _ h => t_packed (rel_tr j σ μ h) a, fun j σ μ a _ h => t_letter (rel_tr j σ μ h) a, rel_size, rel_full, rel_check⟩
