/-! LEVEL B: the relation -/
def RlR (j : Nat) (σ : tPP) (μ : tMD) (tk md : List Nat) (rs : tRS) (ks fk : List Nat) (kd : tRS) (sz pl : List Nat) (pt : Nat) : Prop :=
  (CS (gPP_statements σ) tk md ∧ MS (gMD_statements μ) (gMD_takes μ) (gMD_mandatories μ) (gMD_mandatoryCount μ) tk md ∧ WS j tk md) ∧
  (CR (gPP_rows σ) rs ks fk kd sz ∧ MR (gMD_rows μ) (gMD_makers μ) (gMD_fromAt μ) (gMD_firstSame μ) (gMD_sizes μ) (gMD_froms μ) (gMD_fromCount μ) rs ks fk sz ∧ WR j tk rs ks fk kd sz ∧ WZ rs sz) ∧
  ((lI (gPP_pile σ) pl ∧ cB 2048 (gPP_pile σ) ∧ gPP_puts σ = nI pt) ∧ (gMD_piled μ = nI pl.length ∧ aI (gMD_pile μ) pl ∧ gMD_puts μ = nI pt) ∧ (paL rs).length + pl.length = pt ∧ pt ≤ j ∧ (∀ p ∈ pl, p < rs.length) ∧ pl.length ≤ 200) ∧
  (TR (gPP_telling σ) μ ∧ CkR (gPP_telling σ) rs ks ∧ CAP (gPP_telling σ) ∧ SML (gPP_telling σ))
def RelP (j : Nat) (σ : tPP) (μ : tMD) : Prop := ∃ (tk md : List Nat) (rs : tRS) (ks fk : List Nat) (kd : tRS) (sz pl : List Nat) (pt : Nat), RlR j σ μ tk md rs ks fk kd sz pl pt
def Uo (σ : tPP) : Nat := 2 * cPP σ
theorem rel_0 : RelP 0 iPP iMD := by
  refine ⟨[], [], [], [], [], [], [], [], 0, ⟨⟨rfl, ⟨rfl, fun i hi => absurd hi (Nat.not_lt_zero _)⟩, rfl, by unfold cB; decide, by unfold cB; decide⟩, ⟨rfl, aI_nil _, rfl, aI_nil _⟩, ⟨Nat.le_refl _, fun t h => by simp at h, fun t h => by simp at h, by simp⟩⟩, ⟨⟨⟨rfl, rfl, rfl, rfl, rfl, rfl⟩, ⟨rfl, fun a h => absurd h (Nat.not_lt_zero _), fun b => rfl⟩, ⟨by simp, by decide, by decide, fun r h => absurd h (Nat.not_lt_zero _)⟩, ?_⟩, ?_, ?_, ?_⟩, ?_, ?_⟩
  · unfold cB
    decide
  · exact ⟨rfl, aI_nil _, fun r h => absurd h (Nat.not_lt_zero _), fun r h => absurd h (Nat.not_lt_zero _), fun r h => absurd h (Nat.not_lt_zero _), aI_nil _, rfl⟩
  · exact ⟨Nat.le_refl _, fun r h => absurd h (Nat.not_lt_zero _), rfl, rfl, rfl, fun r h => absurd h (Nat.not_lt_zero _), fun a b h => absurd h (Nat.not_lt_zero _), fun r h => absurd h (Nat.not_lt_zero _), fun a b _ h => absurd h (Nat.not_lt_zero _)⟩
  · exact ⟨rfl, fun r h => absurd h (Nat.not_lt_zero _)⟩
  · exact ⟨⟨rfl, by unfold cB; decide, rfl⟩, ⟨rfl, aI_nil _, rfl⟩, rfl, Nat.le_refl _, fun p h => by simp at h, by simp⟩
  · refine ⟨⟨⟨by decide, rfl, fun i h => absurd h (Nat.not_lt_zero _)⟩, ⟨rfl, fun i h => absurd h (Nat.not_lt_zero _)⟩, ⟨by decide, rfl, fun i h => absurd h (Nat.not_lt_zero _)⟩, ⟨by decide, rfl, fun i h => absurd h (Nat.not_lt_zero _)⟩, rfl⟩, Or.inl rfl, ?_, ?_⟩
    · unfold CAP cB
      decide
    · unfold SML
      decide
theorem rel_U (j : Nat) (σ : tPP) (μ : tMD) (h : RelP j σ μ) : Uo σ ≤ 300000 := by
  obtain ⟨tk, md, rs, ks, fk, kd, sz, pl, pt, ⟨⟨-, -, -, c1, c2⟩, -, -⟩, ⟨⟨-, -, ⟨-, -, d0, -⟩, d1, d2, d3, d4, d5, d6, d7⟩, -⟩, ⟨⟨-, e1, -⟩, -⟩, -, -, f, -⟩ := h
  obtain ⟨f1, f2, f3, f4, f5, f6, f7, f8, f9, f10⟩ := f
  unfold cB at *
  unfold Uo cPP cST cRW cTL
  omega
theorem WS_up {j : Nat} {tk md : List Nat} (h : WS j tk md) : WS (j + 1) tk md := ⟨by have := h.1; omega, h.2⟩
theorem WR_up {j : Nat} {tk : List Nat} {rs : tRS} {ks fk : List Nat} {kd : tRS} {sz : List Nat} (h : WR j tk rs ks fk kd sz) : WR (j + 1) tk rs ks fk kd sz := ⟨by have := h.1; omega, h.2⟩
theorem RL_up {j : Nat} {σ : tPP} {μ : tMD} {tk md : List Nat} {rs : tRS} {ks fk : List Nat} {kd : tRS} {sz pl : List Nat} {pt : Nat} (h : RlR j σ μ tk md rs ks fk kd sz pl pt) : RlR (j + 1) σ μ tk md rs ks fk kd sz pl pt := by
  obtain ⟨⟨h1, h2, h3⟩, ⟨h4, h5, h6, h7⟩, ⟨h8, h9, h10, h11, h12⟩, h13⟩ := h
  exact ⟨⟨h1, h2, WS_up h3⟩, ⟨h4, h5, WR_up h6, h7⟩, ⟨h8, h9, h10, by omega, h12⟩, h13⟩
theorem rel_up (j : Nat) (σ : tPP) (μ : tMD) (h : RelP j σ μ) : RelP (j + 1) σ μ := by
  obtain ⟨tk, md, rs, ks, fk, kd, sz, pl, pt, h⟩ := h
  exact ⟨tk, md, rs, ks, fk, kd, sz, pl, pt, RL_up h⟩
/-- no more kinds than rows -/
theorem kd_le {j : Nat} {tk : List Nat} {rs : tRS} {ks fk : List Nat} {kd : tRS} {sz : List Nat} (h : WR j tk rs ks fk kd sz) : kd.length ≤ rs.length := by
  have h8 := h.2.2.2.2.2.2.2.1
  have h9 := h.2.2.2.2.2.2.2.2
  have key : ∀ a, a < kd.length → a ≤ fk.getD a 0 := by
    intro a
    induction a with
    | zero => intro _; omega
    | succ a ih =>
      intro ha
      have := ih (by omega)
      have := h9 a (a + 1) (by omega) ha
      omega
  by_cases c : kd.length = 0
  · omega
  · have := key (kd.length - 1) (by omega)
    have := (h8 (kd.length - 1) (by omega)).1
    omega
/-- what both show of the telling, untouched -/
def ft (μ : tMD) : Int32 × (Nat → Int32) × (Nat → Int32) × (Nat → Int32) × Int32 × (Nat → Int32) × Int32 × Int32 := (gMD_steps μ, gMD_toldStep μ, gMD_saving μ, gMD_labels μ, gMD_labelCount μ, gMD_letters μ, gMD_letterCount μ, gMD_savedCount μ)
theorem TR_ft {τ : tTL} {μ μ' : tMD} (h : TR τ μ) (e : ft μ' = ft μ) : TR τ μ' := by
  unfold ft at e
  simp only [Prod.mk.injEq] at e
  obtain ⟨e1, e2, e3, e4, e5, e6, e7, e8⟩ := e
  unfold TR ltR at *
  rw [e1, e2, e3, e4, e5, e6, e7, e8]
  exact h
theorem WR_tk {j : Nat} {tk : List Nat} {rs : tRS} {ks fk : List Nat} {kd : tRS} {sz : List Nat} (h : WR j tk rs ks fk kd sz) (m : Nat) : WR (j + 1) (tk ++ [m]) rs ks fk kd sz := by
  obtain ⟨h1, h2, h3⟩ := h
  refine ⟨by omega, fun r hr => ?_, h3⟩
  obtain ⟨a, b, c⟩ := h2 r hr
  exact ⟨by simp only [List.length_append, List.length_cons, List.length_nil]; omega, by rw [getD_app _ a]; exact b, c⟩
theorem i60 {a : Int32} (h1 : ¬ a < 0) (h2 : ¬ 60 < a) : ∃ m : Nat, m ≤ 60 ∧ a = nI m := by
  obtain ⟨m, hm, rfl⟩ := nI_of h1
  refine ⟨m, ?_, rfl⟩
  have : ¬ nI 60 < nI m := h2
  rw [nI_ltI (by omega) hm] at this
  omega
theorem rel_statement (j : Nat) (σ : tPP) (μ : tMD) (a : Int32) (hj : j < 512) (h : RelP j σ μ) : ∃ μ' : tMD, A_MD_statement μ a = some ((A_PP_statement σ a).1, μ') ∧ K_PP_statement σ a + Uo σ ≤ Uo (A_PP_statement σ a).2 ∧ RelP (j + 1) (A_PP_statement σ a).2 μ' := by
  have h0 := h
  obtain ⟨tk, md, rs, ks, fk, kd, sz, pl, pt, ⟨h1, h2, h3⟩, ⟨h4, h5, h6, h7⟩, ⟨h8, h9, h10⟩, ⟨h11, h12⟩⟩ := h
  unfold A_MD_statement A_PP_statement K_PP_statement
  by_cases c1 : a < 0
  · simp only [if_pos c1]
    exact ⟨μ, rfl, by omega, rel_up _ _ _ h0⟩
  · by_cases c2 : 60 < a
    · simp only [if_neg c1, if_pos c2]
      exact ⟨μ, rfl, by omega, rel_up _ _ _ h0⟩
    · obtain ⟨m, hm, rfl⟩ := i60 c1 c2
      obtain ⟨s1, s2, s3, s4⟩ := b_statement hj h1 h2 h3 hm
      have htk := h3.1
      have e1 : ¬ nI tk.length = 1500 := fun e => by
        have : nI tk.length = nI 1500 := e
        rw [nI_eq (by omega) (by omega)] at this; omega
      have e2 : nI tk.length < 1500 := by
        show nI tk.length < nI 1500
        rw [nI_ltI (by omega) (by omega)]; omega
      have g : ¬ (nI tk.length < 0 ∨ 1500 ≤ tk.length) := ng2 (by omega) (by omega)
      have z : (nI tk.length).toNatClampNeg = tk.length := nI_clamp (by omega)
      simp only [if_neg c1, if_neg c2, h2.1, if_neg e1, z, if_neg g, s3, if_pos e2, bnd, s1, gu_MD_statements_takes, gu_MD_statements_statements, nI_1, nI_sub1]
      refine ⟨_, rfl, ?_, ?_⟩
      · have := ku_ST_add (gPP_statements σ) (nI m)
        show K_ST_add (gPP_statements σ) (nI m) + 0 + 2 * (cST (gPP_statements σ) + cRW (gPP_rows σ) + cTL (gPP_telling σ) + (gPP_pile σ).2) ≤ 2 * (cST (A_ST_add (gPP_statements σ) (nI m)).2 + cRW (gPP_rows σ) + cTL (gPP_telling σ) + (gPP_pile σ).2)
        omega
      · refine ⟨tk ++ [m], md, rs, ks, fk, kd, sz, pl, pt, ⟨s2, ?_, s4⟩, ⟨h4, h5, WR_tk h6 m, h7⟩, ⟨h8, h9, h10.1, by have := h10.2.1; omega, h10.2.2⟩, TR_ft h11 rfl, h12⟩
        simp only [gu_MD_statements_statements, gu_MD_statements_takes, gu_MD_takes_statements, gu_MD_takes_takes, gu_MD_mandatories_statements, gu_MD_mandatories_takes, gu_MD_mandatoryCount_statements, gu_MD_mandatoryCount_takes]
        exact ⟨by simp, aI_push h2.2.1 m, h2.2.2⟩
theorem rel_mandatory (j : Nat) (σ : tPP) (μ : tMD) (a : Int32) (hj : j < 512) (h : RelP j σ μ) : ∃ μ' : tMD, A_MD_mandatory μ a = some ((A_PP_mandatory σ a).1, μ') ∧ Uo σ ≤ Uo (A_PP_mandatory σ a).2 ∧ RelP (j + 1) (A_PP_mandatory σ a).2 μ' := by
  have h0 := h
  obtain ⟨tk, md, rs, ks, fk, kd, sz, pl, pt, ⟨h1, h2, h3⟩, ⟨h4, h5, h6, h7⟩, ⟨h8, h9, h10⟩, ⟨h11, h12⟩⟩ := h
  have htk := h3.1
  have hmd := h3.2.2.2
  unfold A_MD_mandatory A_PP_mandatory
  rcases ix_cases a (n := tk.length) (by omega) with hn | ⟨i, hi, rfl⟩
  · rw [md_isSno h2.1 hn, st_hasno h1 hn, if_pos rfl, if_pos rfl]
    exact ⟨μ, rfl, Nat.le_refl _, rel_up _ _ _ h0⟩
  · have g : ¬ (nI i < 0 ∨ 1500 ≤ i) := ng2 (by omega) (by omega)
    have z : (nI i).toNatClampNeg = i := nI_clamp (by omega)
    have hle := tk_le h3.2.1 i
    rw [md_isS h2.1 hi (by omega), st_has h1 hi (by omega), if_neg n10, if_neg n10, z, if_neg g, h2.2.1 i hi, st_taking h1 hi (by omega), m_mandatoryOf h2 hmd (by omega) (fun a ha => by have := (h3.2.2.1 a ha).1; omega), st_isM h1 hi (by omega)]
    by_cases c1 : tk.getD i 0 = 0
    · rw [c1, nI_0, if_neg (by decide), if_pos rfl]
      simp only [Option.bind_some]
      by_cases c2 : fd i md 0 = -1
      · have hmm : A_ST_mandatories (gPP_statements σ) = nI md.length := h1.2.2.1
        rw [c2, if_neg m1_n0, h2.2.2.1, if_pos rfl, if_pos rfl, hmm]
        by_cases c3 : md.length = 60
        · rw [c3, if_pos (by rfl), if_neg (by decide)]
          exact ⟨μ, rfl, Nat.le_refl _, rel_up _ _ _ h0⟩
        · have e1 : ¬ nI md.length = 60 := fun e => by
            have : nI md.length = nI 60 := e
            rw [nI_eq (by omega) (by omega)] at this; omega
          have e2 : nI md.length < 60 := by
            show nI md.length < nI 60
            rw [nI_ltI (by omega) (by omega)]; omega
          have g2 : ¬ (nI md.length < 0 ∨ 60 ≤ md.length) := ng2 (by omega) (by omega)
          have z2 : (nI md.length).toNatClampNeg = md.length := nI_clamp (by omega)
          obtain ⟨s1, s2⟩ := CS_addM h1 hi (by omega) (by omega) c2
          rw [if_neg e1, if_pos e2, z2, if_neg g2]
          simp only [bnd, gu_MD_mandatoryCount_mandatories, gu_MD_mandatoryCount_mandatoryCount, h2.2.2.1, nI_1, s2]
          refine ⟨_, rfl, ?_, ?_⟩
          · have := ku_ST_addM (gPP_statements σ) (nI i)
            show 2 * (cST (gPP_statements σ) + cRW (gPP_rows σ) + cTL (gPP_telling σ) + (gPP_pile σ).2) ≤ 2 * (cST (A_ST_addMandatory (gPP_statements σ) (nI i)).2 + cRW (gPP_rows σ) + cTL (gPP_telling σ) + (gPP_pile σ).2)
            omega
          · refine ⟨tk, md ++ [i], rs, ks, fk, kd, sz, pl, pt, ⟨s1, ?_, ?_⟩, ⟨h4, h5, WR_up h6, h7⟩, ⟨h8, h9, h10.1, by have := h10.2.1; omega, h10.2.2⟩, TR_ft h11 rfl, h12⟩
            · simp only [gu_MD_statements_mandatoryCount, gu_MD_statements_mandatories, gu_MD_takes_mandatoryCount, gu_MD_takes_mandatories, gu_MD_mandatories_mandatoryCount, gu_MD_mandatories_mandatories, gu_MD_mandatoryCount_mandatoryCount, gu_MD_mandatoryCount_mandatories]
              exact ⟨h2.1, h2.2.1, by simp, aI_push h2.2.2.2 i⟩
            · refine ⟨by omega, h3.2.1, fun x hx => ?_, by simp only [List.length_append, List.length_cons, List.length_nil]; omega⟩
              rcases List.mem_append.mp hx with h | h
              · exact h3.2.2.1 x h
              · have : x = i := by simpa using h
                subst this
                exact ⟨hi, c1⟩
      · obtain ⟨k, k1, k2, -⟩ := fd_get c2
        rw [if_neg c2, if_neg n10, k2, if_pos (nI_pos' (by omega))]
        exact ⟨μ, rfl, Nat.le_refl _, rel_up _ _ _ h0⟩
    · have e1 : (0 : Int32) < nI (tk.getD i 0) := by
        show nI 0 < _
        rw [nI_ltI (by omega) (by omega)]; omega
      rw [if_pos e1, if_neg (fun e => c1 ((nI_is0 (by omega)).mp e))]
      exact ⟨μ, rfl, Nat.le_refl _, rel_up _ _ _ h0⟩
