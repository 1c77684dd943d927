/-! LEVEL B: the letters of all steps -/
theorem lb_has {rs : tRS} {md : List Nat} {E : List tE} {i r κ : Nat} (he : E.getD i eD = (false, r, κ)) (hf : fd (rSt rs r) md 0 = -1) : ∀ k, i < k → k ≤ E.length → E.length ≤ 2000 → fd (rSt rs r) (lb rs md E k) 0 ≠ -1 := by
  intro k
  induction k with
  | zero => intro h; omega
  | succ k ih =>
    intro h1 h2 h3
    have hlen := lb_len (rs := rs) (md := md) (E := E) k
    by_cases c : i = k
    · subst c
      by_cases h4 : fd (rSt rs r) (lb rs md E i) 0 = -1
      · rw [lb_new he hf h4, fd_app (by omega), if_pos h4, if_pos rfl]
        exact nI_m1 (by omega)
      · rw [lb_old he h4]; exact h4
    · have ih := ih (by omega) (by omega) h3
      obtain ⟨b, x, κ', e1, e2⟩ := e_get (E := E) (k := k) (by omega)
      cases b
      · by_cases h5 : fd (rSt rs x) md 0 = -1
        · by_cases h6 : fd (rSt rs x) (lb rs md E k) 0 = -1
          · rw [lb_new e2 h5 h6, fd_app (by omega), if_neg ih]; exact ih
          · rw [lb_old e2 h6]; exact ih
        · rw [lb_man e2 h5]; exact ih
      · rw [lb_ref e2]; exact ih
def sNm (rs : tRS) (md L : List Nat) (E : List tE) (e : tE) : Int32 := if e.1 then nI (md.length + L.length + 1 + nb E e.2.1) else if fd (rSt rs e.2.1) md 0 = -1 then fd (rSt rs e.2.1) L (md.length + 1) else fd (rSt rs e.2.1) md 1
def ltX (rs : tRS) (md L : List Nat) (E : List tE) : Nat → List Int32
  | 0 => []
  | k + 1 => ltX rs md L E k ++ pLt (sNm rs md L E (E.getD k eD)) ++ (if svF E k then [90] else [])
section LTX
variable {rs : tRS} {ks md : List Nat} {E : List tE}
theorem sN_ok (hG : GE rs ks E) (hE : E.length ≤ 610) (hmd : md.length ≤ 60) {k : Nat} (hk : k < E.length) : ∃ n, 1 ≤ n ∧ n ≤ 2000 ∧ sNm rs md (lb rs md E E.length) E (E.getD k eD) = nI n := by
  have hlen := lb_len (rs := rs) (md := md) (E := E) E.length
  obtain ⟨b, x, κ, e1, e2⟩ := e_get hk
  rw [e2]
  cases b
  · by_cases hf : fd (rSt rs x) md 0 = -1
    · obtain ⟨j, h1, h2, -⟩ := fd_get (lb_has e2 hf E.length hk (Nat.le_refl _) (by omega))
      refine ⟨md.length + 1 + j, by omega, by omega, ?_⟩
      show (if fd (rSt rs x) md 0 = -1 then fd (rSt rs x) (lb rs md E E.length) (md.length + 1) else fd (rSt rs x) md 1) = _
      rw [if_pos hf, h2]
    · obtain ⟨j, h1, h2, -⟩ := fd_get hf
      refine ⟨1 + j, by omega, by omega, ?_⟩
      show (if fd (rSt rs x) md 0 = -1 then fd (rSt rs x) (lb rs md E E.length) (md.length + 1) else fd (rSt rs x) md 1) = _
      rw [if_neg hf, h2]
  · have := (hG.2 k x κ e1).1
    have := nb_le E x
    exact ⟨md.length + (lb rs md E E.length).length + 1 + nb E x, by omega, by omega, rfl⟩
theorem ltX_len (hG : GE rs ks E) (hE : E.length ≤ 610) (hmd : md.length ≤ 60) : ∀ k, k ≤ E.length → (ltX rs md (lb rs md E E.length) E k).length ≤ 5 * k
  | 0, _ => by simp [ltX]
  | k + 1, h => by
    have ih := ltX_len hG hE hmd k (by omega)
    obtain ⟨n, n1, n2, n3⟩ := sN_ok (md := md) hG hE hmd (k := k) (by omega)
    have hp := pLt_len n1 n2
    rw [ltX, n3]
    simp only [List.length_append]
    split
    · simp only [List.length_cons, List.length_nil]; omega
    · simp only [List.length_nil]; omega
end LTX
/-! the class -/
abbrev tFV : Type := tIL × tIL × tIL × Int32 × Int32 × tIL × tIL × tIL × tIL × tIL × tIL
def fv (τ : tTL) : tFV := (gTL_steps τ, gTL_savedAs τ, gTL_labels τ, gTL_rowTold τ, gTL_savedRows τ, gTL_numbers τ, gTL_remade τ, gTL_savedKinds τ, gTL_openRows τ, gTL_openParts τ, gTL_toldAt τ)
theorem add_m2 (B x : Int32) : (B + (-2)) - ((-2) - x) = B + x := by
  rw [Int32.sub_eq_add_neg, Int32.neg_sub, Int32.add_assoc, Int32.add_comm (-2) (x - -2), Int32.sub_add_cancel]
theorem add_m2' (B x : Int32) : B + ((-2) - ((-2) - x)) = B + x := by rw [m2_sub]
/-- what the class reads while it lays letters -/
def ClR (τ : tTL) (tk md : List Nat) (rs : tRS) (E : List tE) : Prop :=
  ((gTL_steps τ).1.length = E.length ∧ ∀ i, i < E.length → (gTL_steps τ).1.getD i 0 = sF rs E (E.getD i eD)) ∧
  ((gTL_savedAs τ).1.length = E.length ∧ ∀ i, i < E.length → (gTL_savedAs τ).1.getD i 0 = if svF E i then nI (nb E i) else -1) ∧
  ((gTL_numbers τ).1.length = tk.length ∧ ∀ i r κ : Nat, i < E.length → E.getD i eD = (false, r, κ) → (gTL_numbers τ).1.getD (rSt rs r) 0 = sNm rs md (lb rs md E E.length) E (false, r, κ))
section LTC
variable {tk md : List Nat} {rs : tRS} {ks : List Nat} {E : List tE} {ss : tST} {ρ : tRW}
theorem ltc_L (hG : GE rs ks E) (b1 : tk.length ≤ 512) (hmd : md.length ≤ 60) (hE : E.length ≤ 610) (hN : ∀ k r κ : Nat, k < E.length → E.getD k eD = (false, r, κ) → rSt rs r < tk.length) : ∀ (n k : Nat) (τ : tTL), k ≤ E.length → E.length < k + n → ClR τ tk md rs E → (gTL_letters τ).1 = ltX rs md (lb rs md E E.length) E k → cB 8192 (gTL_letters τ) → ∃ τ' : tTL, A_TL_tellLetters_L20 ss ρ (nI (md.length + (lb rs md E E.length).length + 1)) n (nI k) τ = τ' ∧ fv τ' = fv τ ∧ (gTL_letters τ').1 = ltX rs md (lb rs md E E.length) E E.length ∧ cB 8192 (gTL_letters τ') := by
  intro n
  induction n with
  | zero => intro k τ h1 h2; omega
  | succ n ih =>
    intro k τ h1 h2 hC hX hc
    have hC0 := hC
    obtain ⟨⟨n1, n2⟩, ⟨n3, n4⟩, n5, n6⟩ := hC
    have hst' : A_IL_length (gTL_steps τ) = nI E.length := by unfold A_IL_length; rw [n1]
    rw [A_TL_tellLetters_L20, hst']
    by_cases c : E.length ≤ k
    · rw [if_pos ((nI_leI (by omega) (by omega)).mpr c)]
      have : k = E.length := by omega
      subst this
      exact ⟨τ, rfl, rfl, hX, hc⟩
    · have hk : k < E.length := by omega
      rw [if_neg (fun h => c ((nI_leI (by omega) (by omega)).mp h))]
      have s1 : A_IL_at (gTL_steps τ) (nI k) = sF rs E (E.getD k eD) := by rw [il_at (by omega) (by omega), n2 k hk]
      have s2 : ∀ T : tLL, A_TL_isSavedAt (uTL_letters τ T) (nI k) = if svF E k then 1 else 0 := by
        intro T
        show (if (A_IL_at (gTL_savedAs τ) (nI k)) = (-1) then (0 : Int32) else 1) = _
        rw [il_at (by omega) (by omega), n4 k hk]
        have := nb_le E k
        by_cases e : svF E k = true
        · rw [e, if_pos rfl, if_pos rfl, if_neg (nI_m1 (by omega))]
        · simp [e]
      obtain ⟨m, m1, m2, m3⟩ := sN_ok (md := md) hG hE hmd hk
      have hlx := ltX_len (md := md) hG hE hmd k h1
      obtain ⟨a1, a2⟩ := an_eq (x := gTL_letters τ) m1 m2 (by rw [hX]; omega) hc
      have fin : ∃ τ' : tTL, (if A_TL_isSavedAt (uTL_letters τ (A_LL_addNumber (gTL_letters τ) (nI m))) (nI k) = 0 then A_TL_tellLetters_L20 ss ρ (nI (md.length + (lb rs md E E.length).length + 1)) n (nI (k + 1)) (uTL_letters τ (A_LL_addNumber (gTL_letters τ) (nI m))) else A_TL_tellLetters_L20 ss ρ (nI (md.length + (lb rs md E E.length).length + 1)) n (nI (k + 1)) (uTL_letters (uTL_letters τ (A_LL_addNumber (gTL_letters τ) (nI m))) (A_LL_addMark (A_LL_addNumber (gTL_letters τ) (nI m))))) = τ' ∧ fv τ' = fv τ ∧ (gTL_letters τ').1 = ltX rs md (lb rs md E E.length) E E.length ∧ cB 8192 (gTL_letters τ') := by
        have hp := pLt_len m1 m2
        have s3 := s2 (A_LL_addNumber (gTL_letters τ) (nI m))
        by_cases e : svF E k = true
        · rw [e, if_pos rfl] at s3
          rw [s3, if_neg n10]
          obtain ⟨τ', r1, r2, r3⟩ := ih (k + 1) (uTL_letters (uTL_letters τ (A_LL_addNumber (gTL_letters τ) (nI m))) (A_LL_addMark (A_LL_addNumber (gTL_letters τ) (nI m)))) (by omega) (by omega) hC0 (by
            show (A_IL_add (A_LL_addNumber (gTL_letters τ) (nI m)) 90).1 = _
            rw [add_eq, a1, hX, ltX, m3, e, if_pos rfl]) (by
            show cB 8192 (A_IL_add (A_LL_addNumber (gTL_letters τ) (nI m)) 90)
            refine cB_add a2 ?_ _
            rw [a1, hX]; simp only [List.length_append]; omega)
          exact ⟨τ', r1, by rw [r2]; rfl, r3⟩
        · have e' : svF E k = false := by simpa using e
          rw [e', if_neg (by simp)] at s3
          rw [if_pos s3]
          obtain ⟨τ', r1, r2, r3⟩ := ih (k + 1) (uTL_letters τ (A_LL_addNumber (gTL_letters τ) (nI m))) (by omega) (by omega) hC0 (by
            show (A_LL_addNumber (gTL_letters τ) (nI m)).1 = _
            rw [a1, hX, ltX, m3, e', if_neg (by simp), List.append_nil]) a2
          exact ⟨τ', r1, by rw [r2]; rfl, r3⟩
      rw [s1, nI_1]
      obtain ⟨b, x, κ, e1, e2⟩ := e_get hk
      rw [e2] at m3 ⊢
      cases b
      · have hs := hN k x κ hk e2
        have ht : sF rs E (false, x, κ) = nI (rSt rs x) := rfl
        rw [ht, if_pos (m2_lt (by omega)), il_at (by omega) (by omega), n6 k x κ hk e2, m3]
        exact fin
      · have hx := (hG.2 k x κ e1).1
        have := nb_le E x
        have ht : sF rs E (true, x, κ) = (-2) - nI (nb E x) := rfl
        have hm : nI (md.length + (lb rs md E E.length).length + 1) + nI (nb E x) = nI m := by rw [nI_add]; exact m3
        rw [ht, if_neg (m2_nlt (by omega)), add_m2, hm]
        exact fin
theorem ltc_eq (hS : gST_mandatories ss = nI md.length) (hG : GE rs ks E) (b1 : tk.length ≤ 512) (hmd : md.length ≤ 60) (hE : E.length ≤ 610) (hN : ∀ k r κ : Nat, k < E.length → E.getD k eD = (false, r, κ) → rSt rs r < tk.length) {τ : tTL} (hC : ClR τ tk md rs E) (hL : lI (gTL_labels τ) (lb rs md E E.length)) (hX : (gTL_letters τ).1 = []) (hc : cB 8192 (gTL_letters τ)) : ∃ τ' : tTL, A_TL_tellLetters τ ss ρ = τ' ∧ fv τ' = fv τ ∧ (gTL_letters τ').1 = ltX rs md (lb rs md E E.length) E E.length ∧ cB 8192 (gTL_letters τ') := by
  unfold A_TL_tellLetters
  have e : A_ST_mandatories ss + A_IL_length (gTL_labels τ) + 1 = nI (md.length + (lb rs md E E.length).length + 1) := by
    show gST_mandatories ss + _ + 1 = _
    rw [hS, lI_length hL, nI_add, nI_1]
  rw [e]
  refine ltc_L hG b1 hmd hE hN _ 0 τ (Nat.zero_le _) ?_ hC hX hc
  have : M_TL_tellLetters_L20 ss ρ (nI (md.length + (lb rs md E E.length).length + 1)) 0 τ = E.length := by
    show ((nI (gTL_steps τ).1.length).toInt - (0 : Int32).toInt).toNat = _
    rw [hC.1.1, nI_toInt (by omega), show (0 : Int32).toInt = 0 from rfl]
    omega
  rw [this]; omega
end LTC
/-! the reference -/
theorem fg_out {a b : tMD} (h : fg a = fg b) : flM a = flM b ∧ gMD_labels a = gMD_labels b ∧ gMD_labelCount a = gMD_labelCount b := by
  unfold fg at h
  simp only [Prod.mk.injEq] at h
  exact h
section LTM
variable {j : Nat} {tk md : List Nat} {rs : tRS} {ks : List Nat} {E : List tE} {μ : tMD}
theorem ltm_fin {n k m : Nat} (hk : k < 20000) {τ : tMD} {X Y : List Int32} (hX : ltR τ X) (hl : X.length ≤ 50000) (m1 : 1 ≤ m) (m2 : m ≤ 2000) {s : Int32} (hs : gMD_saving τ k = s) (hY : Y = X ++ pLt (nI m) ++ (if s = 0 then [] else [90])) : ∃ τ' : tMD, ((A_MD_layNumber τ (nI m)).bind (fun T => if nI k < 0 ∨ 26000 ≤ k then none else (if gMD_saving T k = 0 then A_MD_layLetters_L7 n (nI (k + 1)) T else ((A_MD_putLetter T 90 0).bind (fun T' => A_MD_layLetters_L7 n (nI (k + 1)) T'))))) = A_MD_layLetters_L7 n (nI (k + 1)) τ' ∧ fg τ' = fg τ ∧ ltR τ' Y := by
  obtain ⟨μ1, r1, r2, r3⟩ := ln_eq hX (by omega) m1 m2
  have g : ¬ (nI k < 0 ∨ 26000 ≤ k) := ng2 (by omega) (by omega)
  have e := (flM_out (fg_out r2).1).2.2.2.1
  rw [r1]
  simp only [Option.bind_some]
  rw [if_neg g, e, hs]
  have hp := pLt_len m1 m2
  by_cases c : s = 0
  · rw [if_pos c] at hY ⊢
    exact ⟨μ1, rfl, r2, by rw [hY, List.append_nil]; exact r3⟩
  · rw [if_neg c] at hY ⊢
    obtain ⟨μ2, s1, s2, s3⟩ := pl_eq r3 (by simp only [List.length_append]; omega) 90 0
    rw [s1]
    exact ⟨μ2, rfl, by rw [s2, r2], by rw [hY]; exact s3⟩
theorem ltm_L (hM : MS (gMD_statements μ) (gMD_takes μ) (gMD_mandatories μ) (gMD_mandatoryCount μ) tk md) (hW : WS j tk md) (hG : GE rs ks E) (b1 : tk.length ≤ 512) (hE : E.length ≤ 610) (hN : ∀ k r κ : Nat, k < E.length → E.getD k eD = (false, r, κ) → rSt rs r < tk.length) (h1 : gMD_steps μ = nI E.length) (h2 : ∀ i, i < E.length → gMD_toldStep μ i = sF rs E (E.getD i eD)) (h3 : ∀ i, i < E.length → gMD_saving μ i = if svF E i then 1 else 0) (h4 : gMD_labelCount μ = nI (lb rs md E E.length).length) (h5 : aI (gMD_labels μ) (lb rs md E E.length)) : ∀ (n k : Nat) (τ : tMD), k ≤ E.length → E.length < k + n → fg τ = fg μ → ltR τ (ltX rs md (lb rs md E E.length) E k) → ∃ τ' : tMD, A_MD_layLetters_L7 n (nI k) τ = some τ' ∧ fg τ' = fg μ ∧ ltR τ' (ltX rs md (lb rs md E E.length) E E.length) := by
  intro n
  induction n with
  | zero => intro k τ h1 h2; omega
  | succ n ih =>
    intro k τ hk1 hk2 hf hX
    obtain ⟨f0, f6, f7⟩ := fg_out hf
    obtain ⟨f1, f2, f3, f4, f5⟩ := flM_out f0
    have hmd := hW.2.2.2
    have hlx := ltX_len (md := md) hG hE hmd k hk1
    have hlen := lb_len (rs := rs) (md := md) (E := E) E.length
    have hmem := lb_mem (rs := rs) (md := md) hN E.length (Nat.le_refl _)
    rw [A_MD_layLetters_L7, f2, h1]
    by_cases c : E.length ≤ k
    · rw [if_pos ((nI_leI (by omega) (by omega)).mpr c)]
      have : k = E.length := by omega
      subst this
      exact ⟨τ, rfl, hf, hX⟩
    · have hk : k < E.length := by omega
      have g : ¬ (nI k < 0 ∨ 26000 ≤ k) := ng2 (by omega) (by omega)
      have hMτ := MS_fx hM f1
      rw [if_neg (fun h => c ((nI_leI (by omega) (by omega)).mp h)), nI_clamp (by omega), if_neg g, f3, h2 k hk, nI_1, hMτ.2.2.1, f7, h4]
      obtain ⟨m, m1, m2, m3⟩ := sN_ok (md := md) hG hE hmd hk
      obtain ⟨τ1, q1, q2, q3⟩ := ltm_fin (n := n) (k := k) (τ := τ) (Y := ltX rs md (lb rs md E E.length) E (k + 1)) (by omega) hX (by omega) m1 m2 (s := if svF E k then 1 else 0) (by rw [f4, h3 k hk]) (by
        rw [ltX, m3]
        by_cases e : svF E k = true
        · simp [e]
        · simp [e])
      have goal := ih (k + 1) τ1 (by omega) (by omega) (by rw [q2, hf]) q3
      rw [← q1] at goal
      obtain ⟨b, x, κ, e1, e2⟩ := e_get hk
      rw [e2] at m3 ⊢
      cases b
      · have hs := hN k x κ hk e2
        have ht : sF rs E (false, x, κ) = nI (rSt rs x) := rfl
        rw [ht, if_pos (nI_pos' (by omega)), if_neg g, m_mandatoryOf hMτ hmd (by omega) (fun a ha => by have := (hW.2.2.1 a ha).1; omega), m_labelOf (by rw [f7]; exact h4) (by rw [f6]; exact h5) (by omega) (by omega) (fun a ha => by have := hmem a ha; omega)]
        simp only [Option.bind_some]
        by_cases hf1 : fd (rSt rs x) md 0 = -1
        · obtain ⟨i, i1, i2, -⟩ := fd_get (lb_has e2 hf1 E.length hk (Nat.le_refl _) (by omega))
          have hm : nI md.length + 1 + fd (rSt rs x) (lb rs md E E.length) 0 = nI m := by
            rw [← m3]
            show _ = (if fd (rSt rs x) md 0 = -1 then fd (rSt rs x) (lb rs md E E.length) (md.length + 1) else fd (rSt rs x) md 1)
            rw [if_pos hf1, i2, i2, nI_1, nI_add]
            congr 1
            omega
          rw [hf1, if_pos (by decide), if_neg g, hm]
          exact goal
        · obtain ⟨i, i1, i2, -⟩ := fd_get hf1
          have hm : fd (rSt rs x) md 0 + 1 = nI m := by
            rw [← m3]
            show _ = (if fd (rSt rs x) md 0 = -1 then fd (rSt rs x) (lb rs md E E.length) (md.length + 1) else fd (rSt rs x) md 1)
            rw [if_neg hf1, i2, i2, nI_1]
            congr 1
            omega
          rw [if_neg (by rw [i2]; exact nI_pos (by omega)), hm]
          exact goal
      · have hx := (hG.2 k x κ e1).1
        have := nb_le E x
        have ht : sF rs E (true, x, κ) = (-2) - nI (nb E x) := rfl
        have hm : nI md.length + nI (lb rs md E E.length).length + 1 + nI (nb E x) = nI m := by rw [nI_add, nI_1, nI_add]; exact m3
        have g0 : ¬ (0 : Int32) ≤ (-2) - nI (nb E x) := fun e => absurd (Int32.lt_of_lt_of_le (m2_neg (f := nb E x) (by omega)) e) (by simp)
        rw [ht, if_neg g0, if_neg g, m2_sub, hm]
        exact goal
theorem ltm_eq (hM : MS (gMD_statements μ) (gMD_takes μ) (gMD_mandatories μ) (gMD_mandatoryCount μ) tk md) (hW : WS j tk md) (hG : GE rs ks E) (b1 : tk.length ≤ 512) (hE : E.length ≤ 610) (hN : ∀ k r κ : Nat, k < E.length → E.getD k eD = (false, r, κ) → rSt rs r < tk.length) (h1 : gMD_steps μ = nI E.length) (h2 : ∀ i, i < E.length → gMD_toldStep μ i = sF rs E (E.getD i eD)) (h3 : ∀ i, i < E.length → gMD_saving μ i = if svF E i then 1 else 0) (h4 : gMD_labelCount μ = nI (lb rs md E E.length).length) (h5 : aI (gMD_labels μ) (lb rs md E E.length)) : ∃ τ' : tMD, A_MD_layLetters μ = some τ' ∧ fg τ' = fg μ ∧ ltR τ' (ltX rs md (lb rs md E E.length) E E.length) := by
  have key := ltm_L hM hW hG b1 hE hN h1 h2 h3 h4 h5 fuelM 0 (uMD_letterCount μ 0) (Nat.zero_le _) (by unfold fuelM; omega) (fg_letterCount μ 0) ⟨by rw [gu_MD_letterCount_letterCount]; rfl, fun i hi => absurd hi (Nat.not_lt_zero _)⟩
  rw [nI_0] at key
  exact key
end LTM
