/-! LEVEL B: mandatory -/
theorem m_mo {μ : tMD} {tk md : List Nat} (hM : MS (gMD_statements μ) (gMD_takes μ) (gMD_mandatories μ) (gMD_mandatoryCount μ) tk md) (hl : md.length ≤ 60) {i : Nat} (hi : i < 2 ^ 31) (hb : ∀ a ∈ md, a < 2 ^ 31) : ∀ (n k : Nat), k ≤ md.length → md.length < k + n → A_MD_mandatoryOf_L2 μ (nI i) n (nI k) = some (fd i (md.drop k) k) := by
  obtain ⟨-, -, m3, m4⟩ := hM
  intro n
  induction n with
  | zero => intro k h1 h2; omega
  | succ n ih =>
    intro k h1 h2
    rw [A_MD_mandatoryOf_L2, m3]
    by_cases c : md.length ≤ k
    · rw [if_pos ((nI_leI (by omega) (by omega)).mpr c), List.drop_eq_nil_of_le c]
      rfl
    · rw [if_neg (fun h => c ((nI_leI (by omega) (by omega)).mp h)), if_neg (vp_in_nI (by omega) (by omega)), nI_clamp (by omega), m4 k (by omega), nI_1, ih (k + 1) (by omega) (by omega)]
      have hk : k < md.length := by omega
      rw [List.drop_eq_getElem_cons hk, fd]
      have e : md.getD k 0 = md[k] := by simp [List.getD_eq_getElem?_getD, hk]
      rw [e]
      by_cases c2 : md[k] = i
      · rw [if_pos c2, if_pos (by rw [c2])]
      · rw [if_neg c2, if_neg (fun h => c2 ((nI_eq (hb _ (List.getElem_mem hk)) hi).mp h))]
theorem m_mandatoryOf {μ : tMD} {tk md : List Nat} (hM : MS (gMD_statements μ) (gMD_takes μ) (gMD_mandatories μ) (gMD_mandatoryCount μ) tk md) (hl : md.length ≤ 60) {i : Nat} (hi : i < 2 ^ 31) (hb : ∀ a ∈ md, a < 2 ^ 31) : A_MD_mandatoryOf μ (nI i) = some (fd i md 0) := by
  have h := m_mo hM hl hi hb fuelM 0 (Nat.zero_le _) (by unfold fuelM; omega)
  exact h
theorem st_has {s : tST} {tk md : List Nat} (hC : CS s tk md) {i : Nat} (hi : i < tk.length) (hl : tk.length < 2 ^ 31) : A_ST_has s (nI i) = 1 := by
  unfold A_ST_has
  rw [if_neg (nI_pos (by omega)), lI_length hC.1, if_neg (by rw [nI_leI (by omega) (by omega)]; omega)]
theorem st_hasno {s : tST} {tk md : List Nat} (hC : CS s tk md) {x : Int32} (h : x < 0 ∨ nI tk.length ≤ x) : A_ST_has s x = 0 := by
  unfold A_ST_has
  rw [lI_length hC.1]
  by_cases h1 : x < 0
  · rw [if_pos h1]
  · rw [if_neg h1, if_pos (h.resolve_left h1)]
theorem md_isS {μ : tMD} {n : Nat} (h : gMD_statements μ = nI n) {i : Nat} (hi : i < n) (hl : n < 2 ^ 31) : A_MD_isStatement μ (nI i) = 1 := by
  unfold A_MD_isStatement
  rw [if_neg (nI_pos (by omega)), h, if_neg (by rw [nI_leI (by omega) (by omega)]; omega)]
theorem md_isSno {μ : tMD} {n : Nat} (h : gMD_statements μ = nI n) {x : Int32} (hx : x < 0 ∨ nI n ≤ x) : A_MD_isStatement μ x = 0 := by
  unfold A_MD_isStatement
  rw [h]
  by_cases h1 : x < 0
  · rw [if_pos h1]
  · rw [if_neg h1, if_pos (hx.resolve_left h1)]
theorem st_taking {s : tST} {tk md : List Nat} (hC : CS s tk md) {i : Nat} (hi : i < tk.length) (hl : tk.length < 2 ^ 31) : A_ST_taking s (nI i) = nI (tk.getD i 0) := lI_at hC.1 hi hl
theorem st_place {s : tST} {tk md : List Nat} (hC : CS s tk md) {i : Nat} (hi : i < tk.length) (hl : tk.length < 2 ^ 31) : A_ST_placeOf s (nI i) = fd i md 0 := by
  have h := hC.2.1
  show A_IL_at (gST_places s) (nI i) = _
  rw [il_at (by omega) (by omega), h.2 i hi]
theorem st_isM {s : tST} {tk md : List Nat} (hC : CS s tk md) {i : Nat} (hi : i < tk.length) (hl : tk.length < 2 ^ 31) : A_ST_isMandatory s (nI i) = if fd i md 0 = -1 then 0 else 1 := by
  show (if (A_IL_at (gST_places s) (nI i)) = (-1) then (0 : Int32) else 1) = _
  have h := st_place hC hi hl
  unfold A_ST_placeOf at h
  rw [h]
theorem tk_le {tk : List Nat} (h : ∀ t ∈ tk, t ≤ 60) (i : Nat) : tk.getD i 0 ≤ 60 := by
  rw [List.getD_eq_getElem?_getD]
  cases hq : tk[i]? with
  | none => simp
  | some v => simpa using h v (List.mem_of_getElem? hq)
theorem CS_addM {s : tST} {tk md : List Nat} (hC : CS s tk md) {i : Nat} (hi : i < tk.length) (hl : tk.length < 2 ^ 31) (hm : md.length < 60) (hf : fd i md 0 = -1) : CS (A_ST_addMandatory s (nI i)).2 tk (md ++ [i]) ∧ (A_ST_addMandatory s (nI i)).1 = nI (md.length + 1) := by
  obtain ⟨c1, ⟨c2, c3⟩, c4, c5, c6⟩ := hC
  refine ⟨⟨c1, ⟨?_, ?_⟩, ?_, c5, cB_put c6 _ _⟩, ?_⟩
  · show (A_IL_put (gST_places s) (nI i) (gST_mandatories s)).1.length = _
    have := len_put (gST_places s) (nI i) (gST_mandatories s)
    unfold A_IL_put
    rw [if_neg (nI_pos (by omega)), if_neg (by rw [c2, nI_leI (by omega) (by omega)]; omega)]
    simpa using c2
  · intro k hk
    show (A_IL_put (gST_places s) (nI i) (gST_mandatories s)).1.getD k 0 = _
    unfold A_IL_put
    rw [if_neg (nI_pos (by omega)), if_neg (by rw [c2, nI_leI (by omega) (by omega)]; omega), nI_clamp (by omega), fd_app (by omega)]
    by_cases e : k = i
    · subst e
      rw [hf, if_pos rfl, if_pos rfl, c4]
      simp [List.getD_eq_getElem?_getD, c2, hk]
    · rw [show (if i = k then nI (0 + md.length) else (-1 : Int32)) = -1 from if_neg (Ne.symm e)]
      have e2 : ((gST_places s).1.set i (gST_mandatories s)).getD k 0 = (gST_places s).1.getD k 0 := by
        simp [List.getD_eq_getElem?_getD, List.getElem?_set_ne (Ne.symm e)]
      show ((gST_places s).1.set i (gST_mandatories s)).getD k 0 = _
      rw [e2, c3 k hk]
      split
      · assumption
      · rfl
  · show gST_mandatories s + 1 = _
    rw [c4, nI_1]; simp
  · show gST_mandatories s + 1 = _
    rw [c4, nI_1]
