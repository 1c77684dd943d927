/-! LEVEL B: a turn of the reference's telling -/
abbrev tFX : Type := Int32 × (Nat → Int32) × (Nat → Int32) × Int32 × Int32 × (Nat → Int32) × (Nat → Int32) × (Nat → Int32) × (Nat → Int64) × (Nat → Int32) × Int32 × (Nat → Int32) × Int32 × Int32
def fx (μ : tMD) : tFX := (gMD_statements μ, gMD_takes μ, gMD_mandatories μ, gMD_mandatoryCount μ, gMD_rows μ, gMD_makers μ, gMD_fromAt μ, gMD_firstSame μ, gMD_sizes μ, gMD_froms μ, gMD_fromCount μ, gMD_pile μ, gMD_piled μ, gMD_puts μ)
theorem fx_out {a b : tMD} (h : fx a = fx b) : gMD_statements a = gMD_statements b ∧ gMD_takes a = gMD_takes b ∧ gMD_mandatories a = gMD_mandatories b ∧ gMD_mandatoryCount a = gMD_mandatoryCount b ∧ gMD_rows a = gMD_rows b ∧ gMD_makers a = gMD_makers b ∧ gMD_fromAt a = gMD_fromAt b ∧ gMD_firstSame a = gMD_firstSame b ∧ gMD_sizes a = gMD_sizes b ∧ gMD_froms a = gMD_froms b ∧ gMD_fromCount a = gMD_fromCount b ∧ gMD_pile a = gMD_pile b ∧ gMD_piled a = gMD_piled b ∧ gMD_puts a = gMD_puts b := by
  unfold fx at h
  simp only [Prod.mk.injEq] at h
  exact h
theorem fx_steps (μ : tMD) (v : Int32) : fx (uMD_steps μ v) = fx μ := rfl
theorem fx_toldStep (μ : tMD) (v : Nat → Int32) : fx (uMD_toldStep μ v) = fx μ := rfl
theorem fx_stepRow (μ : tMD) (v : Nat → Int32) : fx (uMD_stepRow μ v) = fx μ := rfl
theorem fx_isSaved (μ : tMD) (v : Nat → Int32) : fx (uMD_isSaved μ v) = fx μ := rfl
theorem fx_isTold (μ : tMD) (v : Nat → Int32) : fx (uMD_isTold μ v) = fx μ := rfl
theorem fx_savedNumber (μ : tMD) (v : Nat → Int32) : fx (uMD_savedNumber μ v) = fx μ := rfl
theorem fx_savedCount (μ : tMD) (v : Int32) : fx (uMD_savedCount μ v) = fx μ := rfl
theorem fx_labels (μ : tMD) (v : Nat → Int32) : fx (uMD_labels μ v) = fx μ := rfl
theorem fx_labelCount (μ : tMD) (v : Int32) : fx (uMD_labelCount μ v) = fx μ := rfl
theorem fx_letters (μ : tMD) (v : Nat → Int32) : fx (uMD_letters μ v) = fx μ := rfl
theorem fx_letterCount (μ : tMD) (v : Int32) : fx (uMD_letterCount μ v) = fx μ := rfl
theorem fx_saving (μ : tMD) (v : Nat → Int32) : fx (uMD_saving μ v) = fx μ := rfl
theorem fx_walk (μ : tMD) (v : Nat → Int32) : fx (uMD_walk μ v) = fx μ := rfl
theorem fx_walkAt (μ : tMD) (v : Nat → Int32) : fx (uMD_walkAt μ v) = fx μ := rfl
theorem nar0 : vp_nar .boolean 0 = 0 := by decide
theorem nar1 : vp_nar .boolean 1 = 1 := by decide
/-- what a turn of the reference reads of its top row -/
def MTop (τ : tMD) (d r s n p o : Nat) : Prop := (gMD_walk τ d = nI r ∧ gMD_makers τ r = nI s ∧ gMD_takes τ s = nI n ∧ gMD_walkAt τ d = nI p ∧ gMD_firstSame τ r = nI o) ∧ d < 4000 ∧ r < 4000 ∧ s < 1500 ∧ n < 2 ^ 30 ∧ p < 2 ^ 30 ∧ o < 4000
theorem ta_tell {τ : tMD} {e : Nat} (h : gMD_steps τ = nI e) (he : e < 26000) (a b : Int32) : A_MD_tell τ a b = some (uMD_steps (uMD_stepRow (uMD_toldStep τ (upd (gMD_toldStep τ) e a)) (upd (gMD_stepRow τ) e b)) (nI (e + 1))) := by
  unfold A_MD_tell
  have g : ¬ (nI e < 0 ∨ 26000 ≤ e) := ng2 he (by omega)
  have k : (nI e).toNatClampNeg = e := nI_clamp (by omega)
  simp only [bnd, gu_MD_steps_toldStep, gu_MD_steps_stepRow, gu_MD_stepRow_toldStep, h, k, if_neg g, nI_1]
theorem nI_le0 {n : Nat} (h : n < 2 ^ 31) : nI n ≤ 0 ↔ n = 0 := by
  rw [← nI_0, nI_leI h (by omega)]; omega
theorem nI_is0 {n : Nat} (h : n < 2 ^ 31) : nI n = 0 ↔ n = 0 := by
  rw [← nI_0, nI_eq h (by omega)]
set_option maxHeartbeats 1000000 in
theorem ta_own {τ : tMD} {d r s n p o : Nat} (h : MTop τ d r s n p o) (hn : n ≤ p) (h0 : p = 0 → n = 0) (m : Nat) : A_MD_tellAll_L51 (m + 1) (nI d) τ = (A_MD_tell (uMD_isTold τ (upd (gMD_isTold τ) o (if n = 0 then 0 else 1))) (nI s) (nI o)).bind (fun T => A_MD_tellAll_L51 m (nI d + (-1)) T) := by
  obtain ⟨⟨h1, h2, h3, h4, h5⟩, b1, b2, b3, b4, b5, b6⟩ := h
  have g0 : ¬ nI d < 0 := nI_pos (by omega)
  have g1 : ¬ (nI d < 0 ∨ 4001 ≤ d) := ng2 (by omega) (by omega)
  have g2 : ¬ (nI r < 0 ∨ 4000 ≤ r) := ng2 (by omega) (by omega)
  have g3 : ¬ (nI s < 0 ∨ 1500 ≤ s) := ng2 (by omega) (by omega)
  have g4 : ¬ (nI o < 0 ∨ 4000 ≤ o) := ng2 (by omega) (by omega)
  have c1 : nI n ≤ nI p := (nI_leI (by omega) (by omega)).mpr hn
  have k1 : (nI d).toNatClampNeg = d := nI_clamp (by omega)
  have k2 : (nI r).toNatClampNeg = r := nI_clamp (by omega)
  have k3 : (nI s).toNatClampNeg = s := nI_clamp (by omega)
  have k4 : (nI o).toNatClampNeg = o := nI_clamp (by omega)
  rw [A_MD_tellAll_L51]
  simp only [k1, h1, k2, h2, k3, h3, h4, h5, k4, if_neg g0, if_neg g1, if_neg g2, if_neg g3, if_neg g4, if_pos c1, bnd, gu_MD_makers_isTold, nar0, nar1]
  by_cases c : n = 0
  · rw [if_pos ((nI_le0 (by omega)).mpr c), if_pos ((nI_le0 (by omega)).mpr c), if_pos c]
    simp only [ite_self]
  · have c2 : ¬ nI p = 0 := fun e => c (h0 ((nI_is0 (by omega)).mp e))
    rw [if_neg c2, if_neg (fun e => c ((nI_le0 (by omega)).mp e)), if_neg c]
set_option maxHeartbeats 1000000 in
theorem ta_ref {τ : tMD} {d r s n o : Nat} (h : MTop τ d r s n 0 o) (hn : 0 < n) (ht : gMD_isTold τ o = 1) (m : Nat) : A_MD_tellAll_L51 (m + 1) (nI d) τ = (A_MD_tell (uMD_isSaved τ (upd (gMD_isSaved τ) o 1)) ((-2) - nI o) (nI o)).bind (fun T => A_MD_tellAll_L51 m (nI d + (-1)) T) := by
  obtain ⟨⟨h1, h2, h3, h4, h5⟩, b1, b2, b3, b4, b5, b6⟩ := h
  have g0 : ¬ nI d < 0 := nI_pos (by omega)
  have g1 : ¬ (nI d < 0 ∨ 4001 ≤ d) := ng2 (by omega) (by omega)
  have g2 : ¬ (nI r < 0 ∨ 4000 ≤ r) := ng2 (by omega) (by omega)
  have g3 : ¬ (nI s < 0 ∨ 1500 ≤ s) := ng2 (by omega) (by omega)
  have g4 : ¬ (nI o < 0 ∨ 4000 ≤ o) := ng2 (by omega) (by omega)
  have k1 : (nI d).toNatClampNeg = d := nI_clamp (by omega)
  have k2 : (nI r).toNatClampNeg = r := nI_clamp (by omega)
  have k3 : (nI s).toNatClampNeg = s := nI_clamp (by omega)
  have k4 : (nI o).toNatClampNeg = o := nI_clamp (by omega)
  have c2 : nI 0 = 0 := nI_0
  have c3 : ¬ nI n ≤ 0 := fun e => by have := (nI_le0 (by omega)).mp e; omega
  have c4 : ¬ (1 : Int32) = 0 := by decide
  rw [A_MD_tellAll_L51]
  simp only [k1, h1, k2, h2, k3, h3, h4, h5, k4, if_neg g0, if_neg g1, if_neg g2, if_neg g3, if_neg g4, if_pos c2, if_neg c3, ht, if_neg c4, bnd, nar1]
set_option maxHeartbeats 1000000 in
theorem ta_push {τ : tMD} {d r s n p o a c : Nat} (h : MTop τ d r s n p o) (hn : p < n) (h0 : p = 0 → gMD_isTold τ o = 0) (hf : gMD_fromAt τ r = nI a) (ha : a + p < 20100) (hc : gMD_froms τ (a + p) = nI c) (m : Nat) : A_MD_tellAll_L51 (m + 1) (nI d) τ = A_MD_tellAll_L51 m (nI (d + 1)) (uMD_walkAt (uMD_walk (uMD_walkAt τ (upd (gMD_walkAt τ) d (nI (p + 1)))) (upd (gMD_walk τ) (d + 1) (nI c))) (upd (upd (gMD_walkAt τ) d (nI (p + 1))) (d + 1) 0)) := by
  obtain ⟨⟨h1, h2, h3, h4, h5⟩, b1, b2, b3, b4, b5, b6⟩ := h
  have g0 : ¬ nI d < 0 := nI_pos (by omega)
  have g1 : ¬ (nI d < 0 ∨ 4001 ≤ d) := ng2 (by omega) (by omega)
  have g2 : ¬ (nI r < 0 ∨ 4000 ≤ r) := ng2 (by omega) (by omega)
  have g3 : ¬ (nI s < 0 ∨ 1500 ≤ s) := ng2 (by omega) (by omega)
  have g4 : ¬ (nI o < 0 ∨ 4000 ≤ o) := ng2 (by omega) (by omega)
  have g5 : ¬ (nI (a + p) < 0 ∨ 20100 ≤ a + p) := ng2 (by omega) (by omega)
  have g6 : ¬ (nI (d + 1) < 0 ∨ 4001 ≤ d + 1) := ng2 (by omega) (by omega)
  have c1 : ¬ nI n ≤ nI p := fun e => by have := (nI_leI (by omega) (by omega)).mp e; omega
  have c3 : ¬ nI n ≤ 0 := fun e => by have := (nI_le0 (by omega)).mp e; omega
  have k1 : (nI d).toNatClampNeg = d := nI_clamp (by omega)
  have k2 : (nI r).toNatClampNeg = r := nI_clamp (by omega)
  have k3 : (nI s).toNatClampNeg = s := nI_clamp (by omega)
  have k4 : (nI o).toNatClampNeg = o := nI_clamp (by omega)
  have k5 : (nI (a + p)).toNatClampNeg = a + p := nI_clamp (by omega)
  have k6 : (nI (d + 1)).toNatClampNeg = d + 1 := nI_clamp (by omega)
  rw [A_MD_tellAll_L51]
  simp only [k1, h1, k2, h2, k3, h3, h4, h5, k4, hf, nI_add, k5, hc, nI_1, k6, if_neg g0, if_neg g1, if_neg g2, if_neg g3, if_neg g4, if_neg g5, if_neg g6, if_neg c1, if_neg c3, bnd, gu_MD_walk_walk, gu_MD_walk_walkAt, gu_MD_walkAt_walk, gu_MD_walkAt_walkAt]
  by_cases e : p = 0
  · rw [if_pos ((nI_is0 (by omega)).mpr e), if_pos (h0 e)]
  · rw [if_neg (fun x => e ((nI_is0 (by omega)).mp x))]
theorem ta_end (τ : tMD) (m : Nat) {d : Int32} (h : d < 0) : A_MD_tellAll_L51 (m + 1) d τ = some τ := by
  rw [A_MD_tellAll_L51, if_pos h]
