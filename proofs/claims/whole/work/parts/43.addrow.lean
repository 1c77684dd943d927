/-! LEVEL B: sizes; the system's new row, whole -/
/-- sizes are counted up to one above 10^18 -/
def szF (sz : List Nat) : List Nat → Nat → Nat
  | [], a => a
  | p :: ps, a => szF sz ps (min (a + sz.getD p 0) 1000000000000000001)
theorem szF_le {sz : List Nat} : ∀ (ps : List Nat) (a : Nat), a ≤ 1000000000000000001 → szF sz ps a ≤ 1000000000000000001
  | [], _, h => h
  | p :: ps, a, _ => szF_le ps _ (Nat.min_le_right _ _)
def WZ (rs : tRS) (sz : List Nat) : Prop := sz.length = rs.length ∧ ∀ r, r < rs.length → sz.getD r 0 = szF sz (rPa rs r) 1
theorem WZ_le {rs : tRS} {sz : List Nat} (h : WZ rs sz) (r : Nat) : sz.getD r 0 ≤ 1000000000000000001 := by
  by_cases hr : r < rs.length
  · rw [h.2 r hr]; exact szF_le _ _ (by decide)
  · have : sz.getD r 0 = 0 := by simp [List.getD_eq_getElem?_getD, List.getElem?_eq_none (show sz.length ≤ r by rw [h.1]; omega)]
    rw [this]; decide
theorem szF_app {sz : List Nat} {z : Nat} : ∀ {ps : List Nat} {a : Nat}, (∀ p ∈ ps, p < sz.length) → szF (sz ++ [z]) ps a = szF sz ps a
  | [], _, _ => rfl
  | p :: ps, a, h => by
    rw [szF, szF, getD_appL (h p List.mem_cons_self)]
    exact szF_app fun x hx => h x (List.mem_cons_of_mem _ hx)
theorem WZ_new {rs : tRS} {sz : List Nat} (h : WZ rs sz) {s : Nat} {ps : List Nat} (hp : ∀ p ∈ ps, p < rs.length) (hr : ∀ r, r < rs.length → ∀ p ∈ rPa rs r, p < r) : WZ (rs ++ [(s, ps)]) (sz ++ [szF sz ps 1]) := by
  obtain ⟨h1, h2⟩ := h
  refine ⟨by simp [h1], fun r hr' => ?_⟩
  simp only [List.length_append, List.length_cons, List.length_nil] at hr'
  by_cases e : r = rs.length
  · subst e
    unfold rPa
    rw [rs_last, ← h1, getD_last, szF_app (by rw [h1]; exact hp)]
  · have hr2 : r < rs.length := by omega
    have e2 : rPa (rs ++ [(s, ps)]) r = rPa rs r := by unfold rPa; rw [rs_app hr2]
    rw [getD_appL (by omega), e2, h2 r hr2, szF_app]
    intro p hpp
    have := hr r hr2 p hpp
    omega
theorem lN_m (a : Nat) : (1000000000000000001 : Int64) = lN 1000000000000000001 := rfl
theorem lN_min {a b : Nat} (ha : a ≤ 1000000000000000001) (hb : b ≤ 1000000000000000001) : (if (1000000000000000001 : Int64) < lN a + lN b then (1000000000000000001 : Int64) else lN a + lN b) = lN (min (a + b) 1000000000000000001) := by
  rw [lN_add, lN_m 0]
  by_cases c : 1000000000000000001 < a + b
  · rw [if_pos ((pk_lLT (by omega) (by omega)).mpr c), Nat.min_eq_right (by omega)]
  · rw [if_neg (fun h => c ((pk_lLT (by omega) (by omega)).mp h)), Nat.min_eq_left (by omega)]
section PRZ
variable {Z : tRW} {rs : tRS}
theorem pr_has (h1 : lI (gRW_statements Z) (rs.map Prod.fst)) (hl : rs.length < 2 ^ 31) {r : Nat} (hr : r < rs.length) : A_RW_has Z (nI r) = 1 := by
  unfold A_RW_has
  rw [if_neg (nI_pos (by omega)), lI_length h1, if_neg (by simp only [List.length_map]; rw [nI_leI (by omega) (by omega)]; omega)]
theorem pr_start (h2 : lI (gRW_starts Z) ((List.range (rs.length + 1)).map (off rs))) (hl : rs.length < 2 ^ 30) {r : Nat} (hr : r ≤ rs.length) : A_IL_at (gRW_starts Z) (nI r) = nI (off rs r) := by
  rw [lI_at h2 (by simp; omega) (by simp; omega)]
  simp [List.getD_eq_getElem?_getD, show r < rs.length + 1 by omega]
theorem pr_parts (h1 : lI (gRW_statements Z) (rs.map Prod.fst)) (h2 : lI (gRW_starts Z) ((List.range (rs.length + 1)).map (off rs))) (hl : rs.length < 2 ^ 30) {r : Nat} (hr : r < rs.length) : A_RW_amountOfParts Z (nI r) = nI (rPa rs r).length := by
  unfold A_RW_amountOfParts
  rw [pr_has h1 (by omega) hr, if_neg (by decide), nI_1, pr_start h2 hl (by omega), pr_start h2 hl (by omega), off_succ hr, pk_sub (by omega)]
  congr 1
  omega
theorem pr_part (h1 : lI (gRW_statements Z) (rs.map Prod.fst)) (h2 : lI (gRW_starts Z) ((List.range (rs.length + 1)).map (off rs))) (h3 : lI (gRW_parts Z) (paL rs)) (hl : rs.length < 2 ^ 30) (hp : (paL rs).length < 2 ^ 30) {r k : Nat} (hr : r < rs.length) (hk : k < (rPa rs r).length) : A_RW_part Z (nI r) (nI k) = nI ((rPa rs r).getD k 0) := by
  have hi := off_in hr hk
  have hle := rPa_len hr
  unfold A_RW_part
  rw [if_neg (nI_pos (by omega)), pr_parts h1 h2 hl hr, if_neg (by rw [nI_leI (by omega) (by omega)]; omega), pr_start h2 hl (by omega), nI_add, lI_at h3 hi (by omega), paL_get hr hk]
theorem pr_full (h1 : lI (gRW_statements Z) (rs.map Prod.fst)) (hl : rs.length < 2 ^ 31) {r : Nat} (hr : r < rs.length) (hc : r < (gRW_steps Z).2) (hb : (gRW_steps Z).2 < 2 ^ 31) : A_RW_stepsInFull Z (nI r) = (gRW_steps Z).1 r := by
  unfold A_RW_stepsInFull
  rw [pr_has h1 hl hr, if_neg (by decide), if_neg (by rw [nI_leI (by omega) (by omega)]; omega), nI_clamp (by omega)]
theorem cs_L (h1 : lI (gRW_statements Z) (rs.map Prod.fst)) (h2 : lI (gRW_starts Z) ((List.range (rs.length + 1)).map (off rs))) (h3 : lI (gRW_parts Z) (paL rs)) (hl : rs.length < 2 ^ 30) (hp : (paL rs).length < 2 ^ 30) {r : Nat} (hr : r < rs.length) {sz : List Nat} (hz : ∀ p ∈ rPa rs r, p < rs.length ∧ p < (gRW_steps Z).2 ∧ (gRW_steps Z).1 p = lN (sz.getD p 0)) (hb : (gRW_steps Z).2 < 2 ^ 31) (hs : ∀ p, sz.getD p 0 ≤ 1000000000000000001) :
    ∀ (n k a : Nat), k ≤ (rPa rs r).length → (rPa rs r).length < k + n → a ≤ 1000000000000000001 → A_RW_countSteps_L5 Z (nI r) n (lN a) (nI k) = lN (szF sz ((rPa rs r).drop k) a) := by
  have hle := rPa_len hr
  intro n
  induction n with
  | zero => intro k a e1 e2; omega
  | succ n ih =>
    intro k a e1 e2 e3
    rw [A_RW_countSteps_L5, pr_parts h1 h2 hl hr]
    by_cases c : (rPa rs r).length ≤ k
    · rw [if_pos ((nI_leI (by omega) (by omega)).mpr c), List.drop_eq_nil_of_le c]; rfl
    · have hk : k < (rPa rs r).length := by omega
      have hm : (rPa rs r).getD k 0 ∈ rPa rs r := by
        rw [show (rPa rs r).getD k 0 = (rPa rs r)[k] by simp [List.getD_eq_getElem?_getD, hk]]
        exact List.getElem_mem hk
      obtain ⟨z1, z2, z3⟩ := hz _ hm
      rw [if_neg (fun h => c ((nI_leI (by omega) (by omega)).mp h)), pr_part h1 h2 h3 hl hp hr hk, pr_full h1 (by omega) z1 z2 hb, z3, lN_min e3 (hs _), nI_1, ih (k + 1) _ (by omega) (by omega) (Nat.min_le_right _ _), dc_cons (k := k) hk, szF]
theorem cs_eq (h1 : lI (gRW_statements Z) (rs.map Prod.fst)) (h2 : lI (gRW_starts Z) ((List.range (rs.length + 1)).map (off rs))) (h3 : lI (gRW_parts Z) (paL rs)) (hl : rs.length < 2 ^ 30) (hp : (paL rs).length < 2 ^ 30) {r : Nat} (hr : r < rs.length) {sz : List Nat} (hz : ∀ p ∈ rPa rs r, p < rs.length ∧ p < (gRW_steps Z).2 ∧ (gRW_steps Z).1 p = lN (sz.getD p 0)) (hb : (gRW_steps Z).2 < 2 ^ 31) (hs : ∀ p, sz.getD p 0 ≤ 1000000000000000001) : A_RW_countSteps Z (nI r) = lN (szF sz (rPa rs r) 1) := by
  have hle := rPa_len hr
  unfold A_RW_countSteps M_RW_countSteps_L5
  rw [pr_parts h1 h2 hl hr]
  have e : ((nI (rPa rs r).length).toInt - (0 : Int32).toInt).toNat + 1 = (rPa rs r).length + 1 := by
    have := meas_nat (a := (rPa rs r).length) (b := 0) (by omega) (by omega)
    rw [nI_0] at this
    rw [this]; rfl
  rw [e]
  have key := cs_L h1 h2 h3 hl hp hr hz hb hs ((rPa rs r).length + 1) 0 1 (Nat.zero_le _) (by omega) (by decide)
  rw [nI_0, List.drop_zero] at key
  exact key
end PRZ
