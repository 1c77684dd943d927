/-! LEVEL B: the reference's rows: alike -/
/-- what the reference's search reads: rows rs, f the first of the same -/
def RD (μ : tMD) (tk : List Nat) (rs : tRS) (f : Nat → Nat) : Prop := (∀ r, r < rs.length → gMD_makers μ r = nI (rSt rs r)) ∧ (∀ r, r < rs.length → gMD_fromAt μ r = nI (off rs r)) ∧ aI (gMD_froms μ) (paL rs) ∧ aI (gMD_takes μ) tk ∧ (∀ r, r < rs.length → rSt rs r < tk.length ∧ (rPa rs r).length = tk.getD (rSt rs r) 0 ∧ ∀ p ∈ rPa rs r, p < rs.length ∧ gMD_firstSame μ p = nI (f p) ∧ f p < 2 ^ 30) ∧ rs.length ≤ 2000 ∧ (paL rs).length ≤ 2000 ∧ tk.length ≤ 1000
theorem ng {n N : Nat} (h : n < N) (hN : N < 2 ^ 31) : ¬ (nI n < 0 ∨ N ≤ (nI n).toNatClampNeg) := vp_in_nI h hN
theorem ng2 {n N : Nat} (h : n < N) (hN : N < 2 ^ 31) : ¬ (nI n < 0 ∨ N ≤ n) := fun e => e.elim (nI_pos (by omega)) (by omega)
theorem memD {l : List Nat} {k : Nat} (h : k < l.length) : l.getD k 0 ∈ l := by
  rw [show l.getD k 0 = l[k] by simp [List.getD_eq_getElem?_getD, h]]
  exact List.getElem_mem h
section RDS
variable {μ : tMD} {tk : List Nat} {rs : tRS} {f : Nat → Nat}
theorem rd_from (h : RD μ tk rs f) {r k : Nat} (hr : r < rs.length) (hk : k < (rPa rs r).length) : gMD_fromAt μ r + nI k = nI (off rs r + k) ∧ off rs r + k < 2000 ∧ gMD_froms μ (off rs r + k) = nI ((rPa rs r).getD k 0) ∧ (rPa rs r).getD k 0 < rs.length ∧ gMD_firstSame μ ((rPa rs r).getD k 0) = nI (f ((rPa rs r).getD k 0)) ∧ f ((rPa rs r).getD k 0) < 2 ^ 30 := by
  obtain ⟨-, h2, h3, -, h5, h6, h7, -⟩ := h
  have hi := off_in hr hk
  obtain ⟨e1, e2, e3⟩ := (h5 r hr).2.2 _ (memD hk)
  exact ⟨by rw [h2 r hr, nI_add], by omega, by rw [h3 _ hi, paL_get hr hk], e1, e2, e3⟩
theorem rd_takes (h : RD μ tk rs f) {r : Nat} (hr : r < rs.length) : gMD_makers μ r = nI (rSt rs r) ∧ rSt rs r < 1000 ∧ gMD_takes μ (rSt rs r) = nI (rPa rs r).length ∧ (rPa rs r).length ≤ 2000 := by
  obtain ⟨h1, -, -, h4, h5, -, h7, h8⟩ := h
  obtain ⟨e1, e2, -⟩ := h5 r hr
  have := rPa_len hr
  exact ⟨h1 r hr, by omega, by rw [h4 _ e1, e2], by omega⟩
/-- the compare loop, both alike so far -/
theorem ia_L (h : RD μ tk rs f) {a b : Nat} (ha : a < rs.length) (hb : b < rs.length) (hl : (rPa rs a).length = (rPa rs b).length) : ∀ (n k : Nat), k ≤ (rPa rs a).length → (rPa rs a).length + 1 < k + n → A_MD_isAlike_L24 μ (nI a) (nI b) n 1 (nI k) = some (if ((rPa rs a).drop k).map f = ((rPa rs b).drop k).map f then 1 else 0) := by
  obtain ⟨m1, m2, m3, m4⟩ := rd_takes h ha
  have hN : rs.length ≤ 2000 := h.2.2.2.2.2.1
  intro n
  induction n with
  | zero => intro k h1 h2; omega
  | succ n ih =>
    intro k h1 h2
    rw [A_MD_isAlike_L24, if_neg (ng (by omega) (by omega)), nI_clamp (n := a) (by omega), m1, if_neg (ng (by omega) (by omega)), nI_clamp (n := rSt rs a) (by omega), m3]
    by_cases c : (rPa rs a).length ≤ k
    · rw [if_pos ((nI_leI (by omega) (by omega)).mpr c), if_neg (by decide), List.drop_eq_nil_of_le c, List.drop_eq_nil_of_le (by omega)]; rfl
    · obtain ⟨f1, f2, f3, f4, f5, f6⟩ := rd_from h ha (k := k) (by omega)
      obtain ⟨g1, g2, g3, g4, g5, g6⟩ := rd_from h hb (k := k) (by omega)
      rw [if_neg (fun h => c ((nI_leI (by omega) (by omega)).mp h)), if_neg (by decide), if_neg (ng2 (n := a) (by omega) (by omega)), f1, if_neg (ng (by omega) (by omega)), nI_clamp (n := off rs a + k) (by omega), f3, if_neg (ng (by omega) (by omega)), if_neg (ng (by omega) (by omega)), nI_clamp (n := b) (by omega), g1, if_neg (ng (by omega) (by omega)), nI_clamp (n := off rs b + k) (by omega), g3, if_neg (ng (by omega) (by omega)), nI_clamp (n := (rPa rs a).getD k 0) (by omega), nI_clamp (n := (rPa rs b).getD k 0) (by omega), f5, g5, nI_1, dc_cons (l := rPa rs a) (k := k) (by omega), dc_cons (l := rPa rs b) (k := k) (by omega)]
      by_cases c2 : f ((rPa rs a).getD k 0) = f ((rPa rs b).getD k 0)
      · rw [if_pos (by rw [c2]), ih (k + 1) (by omega) (by omega)]
        simp only [List.map_cons, c2, List.cons.injEq, true_and]
      · rw [if_neg (fun h => c2 ((nI_eq (by omega) (by omega)).mp h)), if_neg (by simp only [List.map_cons, List.cons.injEq]; exact fun h => c2 h.1)]
        obtain ⟨n, rfl⟩ : ∃ z, n = z + 1 := ⟨n - 1, by omega⟩
        rw [A_MD_isAlike_L24, if_neg (ng (by omega) (by omega)), nI_clamp (n := a) (by omega), m1, if_neg (ng (by omega) (by omega)), nI_clamp (n := rSt rs a) (by omega), m3]
        split
        · rfl
        · rfl
theorem ia_0 (h : RD μ tk rs f) {a : Nat} (ha : a < rs.length) (b : Int32) {n : Nat} (hn : 0 < n) : A_MD_isAlike_L24 μ (nI a) b n 0 0 = some 0 := by
  obtain ⟨m1, m2, m3, m4⟩ := rd_takes h ha
  have hN : rs.length ≤ 2000 := h.2.2.2.2.2.1
  obtain ⟨n, rfl⟩ : ∃ z, n = z + 1 := ⟨n - 1, by omega⟩
  rw [A_MD_isAlike_L24, if_neg (ng (by omega) (by omega)), nI_clamp (n := a) (by omega), m1, if_neg (ng (by omega) (by omega)), nI_clamp (n := rSt rs a) (by omega), m3]
  split <;> rfl
theorem ia_eq (h : RD μ tk rs f) {a b : Nat} (ha : a < rs.length) (hb : b < rs.length) : A_MD_isAlike μ (nI a) (nI b) = some (if rSt rs a = rSt rs b ∧ (rPa rs a).map f = (rPa rs b).map f then 1 else 0) := by
  obtain ⟨m1, m2, m3, m4⟩ := rd_takes h ha
  obtain ⟨p1, p2, p3, p4⟩ := rd_takes h hb
  have hN : rs.length ≤ 2000 := h.2.2.2.2.2.1
  unfold A_MD_isAlike
  rw [if_neg (ng (by omega) (by omega)), if_neg (ng (by omega) (by omega)), nI_clamp (n := a) (by omega), nI_clamp (n := b) (by omega), m1, p1]
  by_cases c : rSt rs a = rSt rs b
  · rw [if_pos (by rw [c])]
    have hl : (rPa rs a).length = (rPa rs b).length := by rw [((h.2.2.2.2.1) a ha).2.1, ((h.2.2.2.2.1) b hb).2.1, c]
    have key := ia_L h ha hb hl fuelM 0 (Nat.zero_le _) (by unfold fuelM; omega)
    rw [nI_0] at key
    rw [key]
    simp only [List.drop_zero, c, true_and]
  · rw [if_neg (fun h => c ((nI_eq (by omega) (by omega)).mp h)), ia_0 h ha _ (by decide), if_neg (fun h => c h.1)]
end RDS
