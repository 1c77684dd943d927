/-! LEVEL B: the saved rows are numbered alike -/
theorem m2_toInt {f : Nat} (h : f < 2 ^ 30) : ((-2 : Int32) - nI f).toInt = -2 - (f : Int) := by
  rw [Int32.toInt_sub, nI_toInt (by omega), show (-2 : Int32).toInt = -2 from rfl, Int.bmod_eq_of_le (by omega) (by omega)]
theorem m2_sub (x : Int32) : (-2 : Int32) - ((-2) - x) = x := by
  rw [Int32.sub_eq_add_neg, Int32.neg_sub, Int32.add_comm, Int32.sub_add_cancel]
theorem m2_lt {s : Nat} (h : s < 2 ^ 31) : (-2 : Int32) < nI s := by
  rw [Int32.lt_iff_toInt_lt, nI_toInt h, show (-2 : Int32).toInt = -2 from rfl]; omega
theorem m2_nlt {f : Nat} (h : f < 2 ^ 30) : ¬ (-2 : Int32) < (-2) - nI f := by
  rw [Int32.lt_iff_toInt_lt, m2_toInt h, show (-2 : Int32).toInt = -2 from rfl]; omega
theorem m2_neg {f : Nat} (h : f < 2 ^ 30) : (-2 : Int32) - nI f < 0 := by
  rw [Int32.lt_iff_toInt_lt, m2_toInt h, show (0 : Int32).toInt = 0 from rfl]; omega
theorem m2_le {f : Nat} (h : f < 2 ^ 30) : (-2 : Int32) - nI f ≤ (-2) := by
  rw [Int32.le_iff_toInt_le, m2_toInt h, show (-2 : Int32).toInt = -2 from rfl]; omega
theorem m2_nle {s : Nat} (h : s < 2 ^ 31) : ¬ nI s ≤ (-2) := by
  rw [Int32.le_iff_toInt_le, nI_toInt h, show (-2 : Int32).toInt = -2 from rfl]; omega
theorem m2_ne1 {s : Nat} (h : s < 2 ^ 30) : (-2 : Int32) - nI s ≠ -1 := by
  intro e
  have := congrArg Int32.toInt e
  rw [m2_toInt h, show (-1 : Int32).toInt = -1 from rfl] at this; omega
/-- how many steps before k are saved -/
def nb (E : List tE) (k : Nat) : Nat := ((List.range k).filter (svF E)).length
theorem nb_0 (E : List tE) : nb E 0 = 0 := rfl
theorem nb_s (E : List tE) (k : Nat) : nb E (k + 1) = nb E k + if svF E k then 1 else 0 := by
  unfold nb
  rw [List.range_succ, List.filter_append, List.length_append]
  by_cases c : svF E k = true
  · simp [c]
  · simp [c]
theorem nb_le (E : List tE) : ∀ k, nb E k ≤ k
  | 0 => Nat.le_refl _
  | k + 1 => by have := nb_le E k; rw [nb_s]; split <;> omega
def sF (rs : tRS) (E : List tE) (e : tE) : Int32 := if e.1 then (-2) - nI (nb E e.2.1) else nI (rSt rs e.2.1)
theorem e_get {E : List tE} {k : Nat} (h : k < E.length) : ∃ b x κ, E[k]? = some (b, x, κ) ∧ E.getD k eD = (b, x, κ) := by
  refine ⟨E[k].1, E[k].2.1, E[k].2.2, ?_, ?_⟩
  · rw [List.getElem?_eq_getElem h]
  · simp [List.getD_eq_getElem?_getD, h]
theorem e_getD {E : List tE} {k : Nat} {x : tE} (h : E[k]? = some x) : E.getD k eD = x := by simp [List.getD_eq_getElem?_getD, h]
section SVD
variable {j : Nat} {tk md : List Nat} {rs : tRS} {ks fk : List Nat} {kd : tRS} {sz : List Nat} {top : Nat} {E : List tE}
theorem TI_uniq (h : TI rs ks top [] E) {a b r r' κ : Nat} (ha : E[a]? = some (false, r, κ)) (hb : E[b]? = some (false, r', κ)) (hn : 0 < nP rs r) (hn' : 0 < nP rs r') : a = b := by
  obtain ⟨h1, h2, h3, h4, h5⟩ := h
  unfold ndp oR at h4
  simp only [List.map_nil, List.nil_append] at h4
  rw [List.filter_map, List.map_map] at h4
  have h6 := List.pairwise_filter.mp (List.pairwise_filter.mp (List.pairwise_map.mp h4))
  rw [List.pairwise_iff_getElem] at h6
  obtain ⟨la, ea⟩ := List.getElem?_eq_some_iff.mp ha
  obtain ⟨lb, eb⟩ := List.getElem?_eq_some_iff.mp hb
  have ka := (h2.1 a r κ ha).2.1
  have kb := (h2.1 b r' κ hb).2.1
  rcases Nat.lt_trichotomy a b with c | c | c
  · have := h6 a b la lb c
    rw [ea, eb] at this
    simp [hn, hn'] at this
    omega
  · exact c
  · have := h6 b a lb la c
    rw [ea, eb] at this
    simp [hn, hn'] at this
    omega
theorem svF_ref (h : GE rs ks E) {k f κ : Nat} (hk : E[k]? = some (true, f, κ)) : svF E k = false := by
  by_cases c : svF E k = true
  · obtain ⟨i, κ', hi⟩ := svF_iff.mp c
    obtain ⟨-, r, hr, -⟩ := h.2 i k κ' hi
    rw [hk] at hr
    simp at hr
  · simpa using c
theorem svF_tgt (h : GE rs ks E) {k f κ : Nat} (hk : E[k]? = some (true, f, κ)) : svF E f = true ∧ f < k ∧ ∃ r, E[f]? = some (false, r, κ) ∧ 0 < nP rs r := ⟨svF_iff.mpr ⟨k, κ, hk⟩, h.2 k f κ hk⟩
theorem svF_own (hW : WR j tk rs ks fk kd sz) (h : TI rs ks top [] E) {k r κ : Nat} (hk : E[k]? = some (false, r, κ)) : svF E k = (decide (0 < nP rs r) && svK E κ) := by
  have h2 := h.2.1
  by_cases c : svF E k = true
  · obtain ⟨i, κ', hi⟩ := svF_iff.mp c
    obtain ⟨-, r', hr, hn⟩ := h2.2 i k κ' hi
    rw [hk] at hr
    simp at hr
    obtain ⟨rfl, rfl⟩ := hr
    rw [c, svK_iff.mpr ⟨i, k, hi⟩]
    simp [hn]
  · have c' : svF E k = false := by simpa using c
    rw [c']
    by_cases n : 0 < nP rs r
    · by_cases s : svK E κ = true
      · obtain ⟨i, f, hi⟩ := svK_iff.mp s
        obtain ⟨-, r', hr, hn⟩ := h2.2 i f κ hi
        have := TI_uniq h hk hr n hn
        subst this
        exact absurd (svF_iff.mpr ⟨i, κ, hi⟩) c
      · simp [s]
    · simp [n]
/-- the class, behind its telling -/
def NC (τ : tTL) (rs : tRS) (E : List tE) (k : Nat) : Prop :=
  ((gTL_steps τ).1.length = E.length ∧ ∀ i, i < E.length → (gTL_steps τ).1.getD i 0 = if i < k then sF rs E (E.getD i eD) else tC rs (E.getD i eD)) ∧
  ((gTL_savedAs τ).1.length = E.length ∧ ∀ i, i < E.length → (gTL_savedAs τ).1.getD i 0 = if svF E i then (if i < k then nI (nb E i) else 0) else -1) ∧ gTL_savedRows τ = nI (nb E k)
def fz (τ : tTL) : tIL × tLL × Int32 × tIL × tIL × tIL × tIL × tIL × tIL × Nat × Nat := (gTL_labels τ, gTL_letters τ, gTL_rowTold τ, gTL_numbers τ, gTL_remade τ, gTL_savedKinds τ, gTL_openRows τ, gTL_openParts τ, gTL_toldAt τ, (gTL_steps τ).2, (gTL_savedAs τ).2)
theorem ite_n {i k : Nat} {α : Type} {a b : α} (h : i ≠ k) : (if i < k + 1 then a else b) = if i < k then a else b := by
  by_cases c : i < k
  · rw [if_pos c, if_pos (by omega)]
  · rw [if_neg c, if_neg (by omega)]
theorem nsr_L (hG : GE rs ks E) (hE : E.length ≤ 2000) (hst : ∀ k r κ : Nat, E[k]? = some (false, r, κ) → rSt rs r < 2 ^ 30) : ∀ (n k : Nat) (τ : tTL), k ≤ E.length → E.length < k + n → NC τ rs E k → ∃ τ' : tTL, A_TL_numberSavedRows_L2 n (nI k) τ = τ' ∧ fz τ' = fz τ ∧ NC τ' rs E E.length := by
  intro n
  induction n with
  | zero => intro k τ h1 h2; omega
  | succ n ih =>
    intro k τ h1 h2 hN
    have hN0 := hN
    obtain ⟨⟨n1, n2⟩, ⟨n3, n4⟩, n5⟩ := hN
    have hst' : A_IL_length (gTL_steps τ) = nI E.length := by unfold A_IL_length; rw [n1]
    rw [A_TL_numberSavedRows_L2, hst']
    by_cases c : E.length ≤ k
    · rw [if_pos ((nI_leI (by omega) (by omega)).mpr c)]
      have : k = E.length := by omega
      subst this
      exact ⟨τ, rfl, rfl, hN0⟩
    · have hk : k < E.length := by omega
      rw [if_neg (fun h => c ((nI_leI (by omega) (by omega)).mp h))]
      have s1 : A_IL_at (gTL_steps τ) (nI k) = tC rs (E.getD k eD) := by rw [il_at (by omega) (by omega), n2 k hk, if_neg (Nat.lt_irrefl _)]
      have s2 : A_TL_isSavedAt τ (nI k) = if svF E k then 1 else 0 := by
        unfold A_TL_isSavedAt
        rw [il_at (by omega) (by omega), n4 k hk, if_neg (Nat.lt_irrefl _)]
        by_cases e : svF E k = true
        · simp [e]
        · simp [e]
      rw [s1]
      obtain ⟨b, x, κ, e1, e2⟩ := e_get hk
      rw [e2]
      cases b
      · have hs := hst k x κ e1
        have ht : tC rs (false, x, κ) = nI (rSt rs x) := rfl
        have hsf : sF rs E (false, x, κ) = nI (rSt rs x) := rfl
        rw [ht]
        by_cases e : svF E k = true
        · rw [e, if_pos rfl] at s2
          have hN' : NC (uTL_savedRows (uTL_savedAs τ (A_IL_put (gTL_savedAs τ) (nI k) (nI (nb E k)))) (nI (nb E k + 1))) rs E (k + 1) := by
            refine ⟨⟨n1, fun i hi => ?_⟩, ⟨?_, fun i hi => ?_⟩, ?_⟩
            · show (gTL_steps τ).1.getD i 0 = _
              rw [n2 i hi]
              by_cases ei : i = k
              · subst ei
                rw [if_neg (Nat.lt_irrefl _), if_pos (by omega), e2, hsf, ht]
              · rw [ite_n ei]
            · show (A_IL_put (gTL_savedAs τ) (nI k) (nI (nb E k))).1.length = _
              rw [put_eq (by omega) (by omega)]; simpa using n3
            · show (A_IL_put (gTL_savedAs τ) (nI k) (nI (nb E k))).1.getD i 0 = _
              rw [put_eq (by omega) (by omega)]
              by_cases ei : i = k
              · subst ei
                rw [getD_set (by omega), e, if_pos rfl, if_pos (by omega)]
              · rw [getD_set_ne ei, n4 i hi, ite_n ei]
            · show nI (nb E k + 1) = _
              rw [nb_s, e, if_pos rfl]
          rw [s2, if_neg n10, if_pos (m2_lt (by omega)), nI_1, n5, nI_1]
          obtain ⟨τ', r1, r2, r3⟩ := ih (k + 1) _ (by omega) (by omega) hN'
          refine ⟨τ', r1, ?_, r3⟩
          rw [r2]
          simp only [fz, gTL_steps, gTL_savedAs, gTL_labels, gTL_letters, gTL_rowTold, gTL_savedRows, gTL_openRows, gTL_openParts, gTL_toldAt, gTL_numbers, gTL_remade, gTL_savedKinds, uTL_steps, uTL_savedAs, uTL_labels, uTL_letters, uTL_rowTold, uTL_savedRows, uTL_openRows, uTL_openParts, uTL_toldAt, uTL_numbers, uTL_remade, uTL_savedKinds, cap_put]
        · have e' : svF E k = false := by simpa using e
          rw [e', if_neg (by simp)] at s2
          rw [if_pos s2, if_pos (m2_lt (by omega)), nI_1]
          refine ih (k + 1) τ (by omega) (by omega) ⟨⟨n1, fun i hi => ?_⟩, ⟨n3, fun i hi => ?_⟩, ?_⟩
          · rw [n2 i hi]
            by_cases ei : i = k
            · subst ei
              rw [if_neg (Nat.lt_irrefl _), if_pos (by omega), e2, hsf, ht]
            · rw [ite_n ei]
          · rw [n4 i hi]
            by_cases ei : i = k
            · subst ei
              rw [e']; rfl
            · rw [ite_n ei]
          · rw [n5, nb_s, e']; rfl
      · obtain ⟨t1, t2, r, t3, t4⟩ := svF_tgt hG e1
        have e' := svF_ref hG e1
        have ht : tC rs (true, x, κ) = (-2) - nI x := rfl
        rw [e', if_neg (by simp)] at s2
        rw [ht, if_pos s2, if_neg (m2_nlt (by omega)), nI_1, m2_sub, il_at (by omega) (by omega), n4 x (by omega), t1, if_pos rfl, if_pos t2]
        have hN' : NC (uTL_steps τ (A_IL_put (gTL_steps τ) (nI k) ((-2) - nI (nb E x)))) rs E (k + 1) := by
          refine ⟨⟨?_, fun i hi => ?_⟩, ⟨n3, fun i hi => ?_⟩, ?_⟩
          · show (A_IL_put (gTL_steps τ) (nI k) ((-2) - nI (nb E x))).1.length = _
            rw [put_eq (by omega) (by omega)]; simpa using n1
          · show (A_IL_put (gTL_steps τ) (nI k) ((-2) - nI (nb E x))).1.getD i 0 = _
            rw [put_eq (by omega) (by omega)]
            by_cases ei : i = k
            · subst ei
              rw [getD_set (by omega), if_pos (by omega), e2]; rfl
            · rw [getD_set_ne ei, n2 i hi, ite_n ei]
          · show (gTL_savedAs τ).1.getD i 0 = _
            rw [n4 i hi]
            by_cases ei : i = k
            · subst ei
              rw [e']; rfl
            · rw [ite_n ei]
          · show gTL_savedRows τ = _
            rw [n5, nb_s, e']; rfl
        obtain ⟨τ', r1, r2, r3⟩ := ih (k + 1) _ (by omega) (by omega) hN'
        refine ⟨τ', r1, ?_, r3⟩
        rw [r2]
        simp only [fz, gTL_steps, gTL_savedAs, gTL_labels, gTL_letters, gTL_rowTold, gTL_savedRows, gTL_openRows, gTL_openParts, gTL_toldAt, gTL_numbers, gTL_remade, gTL_savedKinds, uTL_steps, uTL_savedAs, uTL_labels, uTL_letters, uTL_rowTold, uTL_savedRows, uTL_openRows, uTL_openParts, uTL_toldAt, uTL_numbers, uTL_remade, uTL_savedKinds, cap_put]
end SVD
