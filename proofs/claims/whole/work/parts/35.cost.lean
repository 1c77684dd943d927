/-! LEVEL B, COSTS: what an op costs, its lists' capacities grow by (twice) -/
theorem ku_add (x : tIL) (v : Int32) : K_IL_add x v + 2 * x.2 ≤ 2 * (A_IL_add x v).2 := by
  unfold K_IL_add A_IL_add
  by_cases h : x.1.length < x.2
  · simp only [if_pos h]; omega
  · simp only [if_neg h]; omega
theorem cap_put (x : tIL) (k v : Int32) : (A_IL_put x k v).2 = x.2 := by
  unfold A_IL_put
  split
  · rfl
  · split <;> rfl
theorem cap_cut (x : tIL) (k : Int32) : (A_IL_cut x k).2 = x.2 := by
  unfold A_IL_cut
  split
  · rfl
  · split <;> rfl
theorem ku_fillN (v : Int32) : ∀ (n : Nat) (x : tIL), K_IL_fillN v n x + 2 * x.2 ≤ 2 * (A_IL_fillN v n x).2
  | 0, x => by simp [K_IL_fillN, A_IL_fillN]
  | n + 1, x => by
    have h1 := ku_add x v
    have h2 := ku_fillN v n (A_IL_add x v)
    rw [K_IL_fillN, A_IL_fillN]
    omega
theorem ku_fill (x : tIL) (n v : Int32) : K_IL_fill x n v + 2 * x.2 ≤ 2 * (A_IL_fill x n v).2 := ku_fillN v _ ([], x.2)
theorem cap_turnL : ∀ (n : Nat) (lo hi : Int32) (x : tIL), (A_IL_turnL n lo hi x).2 = x.2
  | 0, _, _, _ => rfl
  | n + 1, lo, hi, x => by
    rw [A_IL_turnL]
    split
    · rfl
    · rw [cap_turnL n, cap_put, cap_put]
theorem cap_turn (x : tIL) (f : Int32) : (A_IL_turnRound x f).2 = x.2 := cap_turnL _ _ _ _
def cST (s : tST) : Nat := (gST_takings s).2 + (gST_places s).2
def cRW (r : tRW) : Nat := (gRW_statements r).2 + (gRW_starts r).2 + (gRW_parts r).2 + (gRW_partKinds r).2 + (gRW_kinds r).2 + (gRW_firstOfKind r).2 + (gRW_olderKind r).2 + (gRW_steps r).2
def cTL (t : tTL) : Nat := (gTL_steps t).2 + (gTL_savedAs t).2 + (gTL_labels t).2 + (gTL_letters t).2 + (gTL_openRows t).2 + (gTL_openParts t).2 + (gTL_toldAt t).2 + (gTL_numbers t).2 + (gTL_remade t).2 + (gTL_savedKinds t).2
def cPP (p : tPP) : Nat := cST (gPP_statements p) + cRW (gPP_rows p) + cTL (gPP_telling p) + (gPP_pile p).2
theorem ku_ST_add (s : tST) (n : Int32) : K_ST_add s n + 2 * cST s ≤ 2 * cST (A_ST_add s n).2 := by
  have h1 := ku_add (gST_takings s) n
  have h2 := ku_add (gST_places s) (-1)
  simp only [K_ST_add, A_ST_add, cST, gST_takings, gST_places, gST_mandatories, uST_takings, uST_places, uST_mandatories] at h1 h2 ⊢
  omega
theorem ku_ST_addM (s : tST) (i : Int32) : cST (A_ST_addMandatory s i).2 = cST s := by
  simp only [A_ST_addMandatory, cST, gST_takings, gST_places, gST_mandatories, uST_takings, uST_places, uST_mandatories, cap_put]
theorem ku_LL_addNumber_L (first : Int32) : ∀ (n : Nat) (left high : Int32) (t : tLL), K_LL_addNumber_L34 first n left high t + 2 * t.2 ≤ 2 * (A_LL_addNumber_L34 first n left high t).2
  | 0, _, _, _ => by simp [K_LL_addNumber_L34, A_LL_addNumber_L34]
  | n + 1, left, high, t => by
    rw [K_LL_addNumber_L34, A_LL_addNumber_L34]
    by_cases c1 : 14 ≤ high
    · simp only [if_pos c1, cap_turn]; omega
    · by_cases c2 : left ≤ 0
      · simp only [if_neg c1, if_pos c2, cap_turn]; omega
      · simp only [if_neg c1, if_neg c2]
        have h1 := ku_add t (85 + ((left - 1) - (left - 1) / 5 * 5))
        have h2 := ku_LL_addNumber_L first n ((left - 1) / 5) (high + 1) (A_IL_add t (85 + ((left - 1) - (left - 1) / 5 * 5)))
        omega
theorem ku_LL_addNumber (t : tLL) (v : Int32) : K_LL_addNumber t v + 2 * t.2 ≤ 2 * (A_LL_addNumber t v).2 := by
  unfold K_LL_addNumber A_LL_addNumber
  have h1 := ku_add t (65 + ((v - 1) - (v - 1) / 20 * 20))
  have h2 := ku_LL_addNumber_L (A_IL_length t) (M_LL_addNumber_L34 (A_IL_length t) ((v - 1) / 20) 0 (A_IL_add t (65 + ((v - 1) - (v - 1) / 20 * 20))) + 1) ((v - 1) / 20) 0 (A_IL_add t (65 + ((v - 1) - (v - 1) / 20 * 20)))
  omega
theorem ku_LL_addMark (t : tLL) : K_LL_addMark t + 2 * t.2 ≤ 2 * (A_LL_addMark t).2 := by
  have h1 := ku_add t 90
  simp only [K_LL_addMark, A_LL_addMark]
  omega
theorem cap_LL_forget (t : tLL) : (A_LL_forget t).2 = t.2 := cap_cut t 0
-- rows
theorem ku_RW_new (r : tRW) (a b : Int32) : K_RW_kindOfNewRow r a b + 2 * cRW r ≤ 2 * cRW (A_RW_kindOfNewRow r a b).2 := by
  unfold K_RW_kindOfNewRow A_RW_kindOfNewRow
  have h1 := ku_add (gRW_firstOfKind r) a
  have h2 := ku_add (gRW_olderKind r) ((gRW_newestKind r) (A_RW_bucketOf r (gRW_partKinds r) (A_RW_statementOf r a) b).toNatClampNeg)
  by_cases c : (A_RW_kindMadeOf r (gRW_partKinds r) (A_RW_statementOf r a) b) = (-1)
  · simp only [if_pos c, cRW, gRW_statements, gRW_starts, gRW_parts, gRW_partKinds, gRW_kinds, gRW_firstOfKind, gRW_olderKind, gRW_newestKind, gRW_steps, uRW_statements, uRW_starts, uRW_parts, uRW_partKinds, uRW_kinds, uRW_firstOfKind, uRW_olderKind, uRW_newestKind, uRW_steps] at h1 h2 ⊢; omega
  · simp only [if_neg c]; omega
theorem ku_RW_keep (r : tRW) (a : Int32) (v : Int64) : K_RW_keepSteps r a v + 2 * cRW r ≤ 2 * cRW (A_RW_keepSteps r a v) ∨ a < 0 ∨ 16777216 < (gRW_steps r).2 := by
  unfold K_RW_keepSteps A_RW_keepSteps
  by_cases c : a < nI (gRW_steps r).2
  · left
    simp only [if_pos c, cRW, gRW_statements, gRW_starts, gRW_parts, gRW_partKinds, gRW_kinds, gRW_firstOfKind, gRW_olderKind, gRW_newestKind, gRW_steps, uRW_statements, uRW_starts, uRW_parts, uRW_partKinds, uRW_kinds, uRW_firstOfKind, uRW_olderKind, uRW_newestKind, uRW_steps]; omega
  · by_cases h0 : a < 0
    · exact Or.inr (Or.inl h0)
    · by_cases h1 : 16777216 < (gRW_steps r).2
      · exact Or.inr (Or.inr h1)
      · left
        obtain ⟨j, hj, rfl⟩ := nI_of h0
        have h2 : (gRW_steps r).2 ≤ j := by
          rcases Nat.lt_or_ge j (gRW_steps r).2 with h | h
          · exact absurd (nI_lt h (by omega)) c
          · exact h
        simp only [if_neg c, cRW, gRW_statements, gRW_starts, gRW_parts, gRW_partKinds, gRW_kinds, gRW_firstOfKind, gRW_olderKind, gRW_newestKind, gRW_steps, uRW_statements, uRW_starts, uRW_parts, uRW_partKinds, uRW_kinds, uRW_firstOfKind, uRW_olderKind, uRW_newestKind, uRW_steps, nI_clamp hj] at h2 ⊢; omega
theorem cap_RW_forget (r : tRW) : cRW (A_RW_forget r) = cRW r := by
  simp only [A_RW_forget, cRW, gRW_statements, gRW_starts, gRW_parts, gRW_partKinds, gRW_kinds, gRW_firstOfKind, gRW_olderKind, gRW_newestKind, gRW_steps, uRW_statements, uRW_starts, uRW_parts, uRW_partKinds, uRW_kinds, uRW_firstOfKind, uRW_olderKind, uRW_newestKind, uRW_steps, cap_cut]
-- telling
theorem cap_TL_forget (t : tTL) : cTL (A_TL_forget t) = cTL t := by
  simp only [A_TL_forget, bnd, cTL, gTL_steps, gTL_savedAs, gTL_labels, gTL_letters, gTL_rowTold, gTL_savedRows, gTL_openRows, gTL_openParts, gTL_toldAt, gTL_numbers, gTL_remade, gTL_savedKinds, uTL_steps, uTL_savedAs, uTL_labels, uTL_letters, uTL_rowTold, uTL_savedRows, uTL_openRows, uTL_openParts, uTL_toldAt, uTL_numbers, uTL_remade, uTL_savedKinds, cap_cut, cap_LL_forget]
theorem ku_TL_opn (t : tTL) (r : Int32) : K_TL_opn t r + 2 * cTL t ≤ 2 * cTL (A_TL_opn t r) := by
  have h1 := ku_add (gTL_openRows t) r
  have h2 := ku_add (gTL_openParts t) 0
  simp only [K_TL_opn, A_TL_opn, cTL, gTL_steps, gTL_savedAs, gTL_labels, gTL_letters, gTL_rowTold, gTL_savedRows, gTL_openRows, gTL_openParts, gTL_toldAt, gTL_numbers, gTL_remade, gTL_savedKinds, uTL_steps, uTL_savedAs, uTL_labels, uTL_letters, uTL_rowTold, uTL_savedRows, uTL_openRows, uTL_openParts, uTL_toldAt, uTL_numbers, uTL_remade, uTL_savedKinds] at h1 h2 ⊢
  omega
theorem ku_TL_addStep (t : tTL) (r : Int32) : K_TL_addStep t r + 2 * cTL t ≤ 2 * cTL (A_TL_addStep t r) := by
  have h1 := ku_add (gTL_steps t) r
  have h2 := ku_add (gTL_savedAs t) (-1)
  simp only [K_TL_addStep, A_TL_addStep, cTL, gTL_steps, gTL_savedAs, gTL_labels, gTL_letters, gTL_rowTold, gTL_savedRows, gTL_openRows, gTL_openParts, gTL_toldAt, gTL_numbers, gTL_remade, gTL_savedKinds, uTL_steps, uTL_savedAs, uTL_labels, uTL_letters, uTL_rowTold, uTL_savedRows, uTL_openRows, uTL_openParts, uTL_toldAt, uTL_numbers, uTL_remade, uTL_savedKinds] at h1 h2 ⊢
  omega
theorem cap_sv (t : tTL) (k v : Int32) : cTL (uTL_savedAs t (A_IL_put (gTL_savedAs t) k v)) = cTL t := by simp only [cTL, gTL_steps, gTL_savedAs, gTL_labels, gTL_letters, gTL_rowTold, gTL_savedRows, gTL_openRows, gTL_openParts, gTL_toldAt, gTL_numbers, gTL_remade, gTL_savedKinds, uTL_steps, uTL_savedAs, uTL_labels, uTL_letters, uTL_rowTold, uTL_savedRows, uTL_openRows, uTL_openParts, uTL_toldAt, uTL_numbers, uTL_remade, uTL_savedKinds, cap_put]
theorem cap_op (t : tTL) (k v : Int32) : cTL (uTL_openParts t (A_IL_put (gTL_openParts t) k v)) = cTL t := by simp only [cTL, gTL_steps, gTL_savedAs, gTL_labels, gTL_letters, gTL_rowTold, gTL_savedRows, gTL_openRows, gTL_openParts, gTL_toldAt, gTL_numbers, gTL_remade, gTL_savedKinds, uTL_steps, uTL_savedAs, uTL_labels, uTL_letters, uTL_rowTold, uTL_savedRows, uTL_openRows, uTL_openParts, uTL_toldAt, uTL_numbers, uTL_remade, uTL_savedKinds, cap_put]
theorem cap_st (t : tTL) (k v : Int32) : cTL (uTL_steps t (A_IL_put (gTL_steps t) k v)) = cTL t := by simp only [cTL, gTL_steps, gTL_savedAs, gTL_labels, gTL_letters, gTL_rowTold, gTL_savedRows, gTL_openRows, gTL_openParts, gTL_toldAt, gTL_numbers, gTL_remade, gTL_savedKinds, uTL_steps, uTL_savedAs, uTL_labels, uTL_letters, uTL_rowTold, uTL_savedRows, uTL_openRows, uTL_openParts, uTL_toldAt, uTL_numbers, uTL_remade, uTL_savedKinds, cap_put]
theorem cap_sr (t : tTL) (v : Int32) : cTL (uTL_savedRows t v) = cTL t := by simp only [cTL, gTL_steps, gTL_savedAs, gTL_labels, gTL_letters, gTL_rowTold, gTL_savedRows, gTL_openRows, gTL_openParts, gTL_toldAt, gTL_numbers, gTL_remade, gTL_savedKinds, uTL_steps, uTL_savedAs, uTL_labels, uTL_letters, uTL_rowTold, uTL_savedRows, uTL_openRows, uTL_openParts, uTL_toldAt, uTL_numbers, uTL_remade, uTL_savedKinds]
theorem cap_rt (t : tTL) (v : Int32) : cTL (uTL_rowTold t v) = cTL t := by simp only [cTL, gTL_steps, gTL_savedAs, gTL_labels, gTL_letters, gTL_rowTold, gTL_savedRows, gTL_openRows, gTL_openParts, gTL_toldAt, gTL_numbers, gTL_remade, gTL_savedKinds, uTL_steps, uTL_savedAs, uTL_labels, uTL_letters, uTL_rowTold, uTL_savedRows, uTL_openRows, uTL_openParts, uTL_toldAt, uTL_numbers, uTL_remade, uTL_savedKinds]
theorem ku_TL_tellPart (t : tTL) (ss : tST) (rr : tRW) (r : Int32) : K_TL_tellPart t ss rr r + 2 * cTL t ≤ 2 * cTL (A_TL_tellPart t ss rr r) := by
  unfold K_TL_tellPart A_TL_tellPart
  simp only [bnd]
  have h1 := ku_TL_opn t r
  have h2 := ku_TL_addStep (uTL_savedAs t (A_IL_put (gTL_savedAs t) (A_IL_at (gTL_toldAt t) (A_RW_kindOf rr r)) 0)) ((-2) - (A_IL_at (gTL_toldAt t) (A_RW_kindOf rr r)))
  rw [cap_sv] at h2
  by_cases c1 : (A_IL_at (gTL_toldAt t) (A_RW_kindOf rr r)) = (-1)
  · simp only [if_pos c1]; omega
  · by_cases c2 : (A_RW_amountOfParts rr r) = 0
    · simp only [if_neg c1, if_pos c2]; omega
    · simp only [if_neg c1, if_neg c2]; omega
theorem ku_TL_tellSteps_L (ss : tST) (rr : tRW) : ∀ (n : Nat) (turn : Int32) (t : tTL), K_TL_tellSteps_L41 ss rr n turn t + 2 * cTL t ≤ 2 * cTL (A_TL_tellSteps_L41 ss rr n turn t)
  | 0, _, _ => by simp [K_TL_tellSteps_L41, A_TL_tellSteps_L41]
  | n + 1, turn, t => by
    rw [K_TL_tellSteps_L41, A_TL_tellSteps_L41]
    simp only [bnd]
    by_cases c1 : 1000000 ≤ turn
    · simp only [if_pos c1]; omega
    · by_cases c2 : (A_IL_length (gTL_openRows t)) ≤ 0
      · simp only [if_neg c1, if_pos c2]; omega
      · by_cases c3 : (A_RW_amountOfParts rr (A_IL_at (gTL_openRows t) ((A_IL_length (gTL_openRows t)) - 1))) ≤ (A_IL_at (gTL_openParts t) ((A_IL_length (gTL_openRows t)) - 1))
        · simp only [if_neg c1, if_neg c2, if_pos c3]
          generalize hX : uTL_toldAt (uTL_openParts (uTL_openRows t (A_IL_cut (gTL_openRows t) ((A_IL_length (gTL_openRows t)) - 1))) (A_IL_cut (gTL_openParts t) ((A_IL_length (gTL_openRows t)) - 1))) (A_IL_put (gTL_toldAt t) (A_RW_kindOf rr (A_IL_at (gTL_openRows t) ((A_IL_length (gTL_openRows t)) - 1))) (A_IL_length (gTL_steps t))) = X
          have hc : cTL X = cTL t := by rw [← hX]; simp only [cTL, gTL_steps, gTL_savedAs, gTL_labels, gTL_letters, gTL_rowTold, gTL_savedRows, gTL_openRows, gTL_openParts, gTL_toldAt, gTL_numbers, gTL_remade, gTL_savedKinds, uTL_steps, uTL_savedAs, uTL_labels, uTL_letters, uTL_rowTold, uTL_savedRows, uTL_openRows, uTL_openParts, uTL_toldAt, uTL_numbers, uTL_remade, uTL_savedKinds, cap_cut, cap_put]
          have h1 := ku_TL_addStep X (A_RW_statementOf rr (A_IL_at (gTL_openRows t) ((A_IL_length (gTL_openRows t)) - 1)))
          have h2 := ku_TL_tellSteps_L ss rr n (turn + 1) (A_TL_addStep X (A_RW_statementOf rr (A_IL_at (gTL_openRows t) ((A_IL_length (gTL_openRows t)) - 1))))
          omega
        · simp only [if_neg c1, if_neg c2, if_neg c3]
          generalize hX : uTL_openParts t (A_IL_put (gTL_openParts t) ((A_IL_length (gTL_openRows t)) - 1) ((A_IL_at (gTL_openParts t) ((A_IL_length (gTL_openRows t)) - 1)) + 1)) = X
          have hc : cTL X = cTL t := by rw [← hX]; exact cap_op t _ _
          have h1 := ku_TL_tellPart X ss rr (A_RW_part rr (A_IL_at (gTL_openRows t) ((A_IL_length (gTL_openRows t)) - 1)) (A_IL_at (gTL_openParts t) ((A_IL_length (gTL_openRows t)) - 1)))
          have h2 := ku_TL_tellSteps_L ss rr n (turn + 1) (A_TL_tellPart X ss rr (A_RW_part rr (A_IL_at (gTL_openRows t) ((A_IL_length (gTL_openRows t)) - 1)) (A_IL_at (gTL_openParts t) ((A_IL_length (gTL_openRows t)) - 1))))
          omega
theorem ku_TL_tellSteps (t : tTL) (ss : tST) (rr : tRW) : K_TL_tellSteps t ss rr + 2 * cTL t ≤ 2 * cTL (A_TL_tellSteps t ss rr) := by
  unfold K_TL_tellSteps A_TL_tellSteps
  simp only [bnd]
  have h1 := ku_fill (gTL_toldAt t) (A_RW_amountOfKinds rr) (-1)
  generalize hX : uTL_openParts (uTL_openRows (uTL_toldAt t (A_IL_fill (gTL_toldAt t) (A_RW_amountOfKinds rr) (-1))) (A_IL_cut (gTL_openRows t) 0)) (A_IL_cut (gTL_openParts t) 0) = X
  have hc : 2 * cTL X + 2 * (gTL_toldAt t).2 = 2 * cTL t + 2 * (A_IL_fill (gTL_toldAt t) (A_RW_amountOfKinds rr) (-1)).2 := by
    rw [← hX]; simp only [cTL, gTL_steps, gTL_savedAs, gTL_labels, gTL_letters, gTL_rowTold, gTL_savedRows, gTL_openRows, gTL_openParts, gTL_toldAt, gTL_numbers, gTL_remade, gTL_savedKinds, uTL_steps, uTL_savedAs, uTL_labels, uTL_letters, uTL_rowTold, uTL_savedRows, uTL_openRows, uTL_openParts, uTL_toldAt, uTL_numbers, uTL_remade, uTL_savedKinds, cap_cut]; omega
  have h2 := ku_TL_opn X (gTL_rowTold t)
  have h3 := ku_TL_tellSteps_L ss rr (M_TL_tellSteps_L41 ss rr 0 (A_TL_opn X (gTL_rowTold t)) + 1) 0 (A_TL_opn X (gTL_rowTold t))
  omega
theorem cap_TL_nsr_L : ∀ (n : Nat) (k : Int32) (t : tTL), cTL (A_TL_numberSavedRows_L2 n k t) = cTL t
  | 0, _, _ => rfl
  | n + 1, k, t => by
    rw [A_TL_numberSavedRows_L2]
    split
    · rfl
    · split
      · split
        · exact cap_TL_nsr_L n _ _
        · rw [cap_TL_nsr_L n, cap_st]
      · split
        · rw [cap_TL_nsr_L n, cap_sr, cap_sv]
        · rw [cap_TL_nsr_L n]
          simp only [cTL, gTL_steps, gTL_savedAs, gTL_labels, gTL_letters, gTL_rowTold, gTL_savedRows, gTL_openRows, gTL_openParts, gTL_toldAt, gTL_numbers, gTL_remade, gTL_savedKinds, uTL_steps, uTL_savedAs, uTL_labels, uTL_letters, uTL_rowTold, uTL_savedRows, uTL_openRows, uTL_openParts, uTL_toldAt, uTL_numbers, uTL_remade, uTL_savedKinds, cap_put]
theorem cap_TL_nsr (t : tTL) : cTL (A_TL_numberSavedRows t) = cTL t := cap_TL_nsr_L _ _ _
theorem ku_TL_non (t : tTL) (ss : tST) (rr : tRW) (i : Int32) : K_TL_numberOfNew t ss rr i + 2 * cTL t ≤ 2 * cTL (A_TL_numberOfNew t ss rr i).2 := by
  unfold K_TL_numberOfNew A_TL_numberOfNew
  have h1 := ku_add (gTL_labels t) i
  by_cases c1 : (A_ST_isMandatory ss i) = 0
  · simp only [if_pos c1, cTL, gTL_steps, gTL_savedAs, gTL_labels, gTL_letters, gTL_rowTold, gTL_savedRows, gTL_openRows, gTL_openParts, gTL_toldAt, gTL_numbers, gTL_remade, gTL_savedKinds, uTL_steps, uTL_savedAs, uTL_labels, uTL_letters, uTL_rowTold, uTL_savedRows, uTL_openRows, uTL_openParts, uTL_toldAt, uTL_numbers, uTL_remade, uTL_savedKinds] at h1 ⊢; omega
  · simp only [if_neg c1]; omega
theorem ku_TL_ns_L (ss : tST) (rr : tRW) : ∀ (n : Nat) (k : Int32) (t : tTL), K_TL_numberStatements_L17 ss rr n k t + 2 * cTL t ≤ 2 * cTL (A_TL_numberStatements_L17 ss rr n k t)
  | 0, _, _ => by simp [K_TL_numberStatements_L17, A_TL_numberStatements_L17]
  | n + 1, k, t => by
    rw [K_TL_numberStatements_L17, A_TL_numberStatements_L17]
    simp only [bnd]
    have h0 := ku_TL_ns_L ss rr n (k + 1) t
    by_cases c1 : (A_IL_length (gTL_steps t)) ≤ k
    · simp only [if_pos c1]; omega
    · by_cases c2 : (A_IL_at (gTL_steps t) k) ≤ (-2)
      · simp only [if_neg c1, if_pos c2]; omega
      · by_cases c3 : (A_IL_at (gTL_numbers t) (A_IL_at (gTL_steps t) k)) = (-1)
        · simp only [if_neg c1, if_neg c2, if_pos c3]
          have h1 := ku_TL_non t ss rr (A_IL_at (gTL_steps t) k)
          generalize A_TL_numberOfNew t ss rr (A_IL_at (gTL_steps t) k) = T at h1 ⊢
          have hc : cTL (uTL_numbers T.2 (A_IL_put (gTL_numbers T.2) (A_IL_at (gTL_steps t) k) T.1)) = cTL T.2 := by simp only [cTL, gTL_steps, gTL_savedAs, gTL_labels, gTL_letters, gTL_rowTold, gTL_savedRows, gTL_openRows, gTL_openParts, gTL_toldAt, gTL_numbers, gTL_remade, gTL_savedKinds, uTL_steps, uTL_savedAs, uTL_labels, uTL_letters, uTL_rowTold, uTL_savedRows, uTL_openRows, uTL_openParts, uTL_toldAt, uTL_numbers, uTL_remade, uTL_savedKinds, cap_put]
          have h2 := ku_TL_ns_L ss rr n (k + 1) (uTL_numbers T.2 (A_IL_put (gTL_numbers T.2) (A_IL_at (gTL_steps t) k) T.1))
          omega
        · simp only [if_neg c1, if_neg c2, if_neg c3]; omega
theorem ku_TL_ns (t : tTL) (ss : tST) (rr : tRW) : K_TL_numberStatements t ss rr + 2 * cTL t ≤ 2 * cTL (A_TL_numberStatements t ss rr) := by
  unfold K_TL_numberStatements A_TL_numberStatements
  have h1 := ku_fill (gTL_numbers t) (A_ST_amount ss) (-1)
  generalize hX : uTL_numbers t (A_IL_fill (gTL_numbers t) (A_ST_amount ss) (-1)) = X
  have hc : 2 * cTL X + 2 * (gTL_numbers t).2 = 2 * cTL t + 2 * (A_IL_fill (gTL_numbers t) (A_ST_amount ss) (-1)).2 := by
    rw [← hX]; simp only [cTL, gTL_steps, gTL_savedAs, gTL_labels, gTL_letters, gTL_rowTold, gTL_savedRows, gTL_openRows, gTL_openParts, gTL_toldAt, gTL_numbers, gTL_remade, gTL_savedKinds, uTL_steps, uTL_savedAs, uTL_labels, uTL_letters, uTL_rowTold, uTL_savedRows, uTL_openRows, uTL_openParts, uTL_toldAt, uTL_numbers, uTL_remade, uTL_savedKinds]; omega
  have h2 := ku_TL_ns_L ss rr (M_TL_numberStatements_L17 ss rr 0 X + 1) 0 X
  omega
theorem cap_le2 (t : tTL) (x : tLL) : cTL (uTL_letters t x) + (gTL_letters t).2 = cTL t + x.2 := by simp only [cTL, gTL_steps, gTL_savedAs, gTL_labels, gTL_letters, gTL_rowTold, gTL_savedRows, gTL_openRows, gTL_openParts, gTL_toldAt, gTL_numbers, gTL_remade, gTL_savedKinds, uTL_steps, uTL_savedAs, uTL_labels, uTL_letters, uTL_rowTold, uTL_savedRows, uTL_openRows, uTL_openParts, uTL_toldAt, uTL_numbers, uTL_remade, uTL_savedKinds]; omega
theorem ku_TL_tl_L (ss : tST) (rr : tRW) (b : Int32) : ∀ (n : Nat) (k : Int32) (t : tTL), K_TL_tellLetters_L20 ss rr b n k t + 2 * cTL t ≤ 2 * cTL (A_TL_tellLetters_L20 ss rr b n k t)
  | 0, _, _ => by simp [K_TL_tellLetters_L20, A_TL_tellLetters_L20]
  | n + 1, k, t => by
    have one : ∀ v : Int32, K_LL_addNumber (gTL_letters t) v + (if (A_TL_isSavedAt (uTL_letters t (A_LL_addNumber (gTL_letters t) v)) k) = 0 then K_TL_tellLetters_L20 ss rr b n (k + 1) (uTL_letters t (A_LL_addNumber (gTL_letters t) v)) else (K_LL_addMark (A_LL_addNumber (gTL_letters t) v)) + K_TL_tellLetters_L20 ss rr b n (k + 1) (uTL_letters (uTL_letters t (A_LL_addNumber (gTL_letters t) v)) (A_LL_addMark (A_LL_addNumber (gTL_letters t) v)))) + 2 * cTL t ≤ 2 * cTL (if (A_TL_isSavedAt (uTL_letters t (A_LL_addNumber (gTL_letters t) v)) k) = 0 then A_TL_tellLetters_L20 ss rr b n (k + 1) (uTL_letters t (A_LL_addNumber (gTL_letters t) v)) else A_TL_tellLetters_L20 ss rr b n (k + 1) (uTL_letters (uTL_letters t (A_LL_addNumber (gTL_letters t) v)) (A_LL_addMark (A_LL_addNumber (gTL_letters t) v)))) := by
      intro v
      have h1 := ku_LL_addNumber (gTL_letters t) v
      generalize A_LL_addNumber (gTL_letters t) v = x at h1 ⊢
      have e1 := cap_le2 t x
      by_cases c : (A_TL_isSavedAt (uTL_letters t x) k) = 0
      · simp only [if_pos c]
        have h2 := ku_TL_tl_L ss rr b n (k + 1) (uTL_letters t x)
        omega
      · simp only [if_neg c]
        have h3 := ku_LL_addMark x
        generalize A_LL_addMark x = y at h3 ⊢
        have e2 := cap_le2 (uTL_letters t x) y
        have e3 : (gTL_letters (uTL_letters t x)).2 = x.2 := rfl
        have h2 := ku_TL_tl_L ss rr b n (k + 1) (uTL_letters (uTL_letters t x) y)
        omega
    rw [K_TL_tellLetters_L20, A_TL_tellLetters_L20]
    simp only [bnd]
    by_cases c1 : (A_IL_length (gTL_steps t)) ≤ k
    · simp only [if_pos c1]; omega
    · by_cases c2 : (-2) < (A_IL_at (gTL_steps t) k)
      · simp only [if_neg c1, if_pos c2]
        exact one _
      · simp only [if_neg c1, if_neg c2]
        exact one _
theorem ku_TL_tl (t : tTL) (ss : tST) (rr : tRW) : K_TL_tellLetters t ss rr + 2 * cTL t ≤ 2 * cTL (A_TL_tellLetters t ss rr) := ku_TL_tl_L ss rr _ _ _ _
theorem ku_TL_tell (t : tTL) (ss : tST) (rr : tRW) (r : Int32) : K_TL_tell t ss rr r + 2 * cTL t ≤ 2 * cTL (A_TL_tell t ss rr r) := by
  unfold K_TL_tell A_TL_tell
  simp only [bnd]
  have e1 := cap_TL_forget t
  have e2 := cap_rt (A_TL_forget t) r
  have h1 := ku_TL_tellSteps (uTL_rowTold (A_TL_forget t) r) ss rr
  have e3 := cap_TL_nsr (A_TL_tellSteps (uTL_rowTold (A_TL_forget t) r) ss rr)
  have h2 := ku_TL_ns (A_TL_numberSavedRows (A_TL_tellSteps (uTL_rowTold (A_TL_forget t) r) ss rr)) ss rr
  have h3 := ku_TL_tl (A_TL_numberStatements (A_TL_numberSavedRows (A_TL_tellSteps (uTL_rowTold (A_TL_forget t) r) ss rr)) ss rr) ss rr
  omega

theorem cap_rm (t : tTL) (x : tIL) : cTL (uTL_remade t x) + (gTL_remade t).2 = cTL t + x.2 := by simp only [cTL, gTL_steps, gTL_savedAs, gTL_labels, gTL_letters, gTL_rowTold, gTL_savedRows, gTL_openRows, gTL_openParts, gTL_toldAt, gTL_numbers, gTL_remade, gTL_savedKinds, uTL_steps, uTL_savedAs, uTL_labels, uTL_letters, uTL_rowTold, uTL_savedRows, uTL_openRows, uTL_openParts, uTL_toldAt, uTL_numbers, uTL_remade, uTL_savedKinds]; omega
theorem cap_sk (t : tTL) (x : tIL) : cTL (uTL_savedKinds t x) + (gTL_savedKinds t).2 = cTL t + x.2 := by simp only [cTL, gTL_steps, gTL_savedAs, gTL_labels, gTL_letters, gTL_rowTold, gTL_savedRows, gTL_openRows, gTL_openParts, gTL_toldAt, gTL_numbers, gTL_remade, gTL_savedKinds, uTL_steps, uTL_savedAs, uTL_labels, uTL_letters, uTL_rowTold, uTL_savedRows, uTL_openRows, uTL_openParts, uTL_toldAt, uTL_numbers, uTL_remade, uTL_savedKinds]; omega
theorem ku_TL_mk_L (ss : tST) (rr : tRW) : ∀ (n : Nat) (k : Int32) (t : tTL), K_TL_makesItsRow_L28 ss rr n k t + 2 * cTL t ≤ 2 * cTL (A_TL_makesItsRow_L28 ss rr n k t).2
  | 0, _, _ => by simp [K_TL_makesItsRow_L28, A_TL_makesItsRow_L28]
  | n + 1, k, t => by
    rw [K_TL_makesItsRow_L28, A_TL_makesItsRow_L28]
    by_cases c1 : (A_IL_length (gTL_steps t)) ≤ k
    · simp only [if_pos c1]
      (repeat' split) <;> (dsimp only) <;> omega
    · by_cases c2 : 0 ≤ ((A_IL_length (gTL_remade t)) - (A_TL_rowsTakenAt t ss rr k))
      · generalize hu : (A_IL_length (gTL_remade t)) - (A_TL_rowsTakenAt t ss rr k) = under at c2 ⊢
        by_cases c3 : (A_TL_kindMadeAt t ss rr k under) = (-1)
        · simp only [if_neg c1, if_pos c2, if_pos c3]; omega
        · simp only [if_neg c1, if_pos c2, if_neg c3]
          generalize A_TL_kindMadeAt t ss rr k under = kd
          have h1 := ku_add (A_IL_cut (gTL_remade t) under) kd
          have e1 := cap_cut (gTL_remade t) under
          generalize hX : uTL_remade (uTL_remade t (A_IL_cut (gTL_remade t) under)) (A_IL_add (A_IL_cut (gTL_remade t) under) kd) = X
          have hc : cTL X + (gTL_remade t).2 = cTL t + (A_IL_add (A_IL_cut (gTL_remade t) under) kd).2 := by
            rw [← hX]; simp only [cTL, gTL_steps, gTL_savedAs, gTL_labels, gTL_letters, gTL_rowTold, gTL_savedRows, gTL_openRows, gTL_openParts, gTL_toldAt, gTL_numbers, gTL_remade, gTL_savedKinds, uTL_steps, uTL_savedAs, uTL_labels, uTL_letters, uTL_rowTold, uTL_savedRows, uTL_openRows, uTL_openParts, uTL_toldAt, uTL_numbers, uTL_remade, uTL_savedKinds]; omega
          have hs : gTL_savedKinds X = gTL_savedKinds t := by rw [← hX]; rfl
          by_cases c4 : (A_TL_isSavedAt X k) = 0
          · simp only [if_pos c4]
            have h2 := ku_TL_mk_L ss rr n (k + 1) X
            omega
          · simp only [if_neg c4]
            have h3 := ku_add (gTL_savedKinds t) kd
            have e3 := cap_sk X (A_IL_add (gTL_savedKinds t) kd)
            rw [hs] at e3
            have h2 := ku_TL_mk_L ss rr n (k + 1) (uTL_savedKinds X (A_IL_add (gTL_savedKinds t) kd))
            omega
      · simp only [if_neg c1, if_neg c2]; omega
theorem ku_TL_mk (t : tTL) (ss : tST) (rr : tRW) : K_TL_makesItsRow t ss rr + 2 * cTL t ≤ 2 * cTL (A_TL_makesItsRow t ss rr).2 := by
  unfold K_TL_makesItsRow A_TL_makesItsRow
  by_cases c1 : (gTL_rowTold t) = (-1)
  · simp only [if_pos c1]; omega
  · simp only [if_neg c1]
    generalize hX : uTL_savedKinds (uTL_remade t (A_IL_cut (gTL_remade t) 0)) (A_IL_cut (gTL_savedKinds t) 0) = X
    have hc : cTL X = cTL t := by rw [← hX]; simp only [cTL, gTL_steps, gTL_savedAs, gTL_labels, gTL_letters, gTL_rowTold, gTL_savedRows, gTL_openRows, gTL_openParts, gTL_toldAt, gTL_numbers, gTL_remade, gTL_savedKinds, uTL_steps, uTL_savedAs, uTL_labels, uTL_letters, uTL_rowTold, uTL_savedRows, uTL_openRows, uTL_openParts, uTL_toldAt, uTL_numbers, uTL_remade, uTL_savedKinds, cap_cut]
    have h := ku_TL_mk_L ss rr (M_TL_makesItsRow_L28 ss rr 0 X + 1) 0 X
    omega
theorem ku_RW_add_L (x : tIL) (st r start : Int32) (hr : ¬ r < 0) : ∀ (n : Nat) (k : Int32) (t : tRW), (gRW_steps t).2 ≤ 16777216 → K_RW_add_L18 x st r start n k t + 2 * cRW t ≤ 2 * cRW (A_RW_add_L18 x st r start n k t).2
  | 0, _, _, _ => by simp [K_RW_add_L18, A_RW_add_L18]
  | n + 1, k, t, hb => by
    rw [K_RW_add_L18, A_RW_add_L18]
    simp only [bnd]
    by_cases c1 : (A_IL_length x) ≤ k
    · simp only [if_pos c1]
      have h1 := ku_add (gRW_starts t) (A_IL_length (gRW_parts t))
      have h2 := ku_add (gRW_statements t) st
      generalize hX : uRW_statements (uRW_starts t (A_IL_add (gRW_starts t) (A_IL_length (gRW_parts t)))) (A_IL_add (gRW_statements t) st) = X
      have hc : 2 * cRW X + 2 * (gRW_starts t).2 + 2 * (gRW_statements t).2 = 2 * cRW t + 2 * (A_IL_add (gRW_starts t) (A_IL_length (gRW_parts t))).2 + 2 * (A_IL_add (gRW_statements t) st).2 := by
        rw [← hX]; simp only [cRW, gRW_statements, gRW_starts, gRW_parts, gRW_partKinds, gRW_kinds, gRW_firstOfKind, gRW_olderKind, gRW_newestKind, gRW_steps, uRW_statements, uRW_starts, uRW_parts, uRW_partKinds, uRW_kinds, uRW_firstOfKind, uRW_olderKind, uRW_newestKind, uRW_steps]; omega
      have hcs : (gRW_steps X).2 = (gRW_steps t).2 := by rw [← hX]; rfl
      have h3 := ku_RW_new X r start
      have hcs2 : (gRW_steps (A_RW_kindOfNewRow X r start).2).2 = (gRW_steps X).2 := by
        unfold A_RW_kindOfNewRow
        split <;> rfl
      generalize A_RW_kindOfNewRow X r start = Y at h3 hcs2 ⊢
      have h4 := ku_add (gRW_kinds Y.2) Y.1
      generalize hZ : uRW_kinds Y.2 (A_IL_add (gRW_kinds Y.2) Y.1) = Z
      have hd : 2 * cRW Z + 2 * (gRW_kinds Y.2).2 = 2 * cRW Y.2 + 2 * (A_IL_add (gRW_kinds Y.2) Y.1).2 := by
        rw [← hZ]; simp only [cRW, gRW_statements, gRW_starts, gRW_parts, gRW_partKinds, gRW_kinds, gRW_firstOfKind, gRW_olderKind, gRW_newestKind, gRW_steps, uRW_statements, uRW_starts, uRW_parts, uRW_partKinds, uRW_kinds, uRW_firstOfKind, uRW_olderKind, uRW_newestKind, uRW_steps]; omega
      have hcs3 : (gRW_steps Z).2 = (gRW_steps Y.2).2 := by rw [← hZ]; rfl
      rcases ku_RW_keep Z r (A_RW_countSteps Z r) with h5 | h5 | h5
      · omega
      · exact absurd h5 hr
      · omega
    · simp only [if_neg c1]
      have h1 := ku_add (gRW_parts t) (A_IL_at x k)
      generalize hX : uRW_parts t (A_IL_add (gRW_parts t) (A_IL_at x k)) = X
      have hc : 2 * cRW X + 2 * (gRW_parts t).2 = 2 * cRW t + 2 * (A_IL_add (gRW_parts t) (A_IL_at x k)).2 := by
        rw [← hX]; simp only [cRW, gRW_statements, gRW_starts, gRW_parts, gRW_partKinds, gRW_kinds, gRW_firstOfKind, gRW_olderKind, gRW_newestKind, gRW_steps, uRW_statements, uRW_starts, uRW_parts, uRW_partKinds, uRW_kinds, uRW_firstOfKind, uRW_olderKind, uRW_newestKind, uRW_steps]; omega
      have hcs : (gRW_steps X).2 = (gRW_steps t).2 ∧ (gRW_partKinds X) = gRW_partKinds t := by rw [← hX]; exact ⟨rfl, rfl⟩
      have h2 := ku_add (gRW_partKinds t) (A_RW_kindOf X (A_IL_at x k))
      generalize hZ : uRW_partKinds X (A_IL_add (gRW_partKinds t) (A_RW_kindOf X (A_IL_at x k))) = Z
      have hd : 2 * cRW Z + 2 * (gRW_partKinds t).2 = 2 * cRW X + 2 * (A_IL_add (gRW_partKinds t) (A_RW_kindOf X (A_IL_at x k))).2 := by
        rw [← hZ, ← hcs.2]; simp only [cRW, gRW_statements, gRW_starts, gRW_parts, gRW_partKinds, gRW_kinds, gRW_firstOfKind, gRW_olderKind, gRW_newestKind, gRW_steps, uRW_statements, uRW_starts, uRW_parts, uRW_partKinds, uRW_kinds, uRW_firstOfKind, uRW_olderKind, uRW_newestKind, uRW_steps]; omega
      have hcs3 : (gRW_steps Z).2 = (gRW_steps X).2 := by rw [← hZ]; rfl
      have h3 := ku_RW_add_L x st r start hr n (k + 1) Z (by omega)
      omega
theorem ku_RW_add (t : tRW) (x : tIL) (st under : Int32) (hl : (gRW_statements t).1.length < 2 ^ 31) (hb : (gRW_steps t).2 ≤ 16777216) : K_RW_add t x st under + 2 * cRW t ≤ 2 * cRW (A_RW_add t x st under).2 :=
  ku_RW_add_L x st _ _ (show ¬ nI (gRW_statements t).1.length < 0 from nI_pos hl) _ _ t hb
