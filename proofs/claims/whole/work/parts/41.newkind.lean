/-! LEVEL B: a new row's kind -/
theorem and_nI (b : Int32) : ∃ n : Nat, n < 512 ∧ b &&& 511 = nI n := pk_andE b (m := 511) 9 (by decide)
theorem and_inj {b c : Int32} (h : (b &&& 511).toNatClampNeg = (c &&& 511).toNatClampNeg) : b &&& 511 = c &&& 511 := by
  obtain ⟨n, hn, e1⟩ := and_nI b
  obtain ⟨m, hm, e2⟩ := and_nI c
  rw [e1, e2, nI_clamp (by omega), nI_clamp (by omega)] at h
  rw [e1, e2, h]
theorem lst_app {kd : tRS} {q : Nat × List Nat} {b : Int32} : ∀ {m : Nat}, m ≤ kd.length → lst (kd ++ [q]) b m = lst kd b m
  | 0, _ => rfl
  | m + 1, h => by
    rw [lst, lst, getD_appL (by omega), lst_app (by omega)]
/-- the chains behind a new kind -/
theorem chain_new {kd : tRS} {q : Nat × List Nat} {ok : tIL} {nk : Nat → Int32} (ho : ok.1.length = kd.length ∧ (∀ a, a < kd.length → ok.1.getD a 0 = lst kd (bkt (kd.getD a (0, []))) a) ∧ (∀ b : Int32, nk (b &&& 511).toNatClampNeg = lst kd (b &&& 511) kd.length)) :
    (A_IL_add ok (nk (bkt q).toNatClampNeg)).1.length = (kd ++ [q]).length ∧ (∀ a, a < (kd ++ [q]).length → (A_IL_add ok (nk (bkt q).toNatClampNeg)).1.getD a 0 = lst (kd ++ [q]) (bkt ((kd ++ [q]).getD a (0, []))) a) ∧ (∀ b : Int32, upd nk (bkt q).toNatClampNeg (nI kd.length) (b &&& 511).toNatClampNeg = lst (kd ++ [q]) (b &&& 511) (kd ++ [q]).length) := by
  obtain ⟨h1, h2, h3⟩ := ho
  have hq : nk (bkt q).toNatClampNeg = lst kd (bkt q) kd.length := h3 (mixL (nI q.1) q.2)
  refine ⟨by simp [A_IL_add, h1], fun a ha => ?_, fun b => ?_⟩
  · simp only [List.length_append, List.length_cons, List.length_nil] at ha
    show (ok.1 ++ [nk (bkt q).toNatClampNeg]).getD a 0 = _
    by_cases e : a = kd.length
    · subst e
      rw [getD_last, lst_app (Nat.le_refl _), ← h1, getD_last, hq, h1]
    · rw [getD_appL (by omega), getD_appL (by omega), h2 a (by omega), lst_app (by omega)]
  · have e : (kd ++ [q]).length = kd.length + 1 := by simp
    rw [e, lst, getD_last, lst_app (Nat.le_refl _)]
    by_cases c : bkt q = b &&& 511
    · rw [if_pos c, c, pk_us]
    · have hne : (b &&& 511).toNatClampNeg ≠ (bkt q).toNatClampNeg := fun h => c ((and_inj (b := b) (c := mixL (nI q.1) q.2) h).symm)
      rw [if_neg c, pk_un hne, h3]
/-- the kind that a signature gets, and the tables behind it -/
def kix (kd : tRS) (q : Nat × List Nat) : Nat := if fdn kd q kd.length = -1 then kd.length else (fdn kd q kd.length).toNatClampNeg
def kdN (kd : tRS) (q : Nat × List Nat) : tRS := if fdn kd q kd.length = -1 then kd ++ [q] else kd
def fkN (fk : List Nat) (n : Nat) (kd : tRS) (q : Nat × List Nat) : List Nat := if fdn kd q kd.length = -1 then fk ++ [n] else fk
theorem new_kind {X : tRW} {fk : List Nat} {kd : tRS} {st' of' pk' : List Nat} (hT : KT fk kd st' of' pk') (h1 : lI (gRW_firstOfKind X) fk) (h2 : lI (gRW_statements X) st') (h3 : lI (gRW_starts X) of') (h4 : lI (gRW_partKinds X) pk') (b1 : kd.length < 2000) (b2 : st'.length < 2 ^ 30) (b3 : of'.length < 2 ^ 30) (b4 : pk'.length < 2 ^ 30)
    (ho : (gRW_olderKind X).1.length = kd.length ∧ (∀ a, a < kd.length → (gRW_olderKind X).1.getD a 0 = lst kd (bkt (kd.getD a (0, []))) a) ∧ (∀ b : Int32, gRW_newestKind X (b &&& 511).toNatClampNeg = lst kd (b &&& 511) kd.length))
    (c1 : cB 2048 (gRW_firstOfKind X)) (c2 : cB 2048 (gRW_olderKind X)) {n start s : Nat} (hn : n < st'.length) (hns : st'.getD n 0 = s) (hs : s < 2 ^ 30) (hst : start ≤ pk'.length) (hv : ∀ v ∈ pk', v < 2 ^ 30) (har : ∀ a, a < kd.length → (kd.getD a (0, [])).1 = s → (kd.getD a (0, [])).2.length = pk'.length - start) :
    ∃ Y : tRW, A_RW_kindOfNewRow X (nI n) (nI start) = (nI (kix kd (s, pk'.drop start)), Y) ∧ (gRW_statements Y = gRW_statements X ∧ gRW_starts Y = gRW_starts X ∧ gRW_parts Y = gRW_parts X ∧ gRW_partKinds Y = gRW_partKinds X ∧ gRW_kinds Y = gRW_kinds X ∧ gRW_steps Y = gRW_steps X) ∧ lI (gRW_firstOfKind Y) (fkN fk n kd (s, pk'.drop start)) ∧
      ((gRW_olderKind Y).1.length = (kdN kd (s, pk'.drop start)).length ∧ (∀ a, a < (kdN kd (s, pk'.drop start)).length → (gRW_olderKind Y).1.getD a 0 = lst (kdN kd (s, pk'.drop start)) (bkt ((kdN kd (s, pk'.drop start)).getD a (0, []))) a) ∧ (∀ b : Int32, gRW_newestKind Y (b &&& 511).toNatClampNeg = lst (kdN kd (s, pk'.drop start)) (b &&& 511) (kdN kd (s, pk'.drop start)).length)) ∧ cB 2048 (gRW_firstOfKind Y) ∧ cB 2048 (gRW_olderKind Y) := by
  have hK := KL_of hT h1 h2 h3 h4 (by omega) b2 b3 b4 ho
  have est : A_RW_statementOf X (nI n) = nI s := by
    show A_IL_at (gRW_statements X) _ = _
    rw [lI_at h2 hn (by omega), hns]
  have ek := kmo_eq hK h4 b4 hv hs hst har
  have eb := bo_eq h4 b4 X (s := s) hst
  have en : A_RW_amountOfKinds X = nI kd.length := hK.1
  generalize hq : (s, pk'.drop start) = q at ek eb
  unfold A_RW_kindOfNewRow
  rw [est, ek, eb, en]
  by_cases c : fdn kd q kd.length = -1
  · rw [if_pos c]
    refine ⟨uRW_newestKind (uRW_olderKind (uRW_firstOfKind X (A_IL_add (gRW_firstOfKind X) (nI n))) (A_IL_add (gRW_olderKind X) (gRW_newestKind X (bkt q).toNatClampNeg))) (upd (gRW_newestKind X) (bkt q).toNatClampNeg (nI kd.length)), by unfold kix; rw [if_pos c], ⟨rfl, rfl, rfl, rfl, rfl, rfl⟩, ?_, ?_, ?_, ?_⟩
    · unfold fkN; rw [if_pos c]
      exact lI_add h1 n
    · unfold kdN; rw [if_pos c]
      exact chain_new ho
    · exact cB_add c1 (by rw [lI_len h1, hT.1]; omega) _
    · exact cB_add c2 (by rw [ho.1]; omega) _
  · rw [if_neg c]
    refine ⟨X, ?_, ⟨rfl, rfl, rfl, rfl, rfl, rfl⟩, ?_, ?_, c1, c2⟩
    · unfold kix; rw [if_neg c]
      rcases fdn_cases (kd := kd) (q := q) kd.length with h | ⟨a, ha, -, e⟩
      · exact absurd h.1 c
      · rw [e, nI_clamp (by omega)]
    · unfold fkN; rw [if_neg c]; exact h1
    · unfold kdN; rw [if_neg c]; exact ho
theorem kix_lt {kd : tRS} {q : Nat × List Nat} (hb : kd.length < 2 ^ 31) : kix kd q < (kdN kd q).length ∧ (kdN kd q).getD (kix kd q) (0, []) = q := by
  unfold kix kdN
  by_cases c : fdn kd q kd.length = -1
  · simp only [if_pos c]
    exact ⟨by simp, getD_last _ _ _⟩
  · simp only [if_neg c]
    rcases fdn_cases (kd := kd) (q := q) kd.length with h | ⟨a, ha, e1, e2⟩
    · exact absurd h.1 c
    · rw [e2, nI_clamp (by omega)]
      exact ⟨ha, e1⟩
theorem kdN_nodup {kd : tRS} {q : Nat × List Nat} (hb : kd.length < 2 ^ 31) (h : ∀ a b, a < kd.length → b < kd.length → kd.getD a (0, []) = kd.getD b (0, []) → a = b) : ∀ a b, a < (kdN kd q).length → b < (kdN kd q).length → (kdN kd q).getD a (0, []) = (kdN kd q).getD b (0, []) → a = b := by
  unfold kdN
  by_cases c : fdn kd q kd.length = -1
  · simp only [if_pos c]
    have hn : ∀ a, a < kd.length → kd.getD a (0, []) ≠ q := by
      rcases fdn_cases (kd := kd) (q := q) kd.length with h | ⟨a, ha, e1, e2⟩
      · exact h.2
      · exact absurd (e2.symm.trans c) (nI_m1 (by omega))
    intro a b ha hb' e
    simp only [List.length_append, List.length_cons, List.length_nil] at ha hb'
    by_cases h1 : a = kd.length
    · by_cases h2 : b = kd.length
      · omega
      · exfalso
        rw [h1, getD_last, getD_appL (by omega)] at e
        exact hn b (by omega) e.symm
    · by_cases h2 : b = kd.length
      · exfalso
        rw [h2, getD_last, getD_appL (by omega)] at e
        exact hn a (by omega) e
      · rw [getD_appL (by omega), getD_appL (by omega)] at e
        exact h a b (by omega) (by omega) e
  · simp only [if_neg c]
    exact h
