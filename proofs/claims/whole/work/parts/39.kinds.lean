/-! LEVEL B: a kind is found by its signature -/
/-- the place of q among the first m of kd, looked for from above; -1: nowhere -/
def fdn (kd : tRS) (q : Nat × List Nat) : Nat → Int32
  | 0 => -1
  | m + 1 => if kd.getD m (0, []) = q then nI m else fdn kd q m
theorem fdn_none {kd : tRS} {q : Nat × List Nat} : ∀ {m : Nat}, (∀ a, a < m → kd.getD a (0, []) ≠ q) → fdn kd q m = -1
  | 0, _ => rfl
  | m + 1, h => by rw [fdn, if_neg (h m (by omega))]; exact fdn_none fun a ha => h a (by omega)
theorem fdn_some {kd : tRS} {q : Nat × List Nat} : ∀ {m a : Nat}, a < m → kd.getD a (0, []) = q → (∀ b, b < m → kd.getD b (0, []) = q → b = a) → fdn kd q m = nI a
  | 0, _, h, _, _ => absurd h (Nat.not_lt_zero _)
  | m + 1, a, h, h1, h2 => by
    rw [fdn]
    by_cases c : kd.getD m (0, []) = q
    · rw [if_pos c, h2 m (by omega) c]
    · rw [if_neg c]
      have ha : a ≠ m := fun e => c (e ▸ h1)
      exact fdn_some (by omega) h1 fun b hb => h2 b (by omega)
theorem fdn_cases {kd : tRS} {q : Nat × List Nat} : ∀ (m : Nat), (fdn kd q m = -1 ∧ ∀ a, a < m → kd.getD a (0, []) ≠ q) ∨ ∃ a, a < m ∧ kd.getD a (0, []) = q ∧ fdn kd q m = nI a
  | 0 => Or.inl ⟨rfl, fun a h => absurd h (Nat.not_lt_zero _)⟩
  | m + 1 => by
    rw [fdn]
    by_cases c : kd.getD m (0, []) = q
    · rw [if_pos c]; exact Or.inr ⟨m, by omega, c, rfl⟩
    · rw [if_neg c]
      rcases fdn_cases (kd := kd) (q := q) m with ⟨h1, h2⟩ | ⟨a, h1, h2, h3⟩
      · refine Or.inl ⟨h1, fun a ha => ?_⟩
        by_cases e : a = m
        · rw [e]; exact c
        · exact h2 a (by omega)
      · exact Or.inr ⟨a, by omega, h2, h3⟩
theorem dc_cons {l : List Nat} {k : Nat} (h : k < l.length) : l.drop k = l.getD k 0 :: l.drop (k + 1) := by
  rw [List.drop_eq_getElem_cons h]
  simp [List.getD_eq_getElem?_getD, h]
theorem bo_L {x : tIL} {l : List Nat} (h : lI x l) (hl : l.length < 2 ^ 30) (ρ : tRW) : ∀ (n k : Nat) (m : Int32), k ≤ l.length → l.length < k + n → A_RW_bucketOf_L6 x ρ n m (nI k) = mixL m (l.drop k) &&& 511 := by
  intro n
  induction n with
  | zero => intro k m h1 h2; omega
  | succ n ih =>
    intro k m h1 h2
    rw [A_RW_bucketOf_L6, lI_length h]
    by_cases c : l.length ≤ k
    · rw [if_pos ((nI_leI (by omega) (by omega)).mpr c), List.drop_eq_nil_of_le c]; rfl
    · rw [if_neg (fun h => c ((nI_leI (by omega) (by omega)).mp h)), nI_1, ih (k + 1) _ (by omega) (by omega), dc_cons (k := k) (by omega), mixL, lI_at h (by omega) (by omega)]
theorem meas_nat {a b : Nat} (ha : a < 2 ^ 31) (hb : b < 2 ^ 31) : ((nI a).toInt - (nI b).toInt).toNat = a - b := by
  rw [nI_toInt ha, nI_toInt hb]; omega
theorem bo_eq {x : tIL} {l : List Nat} (h : lI x l) (hl : l.length < 2 ^ 30) (ρ : tRW) {s k : Nat} (hk : k ≤ l.length) : A_RW_bucketOf ρ x (nI s) (nI k) = bkt (s, l.drop k) := by
  unfold A_RW_bucketOf M_RW_bucketOf_L6
  rw [lI_length h, meas_nat (by omega) (by omega)]
  exact bo_L h hl ρ _ k _ hk (by omega)
/-- what the search reads of the system's rows -/
def KL (ρ : tRW) (kd : tRS) : Prop :=
  A_RW_amountOfKinds ρ = nI kd.length ∧ kd.length < 2 ^ 30 ∧
  (∀ a, a < kd.length → A_RW_statementOf ρ (A_IL_at (gRW_firstOfKind ρ) (nI a)) = nI (kd.getD a (0, [])).1 ∧ (kd.getD a (0, [])).1 < 2 ^ 30 ∧ (∀ v ∈ (kd.getD a (0, [])).2, v < 2 ^ 30) ∧ ∀ k, k < (kd.getD a (0, [])).2.length → A_IL_at (gRW_partKinds ρ) (A_IL_at (gRW_starts ρ) (A_IL_at (gRW_firstOfKind ρ) (nI a)) + nI k) = nI ((kd.getD a (0, [])).2.getD k 0)) ∧
  (∀ a, a < kd.length → A_IL_at (gRW_olderKind ρ) (nI a) = lst kd (bkt (kd.getD a (0, []))) a) ∧ ∀ b : Int32, gRW_newestKind ρ (b &&& 511).toNatClampNeg = lst kd (b &&& 511) kd.length
theorem im_L {ρ : tRW} {x : tIL} {l p : List Nat} (h : lI x l) (hl : l.length < 2 ^ 30) (hv : ∀ v ∈ l, v < 2 ^ 30) (hpv : ∀ v ∈ p, v < 2 ^ 30) {start : Nat} (hs : start ≤ l.length) {R : Int32} (hp : p.length = l.length - start) (hR : ∀ k, k < p.length → A_IL_at (gRW_partKinds ρ) (A_IL_at (gRW_starts ρ) R + nI k) = nI (p.getD k 0)) : ∀ (n k : Nat), k ≤ p.length → p.length < k + n → A_RW_isMadeOf_L25 x ρ (nI start) R n (nI k) = if p.drop k = l.drop (start + k) then 1 else 0 := by
  intro n
  induction n with
  | zero => intro k h1 h2; omega
  | succ n ih =>
    intro k h1 h2
    rw [A_RW_isMadeOf_L25, lI_length h, pk_sub hs, ← hp]
    by_cases c : p.length ≤ k
    · rw [if_pos ((nI_leI (by omega) (by omega)).mpr c), List.drop_eq_nil_of_le c, List.drop_eq_nil_of_le (by omega)]; rfl
    · rw [if_neg (fun h => c ((nI_leI (by omega) (by omega)).mp h)), hR k (by omega), nI_add, lI_at h (by omega) (by omega), nI_1, ih (k + 1) (by omega) (by omega), dc_cons (l := p) (k := k) (by omega), dc_cons (l := l) (k := start + k) (by omega)]
      have e1 : p.getD k 0 < 2 ^ 30 := by
        rw [show p.getD k 0 = p[k]'(by omega) by simp [List.getD_eq_getElem?_getD, show k < p.length by omega]]
        exact hpv _ (List.getElem_mem _)
      have e2 : l.getD (start + k) 0 < 2 ^ 30 := by
        rw [show l.getD (start + k) 0 = l[start + k]'(by omega) by simp [List.getD_eq_getElem?_getD, show start + k < l.length by omega]]
        exact hv _ (List.getElem_mem _)
      by_cases c2 : p.getD k 0 = l.getD (start + k) 0
      · rw [if_pos (by rw [c2]), c2, show start + (k + 1) = start + k + 1 by omega]
        simp only [List.cons.injEq, true_and]
      · rw [if_neg (fun h => c2 ((nI_eq (by omega) (by omega)).mp h)), if_neg (by simp only [List.cons.injEq]; exact fun h => c2 h.1)]
theorem im_eq {ρ : tRW} {kd : tRS} (hK : KL ρ kd) {x : tIL} {l : List Nat} (h : lI x l) (hl : l.length < 2 ^ 30) (hv : ∀ v ∈ l, v < 2 ^ 30) {s start a : Nat} (hs : s < 2 ^ 30) (hst : start ≤ l.length) (ha : a < kd.length) (har : (kd.getD a (0, [])).1 = s → (kd.getD a (0, [])).2.length = l.length - start) : A_RW_isMadeOf ρ x (nI a) (nI s) (nI start) = if kd.getD a (0, []) = (s, l.drop start) then 1 else 0 := by
  obtain ⟨-, -, h3, -⟩ := hK
  obtain ⟨k1, k2, k3, k4⟩ := h3 a ha
  unfold A_RW_isMadeOf
  rw [k1]
  by_cases c : (kd.getD a (0, [])).1 = s
  · rw [if_pos (by rw [c])]
    have hp := har c
    have e : M_RW_isMadeOf_L25 x ρ (nI start) (A_IL_at (gRW_firstOfKind ρ) (nI a)) 0 + 1 = (l.length - start) + 1 := by
      unfold M_RW_isMadeOf_L25
      rw [lI_length h, pk_sub hst, ← nI_0, meas_nat (by omega) (by omega)]; rfl
    have key := im_L h hl hv k3 hst hp k4 (l.length - start + 1) 0 (by omega) (by omega)
    rw [nI_0] at key
    rw [e, key]
    simp only [List.drop_zero, Nat.add_zero]
    by_cases c2 : (kd.getD a (0, [])).2 = l.drop start
    · rw [if_pos c2, if_pos (Prod.ext c c2)]
    · rw [if_neg c2, if_neg (fun h => c2 (congrArg Prod.snd h))]
  · rw [if_neg (fun h => c ((nI_eq (by omega) (by omega)).mp h)), if_neg (fun h => c (congrArg Prod.fst h))]
theorem kmo_L {ρ : tRW} {kd : tRS} (hK : KL ρ kd) {x : tIL} {l : List Nat} (h : lI x l) (hl : l.length < 2 ^ 30) (hv : ∀ v ∈ l, v < 2 ^ 30) {s start : Nat} (hs : s < 2 ^ 30) (hst : start ≤ l.length) (har : ∀ a, a < kd.length → (kd.getD a (0, [])).1 = s → (kd.getD a (0, [])).2.length = l.length - start) : ∀ (m n seen : Nat), m ≤ kd.length → seen + m ≤ kd.length → m < n → A_RW_kindMadeOf_L17 x ρ (nI s) (nI start) n (lst kd (bkt (s, l.drop start)) m) (nI seen) = fdn kd (s, l.drop start) m := by
  have hK' := hK
  obtain ⟨k1, k2, -, k4, -⟩ := hK'
  intro m
  induction m with
  | zero =>
    intro n seen h1 h2 h3
    obtain ⟨n, rfl⟩ : ∃ z, n = z + 1 := ⟨n - 1, by omega⟩
    rw [A_RW_kindMadeOf_L17, lst, fdn]
    split <;> simp
  | succ m ih =>
    intro n seen h1 h2 h3
    rw [lst, fdn]
    by_cases c : bkt (kd.getD m (0, [])) = bkt (s, l.drop start)
    · rw [if_pos c]
      obtain ⟨n, rfl⟩ : ∃ z, n = z + 1 := ⟨n - 1, by omega⟩
      rw [A_RW_kindMadeOf_L17, k1, if_neg (by rw [nI_leI (by omega) (by omega)]; omega), if_neg (nI_m1 (by omega)), im_eq hK h hl hv hs hst (by omega) (har m (by omega))]
      by_cases c2 : kd.getD m (0, []) = (s, l.drop start)
      · rw [if_pos c2, if_pos c2, if_neg (by decide)]
      · rw [if_neg c2, if_neg c2, if_pos rfl, k4 m (by omega), c, nI_1]
        exact ih n (seen + 1) (by omega) (by omega) (by omega)
    · rw [if_neg c, if_neg (fun e => c (by rw [e]))]
      exact ih n seen (by omega) (by omega) (by omega)
/-- the kind of a signature, as the system finds it -/
theorem kmo_eq {ρ : tRW} {kd : tRS} (hK : KL ρ kd) {x : tIL} {l : List Nat} (h : lI x l) (hl : l.length < 2 ^ 30) (hv : ∀ v ∈ l, v < 2 ^ 30) {s start : Nat} (hs : s < 2 ^ 30) (hst : start ≤ l.length) (har : ∀ a, a < kd.length → (kd.getD a (0, [])).1 = s → (kd.getD a (0, [])).2.length = l.length - start) : A_RW_kindMadeOf ρ x (nI s) (nI start) = fdn kd (s, l.drop start) kd.length := by
  unfold A_RW_kindMadeOf
  rw [bo_eq h hl ρ hst]
  have e1 : gRW_newestKind ρ (bkt (s, l.drop start)).toNatClampNeg = lst kd (bkt (s, l.drop start)) kd.length := hK.2.2.2.2 (mixL (nI s) (l.drop start))
  rw [e1]
  have e2 : ∀ z : Int32, M_RW_kindMadeOf_L17 x ρ (nI s) (nI start) z 0 + 1 = kd.length + 1 := by
    intro z
    unfold M_RW_kindMadeOf_L17
    rw [hK.1, ← nI_0, meas_nat (by have := hK.2.1; omega) (by omega)]; rfl
  have key := kmo_L hK h hl hv hs hst har kd.length (kd.length + 1) 0 (Nat.le_refl _) (by omega) (by omega)
  rw [nI_0] at key
  rw [e2, key]
