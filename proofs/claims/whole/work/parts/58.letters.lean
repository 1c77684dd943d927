/-! LEVEL B: letters -/
theorem turn_L : ∀ (n : Nat) (X t Y : List Int32) (c : Nat), t.length ≤ 2 * n + 1 → 1 ≤ X.length + t.length → X.length + t.length + Y.length < 2 ^ 30 → A_IL_turnL n (nI X.length) (nI (X.length + t.length - 1)) (X ++ t ++ Y, c) = (X ++ t.reverse ++ Y, c) := by
  intro n
  induction n with
  | zero =>
    intro X t Y c h1 h2 h3
    match t, h1 with
    | [], _ => rfl
    | [a], _ => rfl
  | succ n ih =>
    intro X t Y c h1 h2 h3
    rw [A_IL_turnL]
    match t with
    | [] =>
      simp only [List.length_nil, Nat.add_zero] at h2 h3 ⊢
      rw [if_pos ((nI_leI (by omega) (by omega)).mpr (by omega))]
      rfl
    | [a] =>
      simp only [List.length_cons, List.length_nil] at h2 h3 ⊢
      rw [if_pos ((nI_leI (by omega) (by omega)).mpr (by omega))]
      rfl
    | a :: b' :: t' =>
      obtain ⟨m, b, hm⟩ : ∃ m b, b' :: t' = m ++ [b] := ⟨(b' :: t').dropLast, (b' :: t').getLast (by simp), (List.dropLast_concat_getLast (by simp)).symm⟩
      rw [hm] at h1 h2 h3 ⊢
      simp only [List.length_cons, List.length_append, List.length_nil] at h1 h2 h3 ⊢
      rw [if_neg (fun h => by have := (nI_leI (by omega) (by omega)).mp h; omega)]
      have e0 : X.length + (m.length + (0 + 1) + 1) - 1 = X.length + (m.length + 1) := by omega
      rw [e0]
      have a1 : A_IL_at (X ++ a :: (m ++ [b]) ++ Y, c) (nI (X.length + (m.length + 1))) = b := by
        rw [il_at (by simp) (by simp; omega)]
        simp [List.getD_eq_getElem?_getD]
      have a2 : A_IL_at (X ++ a :: (m ++ [b]) ++ Y, c) (nI X.length) = a := by
        rw [il_at (by simp) (by simp; omega)]
        simp [List.getD_eq_getElem?_getD]
      have p1 : A_IL_put (X ++ a :: (m ++ [b]) ++ Y, c) (nI X.length) b = (X ++ b :: (m ++ [b]) ++ Y, c) := by
        refine Prod.ext ?_ (cap_put _ _ _)
        rw [put_eq (by simp) (by simp; omega)]
        simp [List.set_append_right]
      have p2 : A_IL_put (X ++ b :: (m ++ [b]) ++ Y, c) (nI (X.length + (m.length + 1))) a = ((X ++ [b]) ++ m ++ ([a] ++ Y), c) := by
        refine Prod.ext ?_ (cap_put _ _ _)
        rw [put_eq (by simp) (by simp; omega)]
        simp only [List.append_assoc, List.cons_append]
        rw [List.set_append_right _ _ (by omega), show X.length + (m.length + 1) - X.length = m.length + 1 by omega]
        simp [List.set_append_right]
      rw [a1, a2, p1, p2, nI_1, show X.length + (m.length + 1) = (X.length + m.length) + 1 by omega, nI_m1d]
      have key := ih (X ++ [b]) m ([a] ++ Y) c (by omega) (by simp; omega) (by simp; omega)
      simp only [List.length_append, List.length_cons, List.length_nil] at key
      rw [show X.length + (0 + 1) + m.length - 1 = X.length + m.length by omega, show X.length + (0 + 1) = X.length + 1 by omega] at key
      rw [key]
      simp
theorem turn_eq (X t : List Int32) (c : Nat) (h1 : 1 ≤ t.length) (h2 : X.length + t.length < 2 ^ 30) : A_IL_turnRound (X ++ t, c) (nI X.length) = (X ++ t.reverse, c) := by
  unfold A_IL_turnRound
  have e : nI (X ++ t).length - 1 = nI (X.length + t.length - 1) := by
    rw [List.length_append, show X.length + t.length = (X.length + t.length - 1) + 1 by omega, nI_sub1]
    congr 1
  show A_IL_turnL (((nI (X ++ t).length - 1).toInt - (nI X.length).toInt).toNat + 1) (nI X.length) (nI (X ++ t).length - 1) (X ++ t, c) = _
  rw [e, nI_toInt (by omega), nI_toInt (by omega)]
  have key := turn_L (((X.length + t.length - 1 : Nat) - (X.length : Nat) : Int).toNat + 1) X t [] c (by omega) (by omega) (by simpa using h2)
  simpa using key
/-- the i-th rest of a number -/
def itn (v : Int32) : Nat → Int32
  | 0 => v
  | i + 1 => (itn v i - 1) / 5
def hiLt (v : Int32) (m : Nat) : List Int32 := (List.range m).map (fun l => 85 + ((itn v l - 1) - (itn v l - 1) / 5 * 5))
theorem hiL_s (v : Int32) (m : Nat) : hiLt v (m + 1) = hiLt v m ++ [85 + ((itn v m - 1) - (itn v m - 1) / 5 * 5)] := by simp [hiLt, List.range_succ]
theorem hiL_len (v : Int32) (m : Nat) : (hiLt v m).length = m := by simp [hiLt]
def lowL (number : Int32) : Int32 := 65 + ((number - 1) - (number - 1) / 20 * 20)
def mmN (number : Int32) : Nat := if itn ((number - 1) / 20) 0 ≤ 0 then 0 else if itn ((number - 1) / 20) 1 ≤ 0 then 1 else if itn ((number - 1) / 20) 2 ≤ 0 then 2 else 3
def pLt (number : Int32) : List Int32 := (hiLt ((number - 1) / 20) (mmN number)).reverse ++ [lowL number]
theorem nI_div {a b : Nat} (ha : a < 2 ^ 31) (hb : b < 2 ^ 31) (h0 : 0 < b) : nI a / nI b = nI (a / b) := by
  apply Int32.toInt_inj.mp
  have hq : a / b ≤ a := Nat.div_le_self _ _
  rw [lg_idiv_nonneg (by rw [nI_toInt ha]; omega) (by rw [nI_toInt hb]; omega), nI_toInt ha, nI_toInt hb, nI_toInt (by omega)]
  rfl
theorem it_s {v : Int32} {i a : Nat} (h : itn v i = nI a) (h0 : 1 ≤ a) (ha : a < 2 ^ 31) : itn v (i + 1) = nI ((a - 1) / 5) := by
  rw [itn, h]
  obtain ⟨b, rfl⟩ : ∃ b, a = b + 1 := ⟨a - 1, by omega⟩
  rw [nI_sub1, show (5 : Int32) = nI 5 from rfl, nI_div (by omega) (by omega) (by omega)]
  rfl
theorem mm_ok {n : Nat} (h1 : 1 ≤ n) (h2 : n ≤ 2000) : mmN (nI n) ≤ 3 ∧ (∀ i, i < mmN (nI n) → ¬ itn ((nI n - 1) / 20) i ≤ 0) ∧ itn ((nI n - 1) / 20) (mmN (nI n)) ≤ 0 := by
  obtain ⟨b, rfl⟩ : ∃ b, n = b + 1 := ⟨n - 1, by omega⟩
  have e0 : itn ((nI (b + 1) - 1) / 20) 0 = nI (b / 20) := by
    rw [itn, nI_sub1, show (20 : Int32) = nI 20 from rfl, nI_div (by omega) (by omega) (by omega)]
  unfold mmN
  generalize (nI (b + 1) - 1) / 20 = v at e0 ⊢
  by_cases c0 : itn v 0 ≤ 0
  · simp only [if_pos c0]
    exact ⟨by omega, fun i hi => absurd hi (Nat.not_lt_zero _), c0⟩
  · have z0 : 1 ≤ b / 20 := by
      rw [e0] at c0
      have : ¬ b / 20 = 0 := fun h => c0 ((nI_le0 (by omega)).mpr h)
      omega
    have e1 := it_s e0 z0 (by omega)
    by_cases c1 : itn v 1 ≤ 0
    · simp only [if_neg c0, if_pos c1]
      refine ⟨by omega, fun i hi => ?_, c1⟩
      rw [show i = 0 by omega]; exact c0
    · have z1 : 1 ≤ (b / 20 - 1) / 5 := by
        rw [e1] at c1
        have : ¬ (b / 20 - 1) / 5 = 0 := fun h => c1 ((nI_le0 (by omega)).mpr h)
        omega
      have e2 := it_s e1 z1 (by omega)
      by_cases c2 : itn v 2 ≤ 0
      · simp only [if_neg c0, if_neg c1, if_pos c2]
        refine ⟨by omega, fun i hi => ?_, c2⟩
        rcases (show i = 0 ∨ i = 1 by omega) with rfl | rfl
        · exact c0
        · exact c1
      · have z2 : 1 ≤ ((b / 20 - 1) / 5 - 1) / 5 := by
          rw [e2] at c2
          have : ¬ ((b / 20 - 1) / 5 - 1) / 5 = 0 := fun h => c2 ((nI_le0 (by omega)).mpr h)
          omega
        have e3 := it_s e2 z2 (by omega)
        simp only [if_neg c0, if_neg c1, if_neg c2]
        refine ⟨by omega, fun i hi => ?_, ?_⟩
        · rcases (show i = 0 ∨ i = 1 ∨ i = 2 by omega) with rfl | rfl | rfl
          · exact c0
          · exact c1
          · exact c2
        · rw [e3]
          exact (nI_le0 (by omega)).mpr (by omega)
theorem pLt_len {n : Nat} (h1 : 1 ≤ n) (h2 : n ≤ 2000) : (pLt (nI n)).length ≤ 4 := by
  have := (mm_ok h1 h2).1
  unfold pLt
  simp only [List.length_append, List.length_reverse, hiL_len, List.length_cons, List.length_nil]
  omega
/-! the class lays a number -/
theorem an_L {v : Int32} {m : Nat} (hm : m ≤ 3) (h1 : ∀ i, i < m → ¬ itn v i ≤ 0) (h2 : itn v m ≤ 0) (first : Int32) : ∀ (n i : Nat) (τ : tLL), i ≤ m → m < i + n → τ.1.length ≤ 8000 + i → cB 8192 τ → ∃ c, A_LL_addNumber_L34 first n (itn v i) (nI i) τ = A_IL_turnRound (τ.1 ++ ((hiLt v m).drop i), c) first ∧ c ≤ 2 * 8192 := by
  intro n
  induction n with
  | zero => intro i τ h3 h4; omega
  | succ n ih =>
    intro i τ h3 h4 hl hc
    have e14 : ¬ (14 : Int32) ≤ nI i := by
      rw [show (14 : Int32) = nI 14 from rfl, nI_leI (by omega) (by omega)]; omega
    rw [A_LL_addNumber_L34, if_neg e14]
    by_cases c : i = m
    · subst c
      rw [if_pos h2, List.drop_of_length_le (by rw [hiL_len]; exact Nat.le_refl _), List.append_nil]
      exact ⟨τ.2, rfl, hc⟩
    · rw [if_neg (h1 i (by omega)), nI_1]
      obtain ⟨c', r1, r2⟩ := ih (i + 1) (A_IL_add τ (85 + ((itn v i - 1) - (itn v i - 1) / 5 * 5))) (by omega) (by omega) (by rw [add_eq]; simp; omega) (cB_add hc (by omega) _)
      refine ⟨c', ?_, r2⟩
      rw [show (itn v i - 1) / 5 = itn v (i + 1) from rfl] at r1 ⊢
      rw [r1, add_eq]
      have hd : (hiLt v m).drop i = (85 + ((itn v i - 1) - itn v (i + 1) * 5)) :: (hiLt v m).drop (i + 1) := by
        rw [List.drop_eq_getElem_cons (by rw [hiL_len]; omega)]
        congr 1
        simp [hiLt]
        rfl
      rw [hd]
      simp
theorem an_eq {x : tLL} {n : Nat} (h1 : 1 ≤ n) (h2 : n ≤ 2000) (hl : x.1.length ≤ 7990) (hc : cB 8192 x) : (A_LL_addNumber x (nI n)).1 = x.1 ++ pLt (nI n) ∧ cB 8192 (A_LL_addNumber x (nI n)) := by
  obtain ⟨m1, m2, m3⟩ := mm_ok h1 h2
  unfold A_LL_addNumber
  obtain ⟨c, r1, r2⟩ := an_L m1 m2 m3 (A_IL_length x) (M_LL_addNumber_L34 (A_IL_length x) ((nI n - 1) / 20) 0 (A_IL_add x (65 + ((nI n - 1) - (nI n - 1) / 20 * 20))) + 1) 0 (A_IL_add x (65 + ((nI n - 1) - (nI n - 1) / 20 * 20))) (Nat.zero_le _) (by
    have : M_LL_addNumber_L34 (A_IL_length x) ((nI n - 1) / 20) 0 (A_IL_add x (65 + ((nI n - 1) - (nI n - 1) / 20 * 20))) = 14 := rfl
    omega) (by rw [add_eq]; simp; omega) (cB_add hc (by omega) _)
  have e0 : itn ((nI n - 1) / 20) 0 = (nI n - 1) / 20 := rfl
  rw [e0, nI_0] at r1
  rw [r1, add_eq, List.drop_zero, List.append_assoc]
  have ht := turn_eq x.1 ([65 + ((nI n - 1) - (nI n - 1) / 20 * 20)] ++ hiLt ((nI n - 1) / 20) (mmN (nI n))) c (by simp) (by simp [hiL_len]; omega)
  show (A_IL_turnRound _ (nI x.1.length)).1 = _ ∧ cB 8192 (A_IL_turnRound _ (nI x.1.length))
  rw [ht]
  refine ⟨?_, r2⟩
  simp [pLt, lowL]
/-! the reference lays a number -/
def ltR (μ : tMD) (X : List Int32) : Prop := gMD_letterCount μ = nI X.length ∧ ∀ i, i < X.length → gMD_letters μ i = X.getD i 0
abbrev tFG : Type := (tFX × Int32 × (Nat → Int32) × (Nat → Int32) × Int32) × (Nat → Int32) × Int32
def fg (μ : tMD) : tFG := (flM μ, gMD_labels μ, gMD_labelCount μ)
theorem fg_letters (μ : tMD) (v : Nat → Int32) : fg (uMD_letters μ v) = fg μ := rfl
theorem fg_letterCount (μ : tMD) (v : Int32) : fg (uMD_letterCount μ v) = fg μ := rfl
theorem pl_eq {μ : tMD} {X : List Int32} (h : ltR μ X) (hl : X.length < 100000) (a b : Int32) : ∃ μ', A_MD_putLetter μ a b = some μ' ∧ fg μ' = fg μ ∧ ltR μ' (X ++ [a + b]) := by
  obtain ⟨h1, h2⟩ := h
  have g : ¬ (nI X.length < 0 ∨ 120000 ≤ X.length) := ng2 (by omega) (by omega)
  have z : (nI X.length).toNatClampNeg = X.length := nI_clamp (by omega)
  unfold A_MD_putLetter
  rw [h1, z, if_neg g]
  refine ⟨_, rfl, rfl, ?_, fun i hi => ?_⟩
  · simp only [gu_MD_letterCount_letterCount, gu_MD_letterCount_letters, h1, nI_1]
    simp
  · simp only [gu_MD_letters_letterCount, gu_MD_letters_letters]
    simp only [List.length_append, List.length_cons, List.length_nil] at hi
    by_cases e : i = X.length
    · subst e; rw [pk_us, getD_last]
    · rw [pk_un e, getD_app _ (by omega)]; exact h2 i (by omega)
section LYN
variable {number rest unit : Int32}
theorem ln_50 {σ : tMD} {k : Nat} (hk : k < 100) {rec39 : Int32 → tMD → Option tMD} : ∀ (n i : Nat), i ≤ k → k < i + n → A_MD_layNumber_L50 σ number rest unit (nI k) rec39 n (itn rest i) (nI i) = (A_MD_putLetter σ 85 ((itn rest k - 1) - (itn rest k - 1) / 5 * 5)).bind (fun T => rec39 (nI k + (-1)) T) := by
  intro n
  induction n with
  | zero => intro i h1 h2; omega
  | succ n ih =>
    intro i h1 h2
    rw [A_MD_layNumber_L50]
    by_cases c : i = k
    · subst c
      rw [if_pos ((nI_leI (by omega) (by omega)).mpr (Nat.le_refl _))]
    · rw [if_neg (fun h => by have := (nI_leI (by omega) (by omega)).mp h; omega), nI_1]
      exact ih (i + 1) (by omega) (by omega)
theorem ln_39 (F : Nat) (hF : F = fuelM) : ∀ (k n : Nat) (σ : tMD) (X : List Int32), k ≤ 50 → k < n → X.length + k < 90000 → ltR σ X → ∃ μ', A_MD_layNumber_L39 number rest unit n (dpI k) σ = some μ' ∧ fg μ' = fg σ ∧ ltR μ' (X ++ (hiLt rest k).reverse ++ [65 + ((number - unit) - (number - unit) / 20 * 20)]) := by
  intro k
  induction k with
  | zero =>
    intro n σ X h1 h2 h3 h4
    obtain ⟨n, rfl⟩ : ∃ m, n = m + 1 := ⟨n - 1, by omega⟩
    rw [A_MD_layNumber_L39]
    have : dpI 0 < 0 := by decide
    rw [if_pos this]
    obtain ⟨μ', r1, r2, r3⟩ := pl_eq h4 (by omega) 65 ((number - unit) - (number - unit) / 20 * 20)
    rw [r1]
    refine ⟨μ', rfl, r2, ?_⟩
    simpa [hiLt] using r3
  | succ k ih =>
    intro n σ X h1 h2 h3 h4
    obtain ⟨n, rfl⟩ : ∃ m, n = m + 1 := ⟨n - 1, by omega⟩
    rw [A_MD_layNumber_L39, dpI_s, if_neg (nI_pos (by omega)), ← hF]
    have key := ln_50 (σ := σ) (number := number) (rest := rest) (unit := unit) (k := k) (by omega) (rec39 := A_MD_layNumber_L39 number rest unit n) F 0 (Nat.zero_le _) (by rw [hF]; unfold fuelM; omega)
    have e0 : itn rest 0 = rest := rfl
    rw [e0, nI_0] at key
    rw [key]
    obtain ⟨μ1, r1, r2, r3⟩ := pl_eq h4 (by omega) 85 ((itn rest k - 1) - (itn rest k - 1) / 5 * 5)
    rw [r1]
    simp only [Option.bind_some]
    obtain ⟨μ', s1, s2, s3⟩ := ih n μ1 _ (by omega) (by omega) (by simp; omega) r3
    refine ⟨μ', s1, by rw [s2, r2], ?_⟩
    rw [hiL_s]
    simpa using s3
theorem ln_15 {σ : tMD} (F : Nat) (hF : F = fuelM) {m : Nat} (hm : m ≤ 3) (h1 : ∀ i, i < m → ¬ itn rest i ≤ 0) (h2 : itn rest m ≤ 0) : ∀ (n i : Nat), i ≤ m → m < i + n → A_MD_layNumber_L15 σ number rest n (nI i) unit (itn rest i) = A_MD_layNumber_L39 number rest unit F (nI m - 1) σ := by
  intro n
  induction n with
  | zero => intro i h3 h4; omega
  | succ n ih =>
    intro i h3 h4
    rw [A_MD_layNumber_L15, ← hF]
    by_cases c : i = m
    · subst c
      rw [if_pos h2]
    · rw [if_neg (h1 i (by omega)), nI_1]
      exact ih (i + 1) (by omega) (by omega)
end LYN
theorem ln_eq {μ : tMD} {X : List Int32} (h : ltR μ X) (hl : X.length ≤ 80000) {n : Nat} (h1 : 1 ≤ n) (h2 : n ≤ 2000) : ∃ μ', A_MD_layNumber μ (nI n) = some μ' ∧ fg μ' = fg μ ∧ ltR μ' (X ++ pLt (nI n)) := by
  obtain ⟨m1, m2, m3⟩ := mm_ok h1 h2
  unfold A_MD_layNumber
  generalize hF : fuelM = F
  have k1 := ln_15 (σ := μ) (number := nI n) (rest := (nI n - 1) / 20) (unit := 1) F hF.symm m1 m2 m3 F 0 (Nat.zero_le _) (by rw [← hF]; unfold fuelM; omega)
  have e0 : itn ((nI n - 1) / 20) 0 = (nI n - 1) / 20 := rfl
  rw [e0, nI_0] at k1
  have e1 : ∀ x : Int32, x - 1 = x + (-1) := fun x => by rw [Int32.sub_eq_add_neg]
  have e2 : nI (mmN (nI n)) - 1 = dpI (mmN (nI n)) := e1 _
  rw [k1, e2]
  obtain ⟨μ', r1, r2, r3⟩ := ln_39 (number := nI n) (rest := (nI n - 1) / 20) (unit := 1) F hF.symm (mmN (nI n)) F μ X (by omega) (by rw [← hF]; unfold fuelM; omega) (by omega) h
  refine ⟨μ', r1, r2, ?_⟩
  unfold pLt lowL
  rw [← List.append_assoc]; exact r3
