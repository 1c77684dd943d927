/-! LEVEL B: the saved rows, numbered by the reference -/
theorem nsr_eq {rs : tRS} {ks : List Nat} {E : List tE} {τ : tTL} {nk : Nat} (hG : GE rs ks E) (hE : E.length ≤ 2000) (hst : ∀ k r κ : Nat, E[k]? = some (false, r, κ) → rSt rs r < 2 ^ 30) (hT : CT τ rs ks nk [] E) (h0 : gTL_savedRows τ = 0) : ∃ τ' : tTL, A_TL_numberSavedRows τ = τ' ∧ fz τ' = fz τ ∧ NC τ' rs E E.length := by
  obtain ⟨-, h3, ⟨h4, h5⟩, -⟩ := hT
  unfold A_TL_numberSavedRows
  have hl : (gTL_steps τ).1.length = E.length := by rw [h3, List.length_map]
  refine nsr_L hG hE hst _ 0 τ (Nat.zero_le _) ?_ ⟨⟨hl, fun i hi => ?_⟩, ⟨h4, fun i hi => ?_⟩, ?_⟩
  · have : M_TL_numberSavedRows_L2 0 τ = E.length := by
      unfold M_TL_numberSavedRows_L2 A_IL_length
      rw [hl, nI_toInt (by omega), show (0 : Int32).toInt = 0 from rfl]
      omega
    rw [this]; omega
  · rw [if_neg (Nat.not_lt_zero _), h3]
    simp [List.getD_eq_getElem?_getD, hi]
  · rw [h5 i hi]
    by_cases c : svF E i = true
    · simp [c]
    · simp [c]
  · rw [h0, nb_0, nI_0]
theorem ns_end (m : Nat) {n : Nat} (hn : n ≤ 20000) {τ : tMD} (h : gMD_steps τ = nI n) : A_MD_numberSaved_L7 (m + 1) (nI n) τ = A_MD_numberSaved_L105 fuelM 0 τ := by
  rw [A_MD_numberSaved_L7]
  generalize fuelM = F
  rw [h, if_pos ((nI_leI (by omega) (by omega)).mpr (Nat.le_refl _))]
section NSM
variable {τ : tMD} {n k : Nat}
theorem ns_ref (m : Nat) (hn : n ≤ 20000) (hk : k < n) (h : gMD_steps τ = nI n) (h1 : gMD_toldStep τ k < 0) : A_MD_numberSaved_L7 (m + 1) (nI k) τ = A_MD_numberSaved_L7 m (nI (k + 1)) (uMD_saving τ (upd (gMD_saving τ) k 0)) := by
  rw [A_MD_numberSaved_L7]
  generalize fuelM = F
  have g : ¬ (nI k < 0 ∨ 26000 ≤ k) := ng2 (by omega) (by omega)
  have z : (nI k).toNatClampNeg = k := nI_clamp (by omega)
  rw [h, if_neg (fun h => by have := (nI_leI (by omega) (by omega)).mp h; omega)]
  simp only [z, if_neg g, if_pos h1, bnd, nar0, nI_1, gu_MD_saving_saving, pk_us, if_true]
theorem ns_leaf (m : Nat) (hn : n ≤ 20000) (hk : k < n) (h : gMD_steps τ = nI n) {s : Nat} (h1 : gMD_toldStep τ k = nI s) (hs : s < 1500) (h2 : gMD_takes τ s = 0) : A_MD_numberSaved_L7 (m + 1) (nI k) τ = A_MD_numberSaved_L7 m (nI (k + 1)) (uMD_saving τ (upd (gMD_saving τ) k 0)) := by
  rw [A_MD_numberSaved_L7]
  generalize fuelM = F
  have g : ¬ (nI k < 0 ∨ 26000 ≤ k) := ng2 (by omega) (by omega)
  have z : (nI k).toNatClampNeg = k := nI_clamp (by omega)
  have gs : ¬ (nI s < 0 ∨ 1500 ≤ s) := ng2 (by omega) (by omega)
  have zs : (nI s).toNatClampNeg = s := nI_clamp (by omega)
  have g0 : ¬ nI s < 0 := nI_pos (by omega)
  have t0 : (0 : Int32) ≤ 0 := by decide
  rw [h, if_neg (fun h => by have := (nI_leI (by omega) (by omega)).mp h; omega)]
  simp only [z, if_neg g, h1, if_neg g0, zs, if_neg gs, h2, if_pos t0, bnd, nar0, nI_1, gu_MD_saving_saving, pk_us, if_true]
theorem ns_not (m : Nat) (hn : n ≤ 20000) (hk : k < n) (h : gMD_steps τ = nI n) {s p o : Nat} (h1 : gMD_toldStep τ k = nI s) (hs : s < 1500) (h2 : gMD_takes τ s = nI p) (hp : 0 < p) (hp2 : p < 2 ^ 30) (h3 : gMD_stepRow τ k = nI o) (ho : o < 4000) (h4 : gMD_isSaved τ o = 0) : A_MD_numberSaved_L7 (m + 1) (nI k) τ = A_MD_numberSaved_L7 m (nI (k + 1)) (uMD_saving τ (upd (gMD_saving τ) k 0)) := by
  rw [A_MD_numberSaved_L7]
  generalize fuelM = F
  have g : ¬ (nI k < 0 ∨ 26000 ≤ k) := ng2 (by omega) (by omega)
  have z : (nI k).toNatClampNeg = k := nI_clamp (by omega)
  have gs : ¬ (nI s < 0 ∨ 1500 ≤ s) := ng2 (by omega) (by omega)
  have zs : (nI s).toNatClampNeg = s := nI_clamp (by omega)
  have g0 : ¬ nI s < 0 := nI_pos (by omega)
  have t0 : ¬ nI p ≤ 0 := fun e => by have := (nI_le0 (by omega)).mp e; omega
  have go : ¬ (nI o < 0 ∨ 4000 ≤ o) := ng2 (by omega) (by omega)
  have zo : (nI o).toNatClampNeg = o := nI_clamp (by omega)
  rw [h, if_neg (fun h => by have := (nI_leI (by omega) (by omega)).mp h; omega)]
  simp only [z, if_neg g, h1, if_neg g0, zs, if_neg gs, h2, if_neg t0, h3, zo, if_neg go, h4, if_true, bnd, nar0, nI_1, gu_MD_saving_saving, pk_us]
theorem ns_yes (m : Nat) (hn : n ≤ 20000) (hk : k < n) (h : gMD_steps τ = nI n) {s p o : Nat} (h1 : gMD_toldStep τ k = nI s) (hs : s < 1500) (h2 : gMD_takes τ s = nI p) (hp : 0 < p) (hp2 : p < 2 ^ 30) (h3 : gMD_stepRow τ k = nI o) (ho : o < 4000) (h4 : gMD_isSaved τ o = 1) : A_MD_numberSaved_L7 (m + 1) (nI k) τ = A_MD_numberSaved_L7 m (nI (k + 1)) (uMD_savedCount (uMD_savedNumber (uMD_saving τ (upd (gMD_saving τ) k 1)) (upd (gMD_savedNumber τ) o (gMD_savedCount τ))) (gMD_savedCount τ + 1)) := by
  rw [A_MD_numberSaved_L7]
  generalize fuelM = F
  have g : ¬ (nI k < 0 ∨ 26000 ≤ k) := ng2 (by omega) (by omega)
  have z : (nI k).toNatClampNeg = k := nI_clamp (by omega)
  have gs : ¬ (nI s < 0 ∨ 1500 ≤ s) := ng2 (by omega) (by omega)
  have zs : (nI s).toNatClampNeg = s := nI_clamp (by omega)
  have g0 : ¬ nI s < 0 := nI_pos (by omega)
  have t0 : ¬ nI p ≤ 0 := fun e => by have := (nI_le0 (by omega)).mp e; omega
  have go : ¬ (nI o < 0 ∨ 4000 ≤ o) := ng2 (by omega) (by omega)
  have zo : (nI o).toNatClampNeg = o := nI_clamp (by omega)
  have t1 : ¬ (1 : Int32) = 0 := n10
  rw [h, if_neg (fun h => by have := (nI_leI (by omega) (by omega)).mp h; omega)]
  simp only [z, if_neg g, h1, if_neg g0, zs, if_neg gs, h2, if_neg t0, h3, zo, if_neg go, h4, if_neg t1, bnd, nar1, nI_1, gu_MD_saving_saving, gu_MD_saving_savedNumber, gu_MD_stepRow_saving, gu_MD_stepRow_savedNumber, gu_MD_savedNumber_saving, gu_MD_savedNumber_savedNumber, gu_MD_savedCount_saving, gu_MD_savedCount_savedNumber, pk_us]
theorem n2_end (m : Nat) (hn : n ≤ 20000) (h : gMD_steps τ = nI n) : A_MD_numberSaved_L105 (m + 1) (nI n) τ = some τ := by
  rw [A_MD_numberSaved_L105, h, if_pos ((nI_leI (by omega) (by omega)).mpr (Nat.le_refl _))]
theorem n2_own (m : Nat) (hn : n ≤ 20000) (hk : k < n) (h : gMD_steps τ = nI n) {s : Nat} (h1 : gMD_toldStep τ k = nI s) (hs : s < 2 ^ 30) : A_MD_numberSaved_L105 (m + 1) (nI k) τ = A_MD_numberSaved_L105 m (nI (k + 1)) (uMD_toldStep τ (upd (gMD_toldStep τ) k (nI s))) := by
  have g : ¬ (nI k < 0 ∨ 26000 ≤ k) := ng2 (by omega) (by omega)
  have z : (nI k).toNatClampNeg = k := nI_clamp (by omega)
  have g0 : (0 : Int32) ≤ nI s := nI_pos' (by omega)
  rw [A_MD_numberSaved_L105, h, if_neg (fun h => by have := (nI_leI (by omega) (by omega)).mp h; omega)]
  simp only [z, if_neg g, h1, if_pos g0, bnd, nI_1]
theorem n2_ref (m : Nat) (hn : n ≤ 20000) (hk : k < n) (h : gMD_steps τ = nI n) {o : Nat} (h1 : gMD_toldStep τ k < 0) (h3 : gMD_stepRow τ k = nI o) (ho : o < 4000) : A_MD_numberSaved_L105 (m + 1) (nI k) τ = A_MD_numberSaved_L105 m (nI (k + 1)) (uMD_toldStep τ (upd (gMD_toldStep τ) k ((-2) - gMD_savedNumber τ o))) := by
  have g : ¬ (nI k < 0 ∨ 26000 ≤ k) := ng2 (by omega) (by omega)
  have z : (nI k).toNatClampNeg = k := nI_clamp (by omega)
  have go : ¬ (nI o < 0 ∨ 4000 ≤ o) := ng2 (by omega) (by omega)
  have zo : (nI o).toNatClampNeg = o := nI_clamp (by omega)
  have g0 : ¬ (0 : Int32) ≤ gMD_toldStep τ k := fun e => absurd (Int32.lt_of_lt_of_le h1 e) (by simp)
  rw [A_MD_numberSaved_L105, h, if_neg (fun h => by have := (nI_leI (by omega) (by omega)).mp h; omega)]
  simp only [z, if_neg g, if_neg g0, h3, zo, if_neg go, bnd, nI_1]
end NSM
section NSI
variable {j : Nat} {tk md : List Nat} {rs : tRS} {ks fk : List Nat} {kd : tRS} {sz : List Nat} {top : Nat} {E : List tE}
/-- every entry's kind is that of a row -/
theorem TI_row (h : GE rs ks E) {k : Nat} {b : Bool} {x κ : Nat} (hk : E[k]? = some (b, x, κ)) : ∃ r : Nat, r < rs.length ∧ κ = kOf ks r := by
  cases b
  · obtain ⟨h1, h2, -⟩ := h.1 k x κ hk
    exact ⟨x, h1, h2⟩
  · obtain ⟨-, r, h1, -⟩ := h.2 k x κ hk
    obtain ⟨h2, h3, -⟩ := h.1 x r κ h1
    exact ⟨r, h2, h3⟩
/-- the reference while its saved rows are numbered -/
def NmR (τ : tMD) (rs : tRS) (ks fk : List Nat) (E : List tE) (k k2 : Nat) : Prop :=
  gMD_steps τ = nI E.length ∧ (∀ i, i < E.length → gMD_toldStep τ i = (if i < k2 then sF rs E (E.getD i eD) else tR rs fk (E.getD i eD)) ∧ gMD_stepRow τ i = nI (fk.getD (E.getD i eD).2.2 0)) ∧
  (∀ r, r < rs.length → gMD_isSaved τ (fk.getD (kOf ks r) 0) = if svK E (kOf ks r) then 1 else 0) ∧
  (∀ i, i < k → gMD_saving τ i = if svF E i then 1 else 0) ∧ gMD_savedCount τ = nI (nb E k) ∧
  (∀ i r κ : Nat, i < k → E[i]? = some (false, r, κ) → svF E i = true → gMD_savedNumber τ (fk.getD κ 0) = nI (nb E i))
theorem nm_L7 (hW : WR j tk rs ks fk kd sz) (hI : TI rs ks top [] E) (hE : E.length ≤ 2000) (b1 : tk.length ≤ 512) (b2 : rs.length ≤ 600) (b3 : (paL rs).length ≤ 600) : ∀ (n k : Nat) (μ : tMD), k ≤ E.length → E.length < k + n → MB μ tk rs ks fk sz → NmR μ rs ks fk E k 0 → ∃ μ' : tMD, A_MD_numberSaved_L7 n (nI k) μ = A_MD_numberSaved_L105 fuelM 0 μ' ∧ fx μ' = fx μ ∧ NmR μ' rs ks fk E E.length 0 := by
  intro n
  induction n with
  | zero => intro k μ h1 h2; omega
  | succ n ih =>
    intro k μ h1 h2 hB hN
    have hN0 := hN
    obtain ⟨n1, n2, n3, n4, n5, n6⟩ := hN
    by_cases c : E.length ≤ k
    · have : k = E.length := by omega
      subst this
      exact ⟨μ, ns_end n (by omega) n1, rfl, hN0⟩
    · have hk : k < E.length := by omega
      have hG := hI.2.1
      have no : svF E k = false → A_MD_numberSaved_L7 (n + 1) (nI k) μ = A_MD_numberSaved_L7 n (nI (k + 1)) (uMD_saving μ (upd (gMD_saving μ) k 0)) → ∃ μ' : tMD, A_MD_numberSaved_L7 (n + 1) (nI k) μ = A_MD_numberSaved_L105 fuelM 0 μ' ∧ fx μ' = fx μ ∧ NmR μ' rs ks fk E E.length 0 := by
        intro e' he
        rw [he]
        obtain ⟨μ', r1, r2, r3⟩ := ih (k + 1) (uMD_saving μ (upd (gMD_saving μ) k 0)) (by omega) (by omega) (MB_fx hB (fx_saving μ _)) (by
          unfold NmR
          simp only [gu_MD_steps_saving, gu_MD_toldStep_saving, gu_MD_stepRow_saving, gu_MD_isSaved_saving, gu_MD_saving_saving, gu_MD_savedCount_saving, gu_MD_savedNumber_saving]
          refine ⟨n1, n2, n3, fun i hi => ?_, ?_, fun i r κ hi he hs => ?_⟩
          · by_cases ei : i = k
            · subst ei; rw [pk_us, e']; rfl
            · rw [pk_un ei]; exact n4 i (by omega)
          · rw [n5, nb_s, e']; rfl
          · by_cases ei : i = k
            · subst ei; rw [e'] at hs; exact absurd hs (by simp)
            · exact n6 i r κ (by omega) he hs)
        exact ⟨μ', r1, by rw [r2, fx_saving], r3⟩
      obtain ⟨t1, t2⟩ := n2 k hk
      rw [if_neg (Nat.not_lt_zero _)] at t1
      obtain ⟨b, x, κ, e1, e2⟩ := e_get hk
      obtain ⟨q, q1, q2⟩ := TI_row hG e1
      have hfk := fk_lt hW q1
      rw [e2] at t1 t2
      cases b
      · obtain ⟨g1, g2, -⟩ := hG.1 k x κ e1
        obtain ⟨v1, v2, v3⟩ := hW.2.1 x g1
        have t1' : gMD_toldStep μ k = nI (rSt rs x) := t1
        have t2' : gMD_stepRow μ k = nI (fk.getD κ 0) := t2
        have htk : gMD_takes μ (rSt rs x) = nI (nP rs x) := by rw [hB.2 _ v1, ← v2]; rfl
        have hle := rPa_len g1
        have so := svF_own hW hI e1
        by_cases p0 : nP rs x = 0
        · refine no (by rw [so]; simp [p0]) (ns_leaf n (by omega) hk n1 t1' (by omega) (by rw [htk, p0, nI_0]))
        · by_cases sk : svK E κ = true
          · have e' : svF E k = true := by rw [so, sk]; simp; omega
            rw [ns_yes n (by omega) hk n1 t1' (by omega) htk (by omega) (by unfold nP; omega) t2' (by rw [q2]; omega) (by rw [q2, n3 q q1, ← q2, sk, if_pos rfl])]
            obtain ⟨μ', r1, r2, r3⟩ := ih (k + 1) (uMD_savedCount (uMD_savedNumber (uMD_saving μ (upd (gMD_saving μ) k 1)) (upd (gMD_savedNumber μ) (fk.getD κ 0) (gMD_savedCount μ))) (gMD_savedCount μ + 1)) (by omega) (by omega) (MB_fx hB (by rw [fx_savedCount, fx_savedNumber, fx_saving])) (by
              unfold NmR
              simp only [gu_MD_steps_saving, gu_MD_steps_savedCount, gu_MD_steps_savedNumber, gu_MD_toldStep_saving, gu_MD_toldStep_savedCount, gu_MD_toldStep_savedNumber, gu_MD_stepRow_saving, gu_MD_stepRow_savedCount, gu_MD_stepRow_savedNumber, gu_MD_isSaved_saving, gu_MD_isSaved_savedCount, gu_MD_isSaved_savedNumber, gu_MD_saving_saving, gu_MD_saving_savedCount, gu_MD_saving_savedNumber, gu_MD_savedCount_saving, gu_MD_savedCount_savedCount, gu_MD_savedCount_savedNumber, gu_MD_savedNumber_saving, gu_MD_savedNumber_savedCount, gu_MD_savedNumber_savedNumber]
              refine ⟨n1, n2, n3, fun i hi => ?_, ?_, fun i r κ' hi he hs => ?_⟩
              · by_cases ei : i = k
                · subst ei; rw [pk_us, e']; rfl
                · rw [pk_un ei]; exact n4 i (by omega)
              · rw [n5, nI_1, nb_s, e', if_pos rfl]
              · by_cases ei : i = k
                · subst ei
                  rw [e1] at he
                  injection he with he; injection he with _ he; injection he with he1 he2
                  subst he2
                  rw [pk_us, n5]
                · obtain ⟨y1, y2, -⟩ := hG.1 i r κ' he
                  have sv := svF_own hW hI he
                  rw [hs] at sv
                  simp at sv
                  rw [pk_un (fun e => ei (by
                    rw [y2, q2] at e
                    have := fk_inj hW (kOf_lt hW y1) (kOf_lt hW q1) e
                    refine TI_uniq hI (κ := κ) (by rw [he, y2, this, ← q2]) e1 sv.1 (by omega)))]
                  exact n6 i r κ' (by omega) he hs)
            exact ⟨μ', r1, by rw [r2, fx_savedCount, fx_savedNumber, fx_saving], r3⟩
          · have sk' : svK E κ = false := by simpa using sk
            exact no (by rw [so, sk']; simp) (ns_not n (by omega) hk n1 t1' (by omega) htk (by omega) (by unfold nP; omega) t2' (by rw [q2]; omega) (by rw [q2, n3 q q1, ← q2, sk']; rfl))
      · have t1' : gMD_toldStep μ k = (-2) - nI (fk.getD κ 0) := t1
        exact no (svF_ref hG e1) (ns_ref n (by omega) hk n1 (by rw [t1', q2]; exact m2_neg (by omega)))
theorem nm_L105 (hW : WR j tk rs ks fk kd sz) (hI : TI rs ks top [] E) (hE : E.length ≤ 2000) (b1 : tk.length ≤ 512) (b2 : rs.length ≤ 600) : ∀ (n k : Nat) (μ : tMD), k ≤ E.length → E.length < k + n → NmR μ rs ks fk E E.length k → ∃ μ' : tMD, A_MD_numberSaved_L105 n (nI k) μ = some μ' ∧ fx μ' = fx μ ∧ NmR μ' rs ks fk E E.length E.length := by
  intro n
  induction n with
  | zero => intro k μ h1 h2; omega
  | succ n ih =>
    intro k μ h1 h2 hN
    have hN0 := hN
    obtain ⟨n1, n2, n3, n4, n5, n6⟩ := hN
    by_cases c : E.length ≤ k
    · have : k = E.length := by omega
      subst this
      exact ⟨μ, n2_end n (by omega) n1, rfl, hN0⟩
    · have hk : k < E.length := by omega
      have hG := hI.2.1
      have go : ∀ v : Int32, v = sF rs E (E.getD k eD) → ∃ μ' : tMD, A_MD_numberSaved_L105 n (nI (k + 1)) (uMD_toldStep μ (upd (gMD_toldStep μ) k v)) = some μ' ∧ fx μ' = fx μ ∧ NmR μ' rs ks fk E E.length E.length := by
        intro v hv
        obtain ⟨μ', r1, r2, r3⟩ := ih (k + 1) (uMD_toldStep μ (upd (gMD_toldStep μ) k v)) (by omega) (by omega) (by
          unfold NmR
          simp only [gu_MD_steps_toldStep, gu_MD_toldStep_toldStep, gu_MD_stepRow_toldStep, gu_MD_isSaved_toldStep, gu_MD_saving_toldStep, gu_MD_savedCount_toldStep, gu_MD_savedNumber_toldStep]
          refine ⟨n1, fun i hi => ⟨?_, (n2 i hi).2⟩, n3, n4, n5, n6⟩
          by_cases ei : i = k
          · subst ei; rw [pk_us, if_pos (by omega), hv]
          · rw [pk_un ei, ite_n ei]; exact (n2 i hi).1)
        exact ⟨μ', r1, by rw [r2, fx_toldStep], r3⟩
      obtain ⟨t1, t2⟩ := n2 k hk
      rw [if_neg (Nat.lt_irrefl _)] at t1
      obtain ⟨b, x, κ, e1, e2⟩ := e_get hk
      obtain ⟨q, q1, q2⟩ := TI_row hG e1
      have hfk := fk_lt hW q1
      rw [e2] at t1 t2
      cases b
      · obtain ⟨g1, g2, -⟩ := hG.1 k x κ e1
        obtain ⟨v1, v2, v3⟩ := hW.2.1 x g1
        have t1' : gMD_toldStep μ k = nI (rSt rs x) := t1
        rw [n2_own n (by omega) hk n1 t1' (by omega)]
        exact go _ (by rw [e2]; rfl)
      · have t1' : gMD_toldStep μ k = (-2) - nI (fk.getD κ 0) := t1
        have t2' : gMD_stepRow μ k = nI (fk.getD κ 0) := t2
        obtain ⟨u1, u2, r, u3, u4⟩ := svF_tgt hG e1
        rw [n2_ref n (by omega) hk n1 (by rw [t1', q2]; exact m2_neg (by omega)) t2' (by rw [q2]; omega)]
        refine go _ ?_
        have u5 := n6 x r κ (by omega) u3 u1
        rw [e2]
        show (-2) - gMD_savedNumber μ (fk.getD κ 0) = (-2) - nI (nb E x)
        rw [u5]
theorem nm_eq (hW : WR j tk rs ks fk kd sz) (hI : TI rs ks top [] E) (hE : E.length ≤ 2000) (b1 : tk.length ≤ 512) (b2 : rs.length ≤ 600) (b3 : (paL rs).length ≤ 600) {μ : tMD} (hB : MB μ tk rs ks fk sz) (hM : MT μ rs ks fk [] E) : ∃ μ' : tMD, A_MD_numberSaved μ = some μ' ∧ fx μ' = fx μ ∧ NmR μ' rs ks fk E E.length E.length := by
  obtain ⟨-, m2, m3, m4, m5⟩ := hM
  unfold A_MD_numberSaved bnd
  obtain ⟨μ1, r1, r2, r3⟩ := nm_L7 hW hI hE b1 b2 b3 fuelM 0 (uMD_savedCount μ 0) (Nat.zero_le _) (by unfold fuelM; omega) (MB_fx hB (fx_savedCount μ 0)) (by
    unfold NmR
    simp only [gu_MD_steps_savedCount, gu_MD_toldStep_savedCount, gu_MD_stepRow_savedCount, gu_MD_isSaved_savedCount, gu_MD_saving_savedCount, gu_MD_savedCount_savedCount, gu_MD_savedNumber_savedCount]
    refine ⟨m2, fun i hi => ⟨?_, (m3 i hi).2⟩, m5, fun i hi => absurd hi (Nat.not_lt_zero _), ?_, fun i r κ hi => absurd hi (Nat.not_lt_zero _)⟩
    · rw [if_neg (Nat.not_lt_zero _)]; exact (m3 i hi).1
    · rw [nb_0, nI_0])
  obtain ⟨μ2, s1, s2, s3⟩ := nm_L105 hW hI hE b1 b2 fuelM 0 μ1 (Nat.zero_le _) (by unfold fuelM; omega) r3
  rw [nI_0] at r1 s1
  exact ⟨μ2, r1.trans s1, by rw [s2, r2, fx_savedCount], s3⟩
end NSI
