/-! LEVEL B: check -/
theorem kd_ar {j : Nat} {tk : List Nat} {rs : tRS} {ks fk : List Nat} {kd : tRS} {sz : List Nat} (hW : WR j tk rs ks fk kd sz) {a s : Nat} (ha : a < kd.length) (h : (kd.getD a (0, [])).1 = s) : (kd.getD a (0, [])).2.length = tk.getD s 0 := by
  obtain ⟨h1, h2⟩ := hW.2.2.2.2.2.2.2.1 a ha
  have h3 := (hW.2.2.2.2.2.1 _ h1).2.1
  rw [h2] at h3
  have h4 := (hW.2.1 _ h1).2.1
  rw [h3] at h ⊢
  have h5 : rSt rs (fk.getD a 0) = s := h
  rw [← h5, ← h4]
  simp [sig, rPa]
theorem take_s {E : List tE} {k : Nat} {e : tE} (h : E[k]? = some e) : E.take (k + 1) = E.take k ++ [e] := by
  obtain ⟨h1, h2⟩ := List.getElem?_eq_some_iff.mp h
  rw [List.take_succ_eq_append_getElem h1, h2]
theorem stk_len (rs : tRS) (E : List tE) : ∀ k, (stk rs (E.take k)).length ≤ k
  | 0 => by simp [stk]
  | k + 1 => by
    have ih := stk_len rs E k
    by_cases h : k < E.length
    · obtain ⟨b, x, κ, e1, -⟩ := e_get h
      rw [take_s e1, stk_app]
      unfold stp
      split
      · simp only [List.length_append, List.length_cons, List.length_nil]; omega
      · simp only [List.length_append, List.length_cons, List.length_nil, List.length_take]; omega
    · rw [List.take_of_length_le (by omega)] at ih ⊢
      omega
/-- the kinds of the steps saved before k -/
def sKd (E : List tE) : Nat → List Nat
  | 0 => []
  | k + 1 => if svF E k then sKd E k ++ [(E.getD k eD).2.2] else sKd E k
theorem sK_len (E : List tE) : ∀ k, (sKd E k).length = nb E k
  | 0 => rfl
  | k + 1 => by
    have ih := sK_len E k
    rw [sKd, nb_s]
    by_cases c : svF E k = true
    · rw [c, if_pos rfl, if_pos rfl]; simp [ih]
    · rw [if_neg c, if_neg c, ih]; rfl
theorem sK_get {E : List tE} {f : Nat} (hf : svF E f = true) : ∀ k, f < k → (sKd E k).getD (nb E f) 0 = (E.getD f eD).2.2 ∧ nb E f < nb E k := by
  intro k
  induction k with
  | zero => intro h; omega
  | succ k ih =>
    intro h
    have hl := sK_len E k
    rw [sKd, nb_s]
    by_cases c : f = k
    · subst c
      rw [hf, if_pos rfl, if_pos rfl, ← hl, getD_last]
      exact ⟨rfl, by omega⟩
    · obtain ⟨i1, i2⟩ := ih (by omega)
      by_cases d : svF E k = true
      · rw [d, if_pos rfl, if_pos rfl, getD_app _ (by omega)]
        exact ⟨i1, by omega⟩
      · rw [if_neg d, if_neg d]
        exact ⟨i1, by omega⟩
def fm (τ : tTL) : tIL × tIL × tIL × tLL × Int32 × Int32 × tIL × tIL × tIL × tIL := (gTL_steps τ, gTL_savedAs τ, gTL_labels τ, gTL_letters τ, gTL_rowTold τ, gTL_savedRows τ, gTL_numbers τ, gTL_openRows τ, gTL_openParts τ, gTL_toldAt τ)
theorem fm_out {a b : tTL} (h : fm a = fm b) : gTL_steps a = gTL_steps b ∧ gTL_savedAs a = gTL_savedAs b ∧ gTL_labels a = gTL_labels b ∧ gTL_letters a = gTL_letters b ∧ gTL_rowTold a = gTL_rowTold b ∧ gTL_savedRows a = gTL_savedRows b ∧ gTL_numbers a = gTL_numbers b ∧ gTL_openRows a = gTL_openRows b ∧ gTL_openParts a = gTL_openParts b ∧ gTL_toldAt a = gTL_toldAt b := by
  unfold fm at h
  simp only [Prod.mk.injEq] at h
  exact h
section CHK
variable {j : Nat} {tk md : List Nat} {rs : tRS} {ks fk : List Nat} {kd : tRS} {sz : List Nat} {top : Nat} {E : List tE} {ρ : tRW} {ss : tST}
theorem stk_mem (hW : WR j tk rs ks fk kd sz) (hG : GE rs ks E) : ∀ k, ∀ v ∈ stk rs (E.take k), v < kd.length
  | 0, v, hv => by simp [stk] at hv
  | k + 1, v, hv => by
    have ih := stk_mem hW hG k
    by_cases h : k < E.length
    · obtain ⟨b, x, κ, e1, -⟩ := e_get h
      obtain ⟨r, r1, r2⟩ := TI_row hG e1
      rw [take_s e1, stk_app] at hv
      unfold stp at hv
      have hκ : κ < kd.length := by rw [r2]; exact kOf_lt hW r1
      split at hv
      · rcases List.mem_append.mp hv with h | h
        · exact ih v h
        · have : v = κ := by simpa using h
          omega
      · rcases List.mem_append.mp hv with h | h
        · exact ih v (List.mem_of_mem_take h)
        · have : v = κ := by simpa using h
          omega
    · rw [List.take_of_length_le (by omega)] at ih hv
      exact ih v hv
theorem mir_L (hCS : CS ss tk md) (hC : CR ρ rs ks fk kd sz) (hW : WR j tk rs ks fk kd sz) (b1 : tk.length ≤ 512) (b2 : rs.length ≤ 600) (b3 : (paL rs).length ≤ 600) (b4 : kd.length ≤ 600) (ht : top < rs.length) (hG : GE rs ks E) (hE : E.length ≤ 610) (hT : stk rs E = [kOf ks top]) : ∀ (n k : Nat) (τ : tTL), k ≤ E.length → E.length < k + n → gTL_rowTold τ = nI top → NC τ rs E E.length → lI (gTL_remade τ) (stk rs (E.take k)) → lI (gTL_savedKinds τ) (sKd E k) → cB 2048 (gTL_remade τ) → cB 2048 (gTL_savedKinds τ) → ∃ τ' : tTL, A_TL_makesItsRow_L28 ss ρ n (nI k) τ = (1, τ') ∧ fm τ' = fm τ ∧ ((gTL_remade τ').1.length < 2 ^ 31 ∧ (gTL_savedKinds τ').1.length < 2 ^ 31) ∧ cB 2048 (gTL_remade τ') ∧ cB 2048 (gTL_savedKinds τ') := by
  have hKL := kl_of hC hW (by omega) (by omega) (by omega) (by omega)
  intro n
  induction n with
  | zero => intro k τ h1 h2; omega
  | succ n ih =>
    intro k τ h1 h2 hr hN hR hK c1 c2
    have hN0 := hN
    obtain ⟨⟨n1, n2⟩, ⟨n3, n4⟩, n5⟩ := hN
    have hst' : A_IL_length (gTL_steps τ) = nI E.length := by unfold A_IL_length; rw [n1]
    have hsl := stk_len rs E k
    have hkl := sK_len E k
    have hnb := nb_le E k
    rw [A_TL_makesItsRow_L28, hst', lI_length hR]
    by_cases c : E.length ≤ k
    · rw [if_pos ((nI_leI (by omega) (by omega)).mpr c)]
      have : k = E.length := by omega
      subst this
      have hR' := hR
      rw [List.take_length, hT] at hR' ⊢
      rw [if_pos (by rfl), hr, cr_kind hC hW.2.2.1 (by omega) ht, if_pos]
      · exact ⟨τ, rfl, rfl, ⟨by rw [lI_len hR]; omega, by rw [lI_len hK]; omega⟩, c1, c2⟩
      · have := lI_at hR' (k := 0) (by simp) (by simp)
        rw [nI_0] at this
        rw [this]; rfl
    · have hk : k < E.length := by omega
      rw [if_neg (fun h => c ((nI_leI (by omega) (by omega)).mp h))]
      obtain ⟨b, x, κ, e1, e2⟩ := e_get hk
      have s1 : A_IL_at (gTL_steps τ) (nI k) = sF rs E (b, x, κ) := by rw [il_at (by omega) (by omega), n2 k hk, if_pos hk, e2]
      have hnew : ∀ y : tIL, A_TL_isSavedAt (uTL_remade (uTL_remade τ (A_IL_cut (gTL_remade τ) (nI 0))) y) (nI k) = if svF E k then 1 else 0 := by
        intro y
        show (if (A_IL_at (gTL_savedAs τ) (nI k)) = (-1) then (0 : Int32) else 1) = _
        rw [il_at (by omega) (by omega), n4 k hk, if_pos hk]
        by_cases e : svF E k = true
        · rw [e, if_pos rfl, if_pos rfl, if_neg (nI_m1 (by omega))]
        · simp [e]
      -- what a turn leaves, once the kind is known
      have fin : ∀ u : Nat, u ≤ (stk rs (E.take k)).length → (stk rs (E.take k)).take u ++ [κ] = stk rs (E.take (k + 1)) → A_TL_kindMadeAt τ ss ρ (nI k) (nI u) = nI κ → κ < 2 ^ 30 → ∃ τ' : tTL, (if (A_TL_kindMadeAt τ ss ρ (nI k) (nI u)) = (-1) then ((0 : Int32), τ) else (if (A_TL_isSavedAt (uTL_remade (uTL_remade τ (A_IL_cut (gTL_remade τ) (nI u))) (A_IL_add (A_IL_cut (gTL_remade τ) (nI u)) (A_TL_kindMadeAt τ ss ρ (nI k) (nI u)))) (nI k)) = 0 then (A_TL_makesItsRow_L28 ss ρ n (nI k + 1) (uTL_remade (uTL_remade τ (A_IL_cut (gTL_remade τ) (nI u))) (A_IL_add (A_IL_cut (gTL_remade τ) (nI u)) (A_TL_kindMadeAt τ ss ρ (nI k) (nI u))))) else (A_TL_makesItsRow_L28 ss ρ n (nI k + 1) (uTL_savedKinds (uTL_remade (uTL_remade τ (A_IL_cut (gTL_remade τ) (nI u))) (A_IL_add (A_IL_cut (gTL_remade τ) (nI u)) (A_TL_kindMadeAt τ ss ρ (nI k) (nI u)))) (A_IL_add (gTL_savedKinds τ) (A_TL_kindMadeAt τ ss ρ (nI k) (nI u))))))) = (1, τ') ∧ fm τ' = fm τ ∧ ((gTL_remade τ').1.length < 2 ^ 31 ∧ (gTL_savedKinds τ').1.length < 2 ^ 31) ∧ cB 2048 (gTL_remade τ') ∧ cB 2048 (gTL_savedKinds τ') := by
        intro u hu hs hkm hκ
        have hcut := lI_cut hR hu (by omega)
        have hadd := lI_add hcut κ
        rw [hs] at hadd
        have hcap : cB 2048 (A_IL_add (A_IL_cut (gTL_remade τ) (nI u)) (nI κ)) := cB_add (cB_cut c1 _) (by rw [lI_len hcut, List.length_take]; omega) _
        have hsv : A_TL_isSavedAt (uTL_remade (uTL_remade τ (A_IL_cut (gTL_remade τ) (nI u))) (A_IL_add (A_IL_cut (gTL_remade τ) (nI u)) (nI κ))) (nI k) = if svF E k then 1 else 0 := hnew (A_IL_add (A_IL_cut (gTL_remade τ) (nI u)) (nI κ))
        rw [hkm, if_neg (nI_m1 (by omega)), nI_1]
        by_cases e : svF E k = true
        · rw [e, if_pos rfl] at hsv
          rw [hsv, if_neg n10]
          obtain ⟨τ', r1, r2, r3⟩ := ih (k + 1) (uTL_savedKinds (uTL_remade (uTL_remade τ (A_IL_cut (gTL_remade τ) (nI u))) (A_IL_add (A_IL_cut (gTL_remade τ) (nI u)) (nI κ))) (A_IL_add (gTL_savedKinds τ) (nI κ))) (by omega) (by omega) hr hN0 hadd (by
            rw [sKd, e, if_pos rfl, e2]
            exact lI_add hK κ) hcap (cB_add c2 (by rw [lI_len hK]; omega) _)
          exact ⟨τ', r1, by rw [r2]; rfl, r3⟩
        · rw [if_neg e] at hsv
          rw [if_pos hsv]
          obtain ⟨τ', r1, r2, r3⟩ := ih (k + 1) (uTL_remade (uTL_remade τ (A_IL_cut (gTL_remade τ) (nI u))) (A_IL_add (A_IL_cut (gTL_remade τ) (nI u)) (nI κ))) (by omega) (by omega) hr hN0 hadd (by
            rw [sKd, if_neg e]
            exact hK) hcap c2
          exact ⟨τ', r1, by rw [r2]; rfl, r3⟩
      obtain ⟨q, q1, q2⟩ := TI_row hG e1
      have hκ : κ < kd.length := by rw [q2]; exact kOf_lt hW q1
      cases b
      · obtain ⟨g1, g2, g3, g4⟩ := hG.1 k x κ e1
        obtain ⟨v1, v2, v3⟩ := hW.2.1 x g1
        have ht' : sF rs E (false, x, κ) = nI (rSt rs x) := rfl
        rw [ht'] at s1
        have hrt : A_TL_rowsTakenAt τ ss ρ (nI k) = nI (nP rs x) := by
          unfold A_TL_rowsTakenAt
          rw [s1, if_pos (m2_lt (by omega)), st_taking hCS v1 (by omega), ← v2]
          rfl
        rw [hrt, pk_sub g3, if_pos (nI_pos' (by omega))]
        refine fin ((stk rs (E.take k)).length - nP rs x) (by omega) ?_ ?_ (by omega)
        · rw [take_s e1, stk_app]; rfl
        · unfold A_TL_kindMadeAt
          rw [s1, if_pos (m2_lt (by omega)), kmo_eq hKL hR (by omega) (fun v hv => by have := stk_mem hW hG k v hv; omega) (by omega) (by omega) (fun a ha h => by
            rw [kd_ar hW ha h, ← v2]
            unfold nP at g3 ⊢
            omega), g4]
          have hs := (hW.2.2.2.2.2.1 x g1).2.1
          rw [← g2] at hs
          refine fdn_some hκ hs (fun b hb h => ?_)
          exact hW.2.2.2.2.2.2.1 b κ hb hκ (by rw [h, hs]; rfl)
      · obtain ⟨t1, t2, r, t3, t4⟩ := svF_tgt hG e1
        have ht' : sF rs E (true, x, κ) = (-2) - nI (nb E x) := rfl
        have hnx := nb_le E x
        obtain ⟨z1, z2⟩ := sK_get t1 k t2
        rw [e_getD t3] at z1
        rw [ht'] at s1
        have hrt : A_TL_rowsTakenAt τ ss ρ (nI k) = 0 := by
          unfold A_TL_rowsTakenAt
          rw [s1, if_neg (m2_nlt (by omega))]
        rw [hrt, ← nI_0, pk_sub (Nat.zero_le _), Nat.sub_zero, nI_0, if_pos (nI_pos' (by omega))]
        refine fin (stk rs (E.take k)).length (Nat.le_refl _) ?_ ?_ (by omega)
        · rw [take_s e1, stk_app, List.take_length]; rfl
        · unfold A_TL_kindMadeAt
          rw [s1, if_neg (m2_nlt (by omega)), m2_sub, lI_at hK (by omega) (by omega), z1]
theorem check_eq (hCS : CS ss tk md) (hC : CR ρ rs ks fk kd sz) (hW : WR j tk rs ks fk kd sz) (b1 : tk.length ≤ 512) (b2 : rs.length ≤ 600) (b3 : (paL rs).length ≤ 600) (b4 : kd.length ≤ 600) {τ : tTL} (hP : CAP τ) (hS : SML τ) (hK : CkR τ rs ks) : ∃ τ' : tTL, A_TL_makesItsRow τ ss ρ = (1, τ') ∧ fm τ' = fm τ ∧ CAP τ' ∧ SML τ' := by
  unfold A_TL_makesItsRow
  rcases hK with h | ⟨top, E, ht, h1, hE, hG, hT, hN⟩
  · rw [if_pos h]
    exact ⟨τ, rfl, rfl, hP, hS⟩
  · rw [if_neg (by rw [h1]; exact nI_m1 (by omega))]
    obtain ⟨p1, p2, p3, p4, p5, p6, p7, p8, p9, p10⟩ := hP
    obtain ⟨s1, s2, s3, s4, s5, s6, s7, s8⟩ := hS
    have key := mir_L hCS hC hW b1 b2 b3 b4 ht hG hE hT (M_TL_makesItsRow_L28 ss ρ 0 (uTL_savedKinds (uTL_remade τ (A_IL_cut (gTL_remade τ) 0)) (A_IL_cut (gTL_savedKinds τ) 0)) + 1) 0 (uTL_savedKinds (uTL_remade τ (A_IL_cut (gTL_remade τ) 0)) (A_IL_cut (gTL_savedKinds τ) 0)) (Nat.zero_le _) (by
      have : M_TL_makesItsRow_L28 ss ρ 0 (uTL_savedKinds (uTL_remade τ (A_IL_cut (gTL_remade τ) 0)) (A_IL_cut (gTL_savedKinds τ) 0)) = E.length := by
        show ((nI (gTL_steps τ).1.length).toInt - (0 : Int32).toInt).toNat = _
        rw [hN.1.1, nI_toInt (by omega), show (0 : Int32).toInt = 0 from rfl]
        omega
      omega) h1 hN (by
        show (A_IL_cut (gTL_remade τ) 0).1 = _
        rw [cut0 s7]; rfl) (by
        show (A_IL_cut (gTL_savedKinds τ) 0).1 = _
        rw [cut0 s8]; rfl) (cB_cut p9 _) (cB_cut p10 _)
    obtain ⟨τ', r1, r2, ⟨r3, r4⟩, r5, r6⟩ := key
    have r2' : fm τ' = fm τ := by rw [r2]; rfl
    obtain ⟨v1, v2, v3, v4, v5, v6, v7, v8, v9, v10⟩ := fm_out r2'
    refine ⟨τ', r1, r2', ?_, ?_⟩
    · unfold CAP
      rw [v1, v2, v3, v4, v7, v8, v9, v10]
      exact ⟨p1, p2, p3, p4, p5, p6, p7, p8, r5, r6⟩
    · unfold SML
      rw [v1, v2, v3, v4, v8, v9]
      exact ⟨s1, s2, s3, s4, s5, s6, r3, r4⟩
end CHK
