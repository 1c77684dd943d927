/-! LEVEL B: labels -/
theorem fd_sh {x : Nat} : ∀ (l : List Nat), (∀ k, fd x l k = -1) ∨ ∃ j, j < l.length ∧ (∀ k, fd x l k = nI (k + j)) ∧ l.getD j 0 = x
  | [] => Or.inl (fun _ => rfl)
  | a :: l => by
    by_cases e : a = x
    · exact Or.inr ⟨0, by simp, fun k => by rw [fd, if_pos e]; rfl, by simpa using e⟩
    · rcases fd_sh (x := x) l with h | ⟨j, h1, h2, h4⟩
      · exact Or.inl (fun k => by rw [fd, if_neg e]; exact h _)
      · exact Or.inr ⟨j + 1, by simp only [List.length_cons]; omega, fun k => by rw [fd, if_neg e, h2]; congr 1; omega, by simpa using h4⟩
theorem fd_m1 {x : Nat} {l : List Nat} {k : Nat} (k' : Nat) (h : fd x l k = -1) (hl : k + l.length < 2 ^ 31) : fd x l k' = -1 := by
  rcases fd_sh (x := x) l with h1 | ⟨j, h1, h2, -⟩
  · exact h1 _
  · rw [h2] at h; exact absurd h (nI_m1 (by omega))
theorem fd_get {x : Nat} {l : List Nat} {k : Nat} (h : fd x l k ≠ -1) : ∃ j, j < l.length ∧ (∀ k, fd x l k = nI (k + j)) ∧ l.getD j 0 = x := by
  rcases fd_sh (x := x) l with h1 | h1
  · exact absurd (h1 k) h
  · exact h1
theorem m1_n0 : ¬ (0 : Int32) ≤ -1 := by decide
/-- the labels, behind k steps -/
def lb (rs : tRS) (md : List Nat) (E : List tE) : Nat → List Nat
  | 0 => []
  | k + 1 => if (E.getD k eD).1 then lb rs md E k else if fd (rSt rs (E.getD k eD).2.1) md 0 = -1 then (if fd (rSt rs (E.getD k eD).2.1) (lb rs md E k) 0 = -1 then lb rs md E k ++ [rSt rs (E.getD k eD).2.1] else lb rs md E k) else lb rs md E k
section LBS
variable {rs : tRS} {md : List Nat} {E : List tE}
theorem lb_len : ∀ k, (lb rs md E k).length ≤ k
  | 0 => Nat.le_refl _
  | k + 1 => by
    have := lb_len k
    rw [lb]
    split
    · omega
    · split
      · split
        · simp only [List.length_append, List.length_cons, List.length_nil]; omega
        · omega
      · omega
theorem lb_ref {k x κ : Nat} (h : E.getD k eD = (true, x, κ)) : lb rs md E (k + 1) = lb rs md E k := by rw [lb, h, if_pos rfl]
theorem lb_man {k x κ : Nat} (h : E.getD k eD = (false, x, κ)) (h1 : fd (rSt rs x) md 0 ≠ -1) : lb rs md E (k + 1) = lb rs md E k := by
  rw [lb, h, if_neg (by simp), if_neg h1]
theorem lb_old {k x κ : Nat} (h : E.getD k eD = (false, x, κ)) (h1 : fd (rSt rs x) (lb rs md E k) 0 ≠ -1) : lb rs md E (k + 1) = lb rs md E k := by
  rw [lb, h, if_neg (by simp), if_neg h1, ite_self]
theorem lb_new {k x κ : Nat} (h : E.getD k eD = (false, x, κ)) (h1 : fd (rSt rs x) md 0 = -1) (h2 : fd (rSt rs x) (lb rs md E k) 0 = -1) : lb rs md E (k + 1) = lb rs md E k ++ [rSt rs x] := by
  rw [lb, h, if_neg (by simp), if_pos h1, if_pos h2]
theorem lb_mem {N : Nat} (hN : ∀ k r κ : Nat, k < E.length → E.getD k eD = (false, r, κ) → rSt rs r < N) : ∀ k, k ≤ E.length → ∀ a ∈ lb rs md E k, a < N
  | 0, _, a, ha => by simp [lb] at ha
  | k + 1, hk, a, ha => by
    have ih := lb_mem hN k (by omega)
    obtain ⟨b, x, κ, e1, e2⟩ := e_get (E := E) (k := k) (by omega)
    cases b
    · by_cases h1 : fd (rSt rs x) md 0 = -1
      · by_cases h2 : fd (rSt rs x) (lb rs md E k) 0 = -1
        · rw [lb_new e2 h1 h2] at ha
          rcases List.mem_append.mp ha with h | h
          · exact ih a h
          · have : a = rSt rs x := by simpa using h
            subst this
            exact hN k x κ (by omega) e2
        · rw [lb_old e2 h2] at ha; exact ih a ha
      · rw [lb_man e2 h1] at ha; exact ih a ha
    · rw [lb_ref e2] at ha; exact ih a ha
end LBS
/-! the class -/
def fw (τ : tTL) : tIL × tIL × tLL × Int32 × Int32 × tIL × tIL × tIL × tIL × tIL := (gTL_steps τ, gTL_savedAs τ, gTL_letters τ, gTL_rowTold τ, gTL_savedRows τ, gTL_remade τ, gTL_savedKinds τ, gTL_openRows τ, gTL_openParts τ, gTL_toldAt τ)
def NL (τ : tTL) (tk md : List Nat) (rs : tRS) (E : List tE) (k : Nat) : Prop :=
  lI (gTL_labels τ) (lb rs md E k) ∧ (gTL_numbers τ).1.length = tk.length ∧
  (∀ s, s < tk.length → (fd s md 0 = -1 → (gTL_numbers τ).1.getD s 0 = fd s (lb rs md E k) (md.length + 1)) ∧ (fd s md 0 ≠ -1 → (gTL_numbers τ).1.getD s 0 = -1 ∨ (gTL_numbers τ).1.getD s 0 = fd s md 0 + 1)) ∧
  (∀ i r κ : Nat, i < k → E.getD i eD = (false, r, κ) → (gTL_numbers τ).1.getD (rSt rs r) 0 ≠ -1) ∧ cB 2048 (gTL_labels τ) ∧ cB 2048 (gTL_numbers τ)
section LBC
variable {j : Nat} {tk md : List Nat} {rs : tRS} {ks : List Nat} {E : List tE} {ss : tST} {ρ : tRW}
theorem nst_L (hC : CS ss tk md) (hW : WS j tk md) (b1 : tk.length ≤ 512) (hE : E.length ≤ 2000) (hN : ∀ k r κ : Nat, k < E.length → E.getD k eD = (false, r, κ) → rSt rs r < tk.length) (hn : ∀ i x κ : Nat, i < E.length → E.getD i eD = (true, x, κ) → nb E x < 2 ^ 30) : ∀ (n k : Nat) (τ : tTL), k ≤ E.length → E.length < k + n → ((gTL_steps τ).1.length = E.length ∧ ∀ i, i < E.length → (gTL_steps τ).1.getD i 0 = sF rs E (E.getD i eD)) → NL τ tk md rs E k → ∃ τ' : tTL, A_TL_numberStatements_L17 ss ρ n (nI k) τ = τ' ∧ fw τ' = fw τ ∧ NL τ' tk md rs E E.length := by
  intro n
  induction n with
  | zero => intro k τ h1 h2; omega
  | succ n ih =>
    intro k τ h1 h2 hS hL
    obtain ⟨n1, n2⟩ := hS
    have hL0 := hL
    obtain ⟨l1, l2, l3, l4, l5, l6⟩ := hL
    have hst' : A_IL_length (gTL_steps τ) = nI E.length := by unfold A_IL_length; rw [n1]
    have hlen := lb_len (rs := rs) (md := md) (E := E) k
    have hmd := hW.2.2.2
    rw [A_TL_numberStatements_L17, hst']
    by_cases c : E.length ≤ k
    · rw [if_pos ((nI_leI (by omega) (by omega)).mpr c)]
      have : k = E.length := by omega
      subst this
      exact ⟨τ, rfl, rfl, hL0⟩
    · have hk : k < E.length := by omega
      rw [if_neg (fun h => c ((nI_leI (by omega) (by omega)).mp h))]
      have s1 : A_IL_at (gTL_steps τ) (nI k) = sF rs E (E.getD k eD) := by rw [il_at (by omega) (by omega), n2 k hk]
      rw [s1]
      obtain ⟨b, x, κ, e1, e2⟩ := e_get hk
      rw [e2]
      cases b
      · have hs := hN k x κ hk e2
        have ht : sF rs E (false, x, κ) = nI (rSt rs x) := rfl
        rw [ht, if_neg (m2_nle (by omega)), il_at (by omega) (by omega), nI_1]
        obtain ⟨q1, q2⟩ := l3 _ hs
        by_cases hm : (gTL_numbers τ).1.getD (rSt rs x) 0 = -1
        · rw [if_pos hm]
          by_cases hf : fd (rSt rs x) md 0 = -1
          · have hf2 := q1 hf
            rw [hm] at hf2
            have hnew := lb_new e2 hf (fd_m1 0 hf2.symm (by omega))
            have hno : A_TL_numberOfNew τ ss ρ (nI (rSt rs x)) = (nI (md.length + ((lb rs md E k).length + 1)), uTL_labels τ (A_IL_add (gTL_labels τ) (nI (rSt rs x)))) := by
              unfold A_TL_numberOfNew
              rw [st_isM hC hs (by omega), if_pos hf, if_pos rfl, len_add, lI_len l1]
              show (gST_mandatories ss + _, _) = _
              rw [hC.2.2.1, nI_add]
            rw [hno]
            simp only [bnd]
            have hL' : NL (uTL_numbers (uTL_labels τ (A_IL_add (gTL_labels τ) (nI (rSt rs x)))) (A_IL_put (gTL_numbers τ) (nI (rSt rs x)) (nI (md.length + ((lb rs md E k).length + 1))))) tk md rs E (k + 1) := by
              have hput : ∀ v, (A_IL_put (gTL_numbers τ) (nI (rSt rs x)) v).1 = (gTL_numbers τ).1.set (rSt rs x) v := put_eq (by omega) (by omega)
              refine ⟨?_, ?_, ?_, ?_, cB_add l5 (by rw [lI_len l1]; omega) _, cB_put l6 _ _⟩
              · show lI (A_IL_add (gTL_labels τ) (nI (rSt rs x))) _
                rw [hnew]; exact lI_add l1 _
              · show (A_IL_put (gTL_numbers τ) (nI (rSt rs x)) _).1.length = _
                rw [hput]; simpa using l2
              · intro s hs'
                show (_ → (A_IL_put (gTL_numbers τ) (nI (rSt rs x)) (nI (md.length + ((lb rs md E k).length + 1)))).1.getD s 0 = _) ∧ (_ → (A_IL_put (gTL_numbers τ) (nI (rSt rs x)) (nI (md.length + ((lb rs md E k).length + 1)))).1.getD s 0 = -1 ∨ (A_IL_put (gTL_numbers τ) (nI (rSt rs x)) (nI (md.length + ((lb rs md E k).length + 1)))).1.getD s 0 = _)
                rw [hput, hnew]
                by_cases es : s = rSt rs x
                · subst es
                  rw [getD_set (by omega)]
                  refine ⟨fun _ => ?_, fun h => absurd hf h⟩
                  rw [fd_app (by omega), if_pos hf2.symm, if_pos rfl]
                  congr 1; omega
                · rw [getD_set_ne es]
                  refine ⟨fun h => ?_, (l3 s hs').2⟩
                  rw [fd_app (by omega), (l3 s hs').1 h, show (if rSt rs x = s then nI (md.length + 1 + (lb rs md E k).length) else (-1 : Int32)) = -1 from if_neg (Ne.symm es)]
                  split
                  · assumption
                  · rfl
              · intro i r κ' hi he
                show (A_IL_put (gTL_numbers τ) (nI (rSt rs x)) (nI (md.length + ((lb rs md E k).length + 1)))).1.getD (rSt rs r) 0 ≠ -1
                rw [hput]
                by_cases es : rSt rs r = rSt rs x
                · rw [es, getD_set (by omega)]
                  exact nI_m1 (by omega)
                · rw [getD_set_ne es]
                  by_cases ei : i = k
                  · subst ei
                    rw [e2] at he
                    injection he with _ he; injection he with he _
                    subst he
                    exact absurd rfl es
                  · exact l4 i r κ' (by omega) he
            obtain ⟨τ', r1, r2, r3⟩ := ih (k + 1) (uTL_numbers (uTL_labels τ (A_IL_add (gTL_labels τ) (nI (rSt rs x)))) (A_IL_put (gTL_numbers τ) (nI (rSt rs x)) (nI (md.length + ((lb rs md E k).length + 1))))) (by omega) (by omega) ⟨n1, n2⟩ hL'
            exact ⟨τ', r1, by rw [r2]; rfl, r3⟩
          · have hnew := lb_man (rs := rs) (md := md) e2 hf
            obtain ⟨i, hi, hfi, -⟩ := fd_get hf
            have hno : A_TL_numberOfNew τ ss ρ (nI (rSt rs x)) = (fd (rSt rs x) md 0 + 1, τ) := by
              unfold A_TL_numberOfNew
              rw [st_isM hC hs (by omega), if_neg hf, if_neg n10, st_place hC hs (by omega)]
            rw [hno]
            simp only [bnd]
            have hL' : NL (uTL_numbers τ (A_IL_put (gTL_numbers τ) (nI (rSt rs x)) (fd (rSt rs x) md 0 + 1))) tk md rs E (k + 1) := by
              have hput : ∀ v, (A_IL_put (gTL_numbers τ) (nI (rSt rs x)) v).1 = (gTL_numbers τ).1.set (rSt rs x) v := put_eq (by omega) (by omega)
              refine ⟨?_, ?_, ?_, ?_, l5, cB_put l6 _ _⟩
              · show lI (gTL_labels τ) _
                rw [hnew]; exact l1
              · show (A_IL_put (gTL_numbers τ) (nI (rSt rs x)) _).1.length = _
                rw [hput]; simpa using l2
              · intro s hs'
                show (_ → (A_IL_put (gTL_numbers τ) (nI (rSt rs x)) (fd (rSt rs x) md 0 + 1)).1.getD s 0 = _) ∧ (_ → (A_IL_put (gTL_numbers τ) (nI (rSt rs x)) (fd (rSt rs x) md 0 + 1)).1.getD s 0 = -1 ∨ (A_IL_put (gTL_numbers τ) (nI (rSt rs x)) (fd (rSt rs x) md 0 + 1)).1.getD s 0 = _)
                rw [hput, hnew]
                by_cases es : s = rSt rs x
                · subst es
                  rw [getD_set (by omega)]
                  exact ⟨fun h => absurd h hf, fun _ => Or.inr rfl⟩
                · rw [getD_set_ne es]
                  exact l3 s hs'
              · intro i' r κ' hi' he
                show (A_IL_put (gTL_numbers τ) (nI (rSt rs x)) (fd (rSt rs x) md 0 + 1)).1.getD (rSt rs r) 0 ≠ -1
                rw [hput]
                by_cases es : rSt rs r = rSt rs x
                · rw [es, getD_set (by omega), hfi, nI_1]
                  exact nI_m1 (by omega)
                · rw [getD_set_ne es]
                  by_cases ei : i' = k
                  · subst ei
                    rw [e2] at he
                    injection he with _ he; injection he with he _
                    subst he
                    exact absurd rfl es
                  · exact l4 i' r κ' (by omega) he
            obtain ⟨τ', r1, r2, r3⟩ := ih (k + 1) (uTL_numbers τ (A_IL_put (gTL_numbers τ) (nI (rSt rs x)) (fd (rSt rs x) md 0 + 1))) (by omega) (by omega) ⟨n1, n2⟩ hL'
            exact ⟨τ', r1, by rw [r2]; rfl, r3⟩
        · rw [if_neg hm]
          have hnew : lb rs md E (k + 1) = lb rs md E k := by
            by_cases hf : fd (rSt rs x) md 0 = -1
            · refine lb_old e2 (fun h => hm ?_)
              rw [q1 hf]; exact fd_m1 _ h (by omega)
            · exact lb_man e2 hf
          refine ih (k + 1) τ (by omega) (by omega) ⟨n1, n2⟩ ⟨by rw [hnew]; exact l1, l2, by rw [hnew]; exact l3, fun i r κ' hi he => ?_, l5, l6⟩
          by_cases ei : i = k
          · subst ei
            rw [e2] at he
            injection he with _ he; injection he with he _
            subst he
            exact hm
          · exact l4 i r κ' (by omega) he
      · have ht : sF rs E (true, x, κ) = (-2) - nI (nb E x) := rfl
        rw [ht, if_pos (m2_le (hn k x κ hk e2)), nI_1]
        have hnew := lb_ref (rs := rs) (md := md) e2
        refine ih (k + 1) τ (by omega) (by omega) ⟨n1, n2⟩ ⟨by rw [hnew]; exact l1, l2, by rw [hnew]; exact l3, fun i r κ' hi he => ?_, l5, l6⟩
        by_cases ei : i = k
        · subst ei
          rw [e2] at he
          injection he with he _
          exact absurd he (by simp)
        · exact l4 i r κ' (by omega) he
theorem nst_eq (hC : CS ss tk md) (hW : WS j tk md) (b1 : tk.length ≤ 512) (hE : E.length ≤ 2000) (hN : ∀ k r κ : Nat, k < E.length → E.getD k eD = (false, r, κ) → rSt rs r < tk.length) (hn : ∀ i x κ : Nat, i < E.length → E.getD i eD = (true, x, κ) → nb E x < 2 ^ 30) {τ : tTL} (hS : (gTL_steps τ).1.length = E.length ∧ ∀ i, i < E.length → (gTL_steps τ).1.getD i 0 = sF rs E (E.getD i eD)) (hl : (gTL_labels τ).1 = []) (c1 : cB 2048 (gTL_labels τ)) (c2 : cB 2048 (gTL_numbers τ)) : ∃ τ' : tTL, A_TL_numberStatements τ ss ρ = τ' ∧ fw τ' = fw τ ∧ NL τ' tk md rs E E.length := by
  unfold A_TL_numberStatements
  have ha : A_ST_amount ss = nI tk.length := lI_length hC.1
  rw [ha]
  have hfl : (A_IL_fill (gTL_numbers τ) (nI tk.length) (-1)).1 = List.replicate tk.length (-1) := fill_eq _ (by omega) _
  have key := nst_L (ρ := ρ) hC hW b1 hE hN hn (M_TL_numberStatements_L17 ss ρ 0 (uTL_numbers τ (A_IL_fill (gTL_numbers τ) (nI tk.length) (-1))) + 1) 0 (uTL_numbers τ (A_IL_fill (gTL_numbers τ) (nI tk.length) (-1))) (Nat.zero_le _) ?_ hS ⟨?_, ?_, ?_, ?_, c1, cB_fill c2 (by omega) (by omega) _⟩
  · obtain ⟨τ', r1, r2, r3⟩ := key
    exact ⟨τ', r1, by rw [r2]; rfl, r3⟩
  · have : M_TL_numberStatements_L17 ss ρ 0 (uTL_numbers τ (A_IL_fill (gTL_numbers τ) (nI tk.length) (-1))) = E.length := by
      show ((nI (gTL_steps τ).1.length).toInt - (0 : Int32).toInt).toNat = _
      rw [hS.1, nI_toInt (by omega), show (0 : Int32).toInt = 0 from rfl]
      omega
    rw [this]; omega
  · show (gTL_labels τ).1 = _
    rw [hl]; rfl
  · show (A_IL_fill (gTL_numbers τ) (nI tk.length) (-1)).1.length = _
    rw [hfl]; simp
  · intro s hs
    have e : (A_IL_fill (gTL_numbers τ) (nI tk.length) (-1)).1.getD s 0 = -1 := by
      rw [hfl]; simp [List.getD_eq_getElem?_getD, hs]
    exact ⟨fun _ => e, fun _ => Or.inl e⟩
  · intro i r κ hi
    exact absurd hi (Nat.not_lt_zero _)
end LBC
/-! the reference -/
section LBM
variable {j : Nat} {tk md : List Nat} {rs : tRS} {ks : List Nat} {E : List tE} {μ : tMD}
theorem m_lo {L : List Nat} (h1 : gMD_labelCount μ = nI L.length) (h2 : aI (gMD_labels μ) L) (hl : L.length ≤ 1400) {i : Nat} (hi : i < 2 ^ 31) (hb : ∀ a ∈ L, a < 2 ^ 31) : ∀ (n k : Nat), k ≤ L.length → L.length < k + n → A_MD_labelOf_L2 μ (nI i) n (nI k) = some (fd i (L.drop k) k) := by
  intro n
  induction n with
  | zero => intro k h1 h2; omega
  | succ n ih =>
    intro k h3 h4
    rw [A_MD_labelOf_L2, h1]
    by_cases c : L.length ≤ k
    · rw [if_pos ((nI_leI (by omega) (by omega)).mpr c), List.drop_eq_nil_of_le c]
      rfl
    · rw [if_neg (fun h => c ((nI_leI (by omega) (by omega)).mp h)), if_neg (vp_in_nI (by omega) (by omega)), nI_clamp (by omega), h2 k (by omega), nI_1, ih (k + 1) (by omega) (by omega)]
      have hk : k < L.length := by omega
      rw [List.drop_eq_getElem_cons hk, fd]
      have e : L.getD k 0 = L[k] := by simp [List.getD_eq_getElem?_getD, hk]
      rw [e]
      by_cases c2 : L[k] = i
      · rw [if_pos c2, if_pos (by rw [c2])]
      · rw [if_neg c2, if_neg (fun h => c2 ((nI_eq (hb _ (List.getElem_mem hk)) hi).mp h))]
theorem m_labelOf {L : List Nat} (h1 : gMD_labelCount μ = nI L.length) (h2 : aI (gMD_labels μ) L) (hl : L.length ≤ 1400) {i : Nat} (hi : i < 2 ^ 31) (hb : ∀ a ∈ L, a < 2 ^ 31) : A_MD_labelOf μ (nI i) = some (fd i L 0) := by
  have h := m_lo h1 h2 hl hi hb fuelM 0 (Nat.zero_le _) (by unfold fuelM; omega)
  exact h
theorem MS_fx {μ' : tMD} (h : MS (gMD_statements μ) (gMD_takes μ) (gMD_mandatories μ) (gMD_mandatoryCount μ) tk md) (e : fx μ' = fx μ) : MS (gMD_statements μ') (gMD_takes μ') (gMD_mandatories μ') (gMD_mandatoryCount μ') tk md := by
  obtain ⟨e1, e2, e3, e4, -⟩ := fx_out e
  rw [e1, e2, e3, e4]; exact h
def flM (μ : tMD) : tFX × Int32 × (Nat → Int32) × (Nat → Int32) × Int32 := (fx μ, gMD_steps μ, gMD_toldStep μ, gMD_saving μ, gMD_savedCount μ)
theorem flM_labels (μ : tMD) (v : Nat → Int32) : flM (uMD_labels μ v) = flM μ := rfl
theorem flM_labelCount (μ : tMD) (v : Int32) : flM (uMD_labelCount μ v) = flM μ := rfl
theorem flM_out {a b : tMD} (h : flM a = flM b) : fx a = fx b ∧ gMD_steps a = gMD_steps b ∧ gMD_toldStep a = gMD_toldStep b ∧ gMD_saving a = gMD_saving b ∧ gMD_savedCount a = gMD_savedCount b := by
  unfold flM at h
  simp only [Prod.mk.injEq] at h
  exact h
theorem flb_L (hM : MS (gMD_statements μ) (gMD_takes μ) (gMD_mandatories μ) (gMD_mandatoryCount μ) tk md) (hW : WS j tk md) (b1 : tk.length ≤ 512) (hE : E.length ≤ 1300) (hN : ∀ k r κ : Nat, k < E.length → E.getD k eD = (false, r, κ) → rSt rs r < tk.length) (hn : ∀ i x κ : Nat, i < E.length → E.getD i eD = (true, x, κ) → nb E x < 2 ^ 30) (h1 : gMD_steps μ = nI E.length) (h2 : ∀ i, i < E.length → gMD_toldStep μ i = sF rs E (E.getD i eD)) : ∀ (n k : Nat) (τ : tMD), k ≤ E.length → E.length < k + n → flM τ = flM μ → gMD_labelCount τ = nI (lb rs md E k).length → aI (gMD_labels τ) (lb rs md E k) → ∃ τ' : tMD, A_MD_findLabels_L7 n (nI k) τ = some τ' ∧ flM τ' = flM μ ∧ gMD_labelCount τ' = nI (lb rs md E E.length).length ∧ aI (gMD_labels τ') (lb rs md E E.length) := by
  intro n
  induction n with
  | zero => intro k τ h1 h2; omega
  | succ n ih =>
    intro k τ hk1 hk2 hf hc hl
    obtain ⟨f1, f2, f3, f4, f5⟩ := flM_out hf
    have hlen := lb_len (rs := rs) (md := md) (E := E) k
    have hmd := hW.2.2.2
    have hmem := lb_mem (rs := rs) (md := md) hN k hk1
    rw [A_MD_findLabels_L7, f2, h1]
    by_cases c : E.length ≤ k
    · rw [if_pos ((nI_leI (by omega) (by omega)).mpr c)]
      have : k = E.length := by omega
      subst this
      exact ⟨τ, rfl, hf, hc, hl⟩
    · have hk : k < E.length := by omega
      have g : ¬ (nI k < 0 ∨ 26000 ≤ k) := ng2 (by omega) (by omega)
      rw [if_neg (fun h => c ((nI_leI (by omega) (by omega)).mp h)), nI_clamp (by omega), if_neg g, f3, h2 k hk]
      obtain ⟨b, x, κ, e1, e2⟩ := e_get hk
      rw [e2]
      cases b
      · have hs := hN k x κ hk e2
        have ht : sF rs E (false, x, κ) = nI (rSt rs x) := rfl
        rw [ht, if_neg (nI_pos (by omega)), if_neg g, m_mandatoryOf (MS_fx hM f1) hmd (by omega) (fun a ha => by have := (hW.2.2.1 a ha).1; omega), m_labelOf hc hl (by omega) (by omega) (fun a ha => by have := hmem a ha; omega), nI_1]
        simp only [Option.bind_some]
        by_cases hf1 : fd (rSt rs x) md 0 = -1
        · rw [hf1, if_neg m1_n0, if_neg g]
          by_cases hf2 : fd (rSt rs x) (lb rs md E k) 0 = -1
          · have hnew := lb_new e2 hf1 hf2
            have z : (nI (lb rs md E k).length).toNatClampNeg = (lb rs md E k).length := nI_clamp (by omega)
            have g2 : ¬ (nI (lb rs md E k).length < 0 ∨ 1500 ≤ (lb rs md E k).length) := ng2 (by omega) (by omega)
            rw [hf2, if_neg m1_n0, if_neg g, hc, z, if_neg g2]
            simp only [bnd, gu_MD_labelCount_labels, hc, nI_1]
            refine ih (k + 1) _ (by omega) (by omega) (by rw [flM_labelCount, flM_labels]; exact hf) ?_ ?_
            · simp only [gu_MD_labelCount_labelCount]
              rw [hnew]; simp
            · simp only [gu_MD_labels_labels, gu_MD_labels_labelCount]
              rw [hnew]
              exact aI_push hl _
          · have hnew := lb_old (md := md) e2 hf2
            obtain ⟨i, hi, hfi, -⟩ := fd_get hf2
            rw [hfi, if_pos (nI_pos' (by omega))]
            exact ih (k + 1) τ (by omega) (by omega) hf (by rw [hnew]; exact hc) (by rw [hnew]; exact hl)
        · have hnew := lb_man (rs := rs) (md := md) e2 hf1
          obtain ⟨i, hi, hfi, -⟩ := fd_get hf1
          rw [hfi, if_pos (nI_pos' (by omega))]
          exact ih (k + 1) τ (by omega) (by omega) hf (by rw [hnew]; exact hc) (by rw [hnew]; exact hl)
      · have ht : sF rs E (true, x, κ) = (-2) - nI (nb E x) := rfl
        have hnew := lb_ref (rs := rs) (md := md) e2
        rw [ht, if_pos (m2_neg (hn k x κ hk e2)), nI_1]
        exact ih (k + 1) τ (by omega) (by omega) hf (by rw [hnew]; exact hc) (by rw [hnew]; exact hl)
theorem flb_eq (hM : MS (gMD_statements μ) (gMD_takes μ) (gMD_mandatories μ) (gMD_mandatoryCount μ) tk md) (hW : WS j tk md) (b1 : tk.length ≤ 512) (hE : E.length ≤ 1300) (hN : ∀ k r κ : Nat, k < E.length → E.getD k eD = (false, r, κ) → rSt rs r < tk.length) (hn : ∀ i x κ : Nat, i < E.length → E.getD i eD = (true, x, κ) → nb E x < 2 ^ 30) (h1 : gMD_steps μ = nI E.length) (h2 : ∀ i, i < E.length → gMD_toldStep μ i = sF rs E (E.getD i eD)) : ∃ τ' : tMD, A_MD_findLabels μ = some τ' ∧ flM τ' = flM μ ∧ gMD_labelCount τ' = nI (lb rs md E E.length).length ∧ aI (gMD_labels τ') (lb rs md E E.length) := by
  have key := flb_L hM hW b1 hE hN hn h1 h2 fuelM 0 (uMD_labelCount μ 0) (Nat.zero_le _) (by unfold fuelM; omega) (flM_labelCount μ 0) (by rw [gu_MD_labelCount_labelCount]; rfl) (aI_nil _)
  rw [nI_0] at key
  exact key
end LBM
