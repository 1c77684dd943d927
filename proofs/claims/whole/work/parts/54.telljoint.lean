/-! LEVEL B: both tell alike -/
section JNT
variable {j : Nat} {tk md : List Nat} {rs : tRS} {ks fk : List Nat} {kd : tRS} {sz : List Nat} {top : Nat} {ρ : tRW} {ss : tST}
theorem tell_L (hC : CR ρ rs ks fk kd sz) (hW : WR j tk rs ks fk kd sz) (ht : top < rs.length) (b1 : tk.length ≤ 512) (b2 : rs.length ≤ 600) (b3 : (paL rs).length ≤ 600) (b4 : kd.length ≤ 600) : ∀ (g T n1 n2 : Nat) (st : List (Nat × Nat)) (E : List tE) (τ : tTL) (μ : tMD), TI rs ks top st E → CT τ rs ks kd.length st E → MB μ tk rs ks fk sz → MT μ rs ks fk st E → T ≤ 2 * E.length + st.length → 2500 ≤ g + T → 2500 ≤ n1 + T → 5001 ≤ n2 + 2 * T →
    ∃ (E' : List tE) (τ' : tTL) (μ' : tMD), A_TL_tellSteps_L41 ss ρ n1 (nI T) τ = τ' ∧ A_MD_tellAll_L51 n2 (dpI st.length) μ = some μ' ∧ fy τ' = fy τ ∧ fx μ' = fx μ ∧ TI rs ks top [] E' ∧ CT τ' rs ks kd.length [] E' ∧ MT μ' rs ks fk [] E' := by
  intro g
  induction g with
  | zero =>
    intro T n1 n2 st E τ μ hI hT hB hM hTl hg h1 h2
    cases st with
    | nil =>
      have := TI_lenF hI
      simp only [List.length_nil] at hTl
      omega
    | cons x lo =>
      obtain ⟨r, p⟩ := x
      have := TI_len hI
      have := (up_row hW hI.1.2.2 ht).1
      simp only [List.length_cons] at hTl
      omega
  | succ g ih =>
    intro T n1 n2 st E τ μ hI hT hB hM hTl hg h1 h2
    cases st with
    | nil =>
      have := TI_lenF hI
      simp only [List.length_nil] at hTl
      refine ⟨E, τ, μ, ?_, ?_, rfl, rfl, hI, hT, hM⟩
      · obtain ⟨n, rfl⟩ : ∃ n, n1 = n + 1 := ⟨n1 - 1, by omega⟩
        rw [A_TL_tellSteps_L41]
        split
        · rfl
        · rw [if_pos]
          rw [lI_length hT.1.1]
          exact (nI_le0 (by simp)).mpr (by simp)
      · obtain ⟨n, rfl⟩ : ∃ n, n2 = n + 1 := ⟨n2 - 1, by omega⟩
        exact ta_end μ n (by decide)
    | cons x lo =>
      obtain ⟨r, p⟩ := x
      have hE := TI_len hI
      have hup := (up_row hW hI.1.2.2 ht).1
      have hr := hI.1.1
      have hp := hI.1.2.1
      simp only [List.length_cons] at hTl
      obtain ⟨n1, rfl⟩ : ∃ n, n1 = n + 1 := ⟨n1 - 1, by omega⟩
      obtain ⟨n2, rfl⟩ : ∃ n, n2 = n + 2 := ⟨n2 - 2, by omega⟩
      by_cases c : p = nP rs r
      · subst c
        obtain ⟨τ', e1, e2, e3⟩ := ct_own (ss := ss) hC hW hI hT ht b2 b3 b4 (T := T) (by omega) n1
        obtain ⟨μ', d1, d2, d3⟩ := mt_own hW hB hI hM ht b1 b2 b3 (n2 + 1)
        obtain ⟨E', τ'', μ'', r1, r2, r3, r4, r5, r6, r7⟩ := ih (T + 1) n1 (n2 + 1) lo _ τ' μ' (TI_own hI) e3 (MB_fx hB d2) d3 (by simp only [List.length_append, List.length_cons, List.length_nil]; omega) (by omega) (by omega) (by omega)
        exact ⟨E', τ'', μ'', by rw [e1]; exact r1, by simp only [List.length_cons]; rw [d1]; exact r2, by rw [r3, e2], by rw [r4, d2], r5, r6, r7⟩
      · have hp' : p < nP rs r := by omega
        obtain ⟨a1, a2, a3⟩ := TI_part hW hI hp'
        obtain ⟨e1, e2⟩ := ct_part0 (ss := ss) hC hW hI hT hp' ht b2 b3 (T := T) (by omega) n1
        obtain ⟨μ', d1, d2, d3⟩ := mt_push hW hB hI hp' hM ht b1 b2 b3 (n2 + 1)
        by_cases u : 0 < nP rs ((rPa rs r).getD p 0) ∧ tld E (kOf ks ((rPa rs r).getD p 0)) = true
        · obtain ⟨u1, u2⟩ := u
          obtain ⟨f, r', f1, f2, f3⟩ := ct_ref (ss := ss) hC hW hI.2.1 (by omega) e2 a2 u1 u2 b2 b3 b4
          obtain ⟨μ2, g1, g2, g3⟩ := mt_ref hW (MB_fx hB d2) d3 a2 u1 u2 (by omega) (by simp only [List.length_cons]; omega) b1 b2 b3 n2 f
          obtain ⟨q1, q2, -⟩ := hI.2.1.1 f r' _ f1
          obtain ⟨E', τ'', μ'', r1, r2, r3, r4, r5, r6, r7⟩ := ih (T + 1) n1 n2 _ _ _ μ2 (TI_ref hI hp' f1 (by have := nP_kind hW a2 q1 q2; omega)) f3 (MB_fx (MB_fx hB d2) g2) g3 (by simp only [List.length_append, List.length_cons, List.length_nil]; omega) (by omega) (by omega) (by omega)
          refine ⟨E', τ'', μ'', by rw [e1]; exact r1, ?_, by rw [r3, f2]; rfl, by rw [r4, g2, d2], r5, r6, r7⟩
          simp only [List.length_cons] at r2 g1 ⊢
          rw [d1, g1]; exact r2
        · have hu : 0 < nP rs ((rPa rs r).getD p 0) → tld E (kOf ks ((rPa rs r).getD p 0)) = false := fun h => by
            by_cases v : tld E (kOf ks ((rPa rs r).getD p 0)) = true
            · exact absurd ⟨h, v⟩ u
            · simpa using v
          obtain ⟨f2, f3⟩ := ct_push (ss := ss) hC hW e2 a2 hu (by omega) b2 b3 b4
          obtain ⟨E', τ'', μ'', r1, r2, r3, r4, r5, r6, r7⟩ := ih (T + 1) n1 (n2 + 1) _ _ _ μ' (TI_push hW ht hI hp' (fun h i r' he => by
            have := tld_iff.mpr ⟨i, r', he⟩
            rw [hu h] at this
            exact absurd this (by simp))) f3 (MB_fx hB d2) d3 (by simp only [List.length_cons]; omega) (by omega) (by omega) (by omega)
          refine ⟨E', τ'', μ'', by rw [e1]; exact r1, ?_, by rw [r3, f2]; rfl, by rw [r4, d2], r5, r6, r7⟩
          simp only [List.length_cons] at r2 ⊢
          rw [d1]; exact r2
end JNT
theorem fillN_eq (v : Int32) : ∀ (n : Nat) (x : tIL), (A_IL_fillN v n x).1 = x.1 ++ List.replicate n v
  | 0, x => by simp [A_IL_fillN]
  | n + 1, x => by
    rw [A_IL_fillN, fillN_eq v n, add_eq]
    simp [List.replicate_succ]
theorem fill_eq (x : tIL) {n : Nat} (hn : n < 2 ^ 31) (v : Int32) : (A_IL_fill x (nI n) v).1 = List.replicate n v := by
  unfold A_IL_fill
  rw [fillN_eq, nI_clamp hn]
  simp
theorem cB_fillN {B : Nat} (v : Int32) : ∀ (n : Nat) (x : tIL), cB B x → x.1.length + n ≤ B → cB B (A_IL_fillN v n x)
  | 0, x, h, _ => h
  | n + 1, x, h, hl => cB_fillN v n _ (cB_add h (by omega) v) (by rw [add_eq]; simp; omega)
theorem cB_fill {B : Nat} {x : tIL} (h : cB B x) {n : Nat} (hn : n ≤ B) (hn2 : n < 2 ^ 31) (v : Int32) : cB B (A_IL_fill x (nI n) v) := by
  unfold A_IL_fill
  rw [nI_clamp hn2]
  exact cB_fillN v n _ h (by simpa using hn)
theorem cut0 {x : tIL} (h : x.1.length < 2 ^ 31) : (A_IL_cut x 0).1 = [] := by
  unfold A_IL_cut
  rw [if_neg (by decide)]
  by_cases c : nI x.1.length ≤ 0
  · rw [if_pos c]
    exact List.length_eq_zero_iff.mp ((nI_le0 h).mp c)
  · rw [if_neg c]; rfl
section JN2
variable {j : Nat} {tk md : List Nat} {rs : tRS} {ks fk : List Nat} {kd : tRS} {sz : List Nat} {top : Nat} {ρ : tRW} {ss : tST}
theorem tall_0 {N : Nat} (hN : N ≤ 600) (n : Nat) (τ : tMD) (hr : gMD_rows τ = nI N) : A_MD_tellAll_L7 (nI top) (n + 1) (nI N) τ = A_MD_tellAll_L51 fuelM 0 (uMD_walkAt (uMD_walk τ (upd (gMD_walk τ) 0 (nI top))) (upd (gMD_walkAt τ) 0 0)) := by
  rw [A_MD_tellAll_L7]
  generalize fuelM = F
  rw [hr, if_pos ((nI_leI (by omega) (by omega)).mpr (Nat.le_refl _))]
  rfl
theorem tall_1 {N : Nat} (hN : N ≤ 600) {k : Nat} (hk : k < N) (n : Nat) (τ : tMD) (hr : gMD_rows τ = nI N) : A_MD_tellAll_L7 (nI top) (n + 1) (nI k) τ = A_MD_tellAll_L7 (nI top) n (nI (k + 1)) (uMD_isSaved (uMD_isTold τ (upd (gMD_isTold τ) k 0)) (upd (gMD_isSaved τ) k 0)) := by
  rw [A_MD_tellAll_L7]
  generalize fuelM = F
  have g : ¬ (nI k < 0 ∨ 4000 ≤ k) := ng2 (by omega) (by omega)
  have z : (nI k).toNatClampNeg = k := nI_clamp (by omega)
  rw [hr, if_neg (fun h => by have := (nI_leI (by omega) (by omega)).mp h; omega)]
  simp only [z, if_neg g, bnd, nar0, nI_1, gu_MD_isSaved_isTold]
theorem tall_L {N : Nat} (hN : N ≤ 600) : ∀ (n k : Nat) (τ : tMD), k ≤ N → N < k + n → gMD_rows τ = nI N → (∀ i, i < k → gMD_isTold τ i = 0 ∧ gMD_isSaved τ i = 0) → ∃ τ' : tMD, A_MD_tellAll_L7 (nI top) n (nI k) τ = A_MD_tellAll_L51 fuelM 0 (uMD_walkAt (uMD_walk τ' (upd (gMD_walk τ') 0 (nI top))) (upd (gMD_walkAt τ') 0 0)) ∧ fx τ' = fx τ ∧ gMD_steps τ' = gMD_steps τ ∧ ∀ i, i < N → gMD_isTold τ' i = 0 ∧ gMD_isSaved τ' i = 0 := by
  intro n
  induction n with
  | zero => intro k τ h1 h2; omega
  | succ n ih =>
    intro k τ h1 h2 hr hz
    by_cases c : N ≤ k
    · have hk : k = N := by omega
      subst hk
      exact ⟨τ, tall_0 hN n τ hr, rfl, rfl, hz⟩
    · rw [tall_1 hN (by omega) n τ hr]
      obtain ⟨τ', e1, e2, e3, e4⟩ := ih (k + 1) (uMD_isSaved (uMD_isTold τ (upd (gMD_isTold τ) k 0)) (upd (gMD_isSaved τ) k 0)) (by omega) (by omega) (by simp only [gu_MD_rows_isSaved, gu_MD_rows_isTold]; exact hr) (fun i hi => by
        simp only [gu_MD_isTold_isSaved, gu_MD_isTold_isTold, gu_MD_isSaved_isSaved, gu_MD_isSaved_isTold]
        by_cases e : i = k
        · subst e; rw [pk_us, pk_us]; exact ⟨rfl, rfl⟩
        · rw [pk_un e, pk_un e]; exact hz i (by omega))
      refine ⟨τ', e1, ?_, ?_, e4⟩
      · rw [e2, fx_isSaved, fx_isTold]
      · rw [e3]; simp only [gu_MD_steps_isSaved, gu_MD_steps_isTold]
/-- the class's lists of the telling stay small -/
def CAP (τ : tTL) : Prop := cB 2048 (gTL_steps τ) ∧ cB 2048 (gTL_savedAs τ) ∧ cB 2048 (gTL_openRows τ) ∧ cB 2048 (gTL_openParts τ) ∧ cB 2048 (gTL_toldAt τ) ∧ cB 2048 (gTL_labels τ) ∧ cB 8192 (gTL_letters τ) ∧ cB 2048 (gTL_numbers τ) ∧ cB 2048 (gTL_remade τ) ∧ cB 2048 (gTL_savedKinds τ)
def SML (τ : tTL) : Prop := (gTL_steps τ).1.length < 2 ^ 31 ∧ (gTL_savedAs τ).1.length < 2 ^ 31 ∧ (gTL_openRows τ).1.length < 2 ^ 31 ∧ (gTL_openParts τ).1.length < 2 ^ 31 ∧ (gTL_labels τ).1.length < 2 ^ 31 ∧ (gTL_letters τ).1.length < 2 ^ 31 ∧ (gTL_remade τ).1.length < 2 ^ 31 ∧ (gTL_savedKinds τ).1.length < 2 ^ 31
theorem tell_eq (hC : CR ρ rs ks fk kd sz) (hW : WR j tk rs ks fk kd sz) (ht : top < rs.length) (b1 : tk.length ≤ 512) (b2 : rs.length ≤ 600) (b3 : (paL rs).length ≤ 600) (b4 : kd.length ≤ 600) {τ : tTL} {μ : tMD} (hP : CAP τ) (hS : SML τ) (hs0 : (gTL_steps τ).1 = []) (hs1 : (gTL_savedAs τ).1 = []) (hrt : gTL_rowTold τ = nI top) (hB : MB μ tk rs ks fk sz) :
    ∃ (E : List tE) (τ' : tTL) (μ' : tMD), A_TL_tellSteps τ ss ρ = τ' ∧ A_MD_tellAll μ (nI top) = some μ' ∧ fy τ' = fy τ ∧ fx μ' = fx μ ∧ TI rs ks top [] E ∧ CT τ' rs ks kd.length [] E ∧ MT μ' rs ks fk [] E := by
  obtain ⟨p1, p2, p3, p4, p5, -⟩ := hP
  obtain ⟨s1, s2, s3, s4, -⟩ := hS
  unfold A_MD_tellAll bnd
  obtain ⟨μ1, e1, e2, e3, e4⟩ := tall_L (top := top) b2 fuelM 0 (uMD_steps μ 0) (Nat.zero_le _) (by unfold fuelM; omega) (by simp only [gu_MD_rows_steps]; exact hB.1.1) (fun i hi => absurd hi (Nat.not_lt_zero _))
  rw [nI_0] at e1
  show ∃ (E : List tE) (τ' : tTL) (μ' : tMD), A_TL_tellSteps τ ss ρ = τ' ∧ A_MD_tellAll_L7 (nI top) fuelM 0 (uMD_steps μ 0) = some μ' ∧ _
  rw [e1]
  simp only [A_TL_tellSteps, bnd]
  have hM : M_TL_tellSteps_L41 ss ρ 0 (A_TL_opn (uTL_openParts (uTL_openRows (uTL_toldAt τ (A_IL_fill (gTL_toldAt τ) (A_RW_amountOfKinds ρ) (-1))) (A_IL_cut (gTL_openRows τ) 0)) (A_IL_cut (gTL_openParts τ) 0)) (gTL_rowTold τ)) = 1000000 := rfl
  rw [hM, hrt, cr_kinds hC hW]
  have hfx : fx (uMD_walkAt (uMD_walk μ1 (upd (gMD_walk μ1) 0 (nI top))) (upd (gMD_walkAt μ1) 0 0)) = fx μ := by rw [fx_walkAt, fx_walk, e2, fx_steps]
  have key := tell_L (ss := ss) hC hW ht b1 b2 b3 b4 2500 0 (1000000 + 1) fuelM [(top, 0)] [] (A_TL_opn (uTL_openParts (uTL_openRows (uTL_toldAt τ (A_IL_fill (gTL_toldAt τ) (nI kd.length) (-1))) (A_IL_cut (gTL_openRows τ) 0)) (A_IL_cut (gTL_openParts τ) 0)) (nI top)) (uMD_walkAt (uMD_walk μ1 (upd (gMD_walk μ1) 0 (nI top))) (upd (gMD_walkAt μ1) 0 0)) (TI_0 ht) ?_ (MB_fx hB hfx) ?_ (by simp) (by omega) (by omega) (by unfold fuelM; omega)
  · obtain ⟨E', τ', μ', r1, r2, r3, r4, r5, r6, r7⟩ := key
    rw [nI_0] at r1
    have d0 : dpI ([(top, 0)] : List (Nat × Nat)).length = 0 := by show dpI (0 + 1) = 0; rw [dpI_s, nI_0]
    rw [d0] at r2
    exact ⟨E', τ', μ', r1, r2, by rw [r3]; rfl, by rw [r4, hfx], r5, r6, r7⟩
  · have hfl : (A_IL_fill (gTL_toldAt τ) (nI kd.length) (-1)).1 = List.replicate kd.length (-1) := fill_eq _ (by omega) _
    refine ⟨⟨?_, ?_⟩, ?_, ⟨?_, ?_⟩, ⟨?_, ?_⟩, p1, p2, cB_add (cB_cut p3 _) (by rw [cut0 s3]; simp) _, cB_add (cB_cut p4 _) (by rw [cut0 s4]; simp) _, cB_fill p5 (by omega) (by omega) _⟩
    · show (A_IL_cut (gTL_openRows τ) 0).1 ++ [nI top] = _
      rw [cut0 s3]; rfl
    · show (A_IL_cut (gTL_openParts τ) 0).1 ++ [0] = _
      rw [cut0 s4]; rfl
    · show (gTL_steps τ).1 = _
      rw [hs0]; rfl
    · show (gTL_savedAs τ).1.length = _
      rw [hs1]; rfl
    · intro i hi
      exact absurd hi (Nat.not_lt_zero _)
    · show (A_IL_fill (gTL_toldAt τ) (nI kd.length) (-1)).1.length = _
      rw [hfl]; simp
    · intro r hr hn
      left
      refine ⟨rfl, ?_⟩
      show (A_IL_fill (gTL_toldAt τ) (nI kd.length) (-1)).1.getD _ 0 = _
      rw [hfl]
      have := kOf_lt hW hr
      simp [List.getD_eq_getElem?_getD, this]
  · unfold MT
    simp only [gu_MD_walk_walk, gu_MD_walk_walkAt, gu_MD_walkAt_walk, gu_MD_walkAt_walkAt, gu_MD_steps_walk, gu_MD_steps_walkAt, gu_MD_toldStep_walk, gu_MD_toldStep_walkAt, gu_MD_stepRow_walk, gu_MD_stepRow_walkAt, gu_MD_isTold_walk, gu_MD_isTold_walkAt, gu_MD_isSaved_walk, gu_MD_isSaved_walkAt]
    refine ⟨⟨?_, ?_⟩, ?_, fun i hi => absurd hi (Nat.not_lt_zero _), fun r hr hn => ?_, fun r hr => ?_⟩
    · exact aI_push (l := []) (aI_nil _) top
    · exact aI_push (l := []) (aI_nil _) 0
    · rw [e3]; rfl
    · rw [(e4 _ (fk_lt hW hr)).1]; rfl
    · rw [(e4 _ (fk_lt hW hr)).2]; rfl
end JN2
