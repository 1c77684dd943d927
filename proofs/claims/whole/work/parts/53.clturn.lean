/-! LEVEL B: the class's telling against the pure one -/
def tC (rs : tRS) (e : tE) : Int32 := if e.1 then (-2) - nI e.2.1 else nI (rSt rs e.2.1)
def fy (τ : tTL) : tIL × tLL × Int32 × Int32 × tIL × tIL × tIL := (gTL_labels τ, gTL_letters τ, gTL_rowTold τ, gTL_savedRows τ, gTL_numbers τ, gTL_remade τ, gTL_savedKinds τ)
/-- the class, telling -/
def CT (τ : tTL) (rs : tRS) (ks : List Nat) (nk : Nat) (st : List (Nat × Nat)) (E : List tE) : Prop :=
  (lI (gTL_openRows τ) (st.map Prod.fst).reverse ∧ lI (gTL_openParts τ) (st.map Prod.snd).reverse) ∧ (gTL_steps τ).1 = E.map (tC rs) ∧
  ((gTL_savedAs τ).1.length = E.length ∧ ∀ i, i < E.length → (gTL_savedAs τ).1.getD i 0 = if svF E i then 0 else -1) ∧
  ((gTL_toldAt τ).1.length = nk ∧ ∀ r, r < rs.length → 0 < nP rs r → (tld E (kOf ks r) = false ∧ (gTL_toldAt τ).1.getD (kOf ks r) 0 = -1) ∨ (∃ i r' : Nat, E[i]? = some (false, r', kOf ks r) ∧ (gTL_toldAt τ).1.getD (kOf ks r) 0 = nI i)) ∧
  cB 2048 (gTL_steps τ) ∧ cB 2048 (gTL_savedAs τ) ∧ cB 2048 (gTL_openRows τ) ∧ cB 2048 (gTL_openParts τ) ∧ cB 2048 (gTL_toldAt τ)
theorem put_eq {x : tIL} {k : Nat} (hk : k < x.1.length) (hl : x.1.length < 2 ^ 31) (v : Int32) : (A_IL_put x (nI k) v).1 = x.1.set k v := by
  unfold A_IL_put
  rw [if_neg (nI_pos (by omega)), if_neg (by rw [nI_leI (by omega) (by omega)]; omega), nI_clamp (by omega)]
theorem getD_set {l : List Int32} {k : Nat} (h : k < l.length) (v : Int32) : (l.set k v).getD k 0 = v := by
  simp [List.getD_eq_getElem?_getD, h]
theorem getD_set_ne {l : List Int32} {k i : Nat} (h : i ≠ k) (v : Int32) : (l.set k v).getD i 0 = l.getD i 0 := by
  simp [List.getD_eq_getElem?_getD, List.getElem?_set_ne (Ne.symm h)]
theorem add_eq (x : tIL) (v : Int32) : (A_IL_add x v).1 = x.1 ++ [v] := rfl
section CTS
variable {j : Nat} {tk md : List Nat} {rs : tRS} {ks fk : List Nat} {kd : tRS} {sz : List Nat} {top : Nat} {lo : List (Nat × Nat)} {E : List tE} {r p : Nat} {τ : tTL} {ρ : tRW} {ss : tST}
theorem svF_lt (h : GE rs ks E) {i : Nat} (hi : svF E i = true) : i < E.length := by
  obtain ⟨k, κ, hk⟩ := svF_iff.mp hi
  have := (h.2 k i κ hk).1
  have := ge_lt hk
  omega
theorem svF_len (h : GE rs ks E) : svF E E.length = false := by
  by_cases c : svF E E.length = true
  · exact absurd (svF_lt h c) (Nat.lt_irrefl _)
  · simpa using c
/-- what a turn of the class reads -/
theorem ct_top (hC : CR ρ rs ks fk kd sz) (hT : CT τ rs ks kd.length ((r, p) :: lo) E) (b2 : rs.length ≤ 600) (hl : lo.length < 600) (hr : r < rs.length) : A_IL_length (gTL_openRows τ) = nI (lo.length + 1) ∧ A_IL_at (gTL_openRows τ) (nI lo.length) = nI r ∧ A_IL_at (gTL_openParts τ) (nI lo.length) = nI p ∧ A_RW_amountOfParts ρ (nI r) = nI (nP rs r) := by
  obtain ⟨⟨h1, h2⟩, -⟩ := hT
  simp only [List.map_cons, List.reverse_cons] at h1 h2
  refine ⟨?_, ?_, ?_, cr_parts hC (by omega) hr⟩
  · rw [lI_length h1]; simp
  · have := lI_at h1 (k := lo.length) (by simp) (by simp; omega)
    rw [this]
    have e := getD_last (lo.map Prod.fst).reverse 0 r
    simp only [List.length_reverse, List.length_map] at e
    rw [e]
  · have := lI_at h2 (k := lo.length) (by simp) (by simp; omega)
    rw [this]
    have e := getD_last (lo.map Prod.snd).reverse 0 p
    simp only [List.length_reverse, List.length_map] at e
    rw [e]
theorem ct_own (hC : CR ρ rs ks fk kd sz) (hW : WR j tk rs ks fk kd sz) (hI : TI rs ks top ((r, nP rs r) :: lo) E) (hT : CT τ rs ks kd.length ((r, nP rs r) :: lo) E) (ht : top < rs.length) (b2 : rs.length ≤ 600) (b3 : (paL rs).length ≤ 600) (b4 : kd.length ≤ 600) {T : Nat} (hTt : T < 1000000) (n : Nat) :
    ∃ τ', A_TL_tellSteps_L41 ss ρ (n + 1) (nI T) τ = A_TL_tellSteps_L41 ss ρ n (nI (T + 1)) τ' ∧ fy τ' = fy τ ∧ CT τ' rs ks kd.length lo (E ++ [(false, r, kOf ks r)]) := by
  have hr := hI.1.1
  have hE := TI_len hI
  have hup := (up_row hW hI.1.2.2 ht).1
  obtain ⟨t1, t2, t3, t4⟩ := ct_top hC hT b2 (by omega) hr
  obtain ⟨⟨h1, h2⟩, h3, ⟨h4, h5⟩, ⟨h6, h7⟩, c1, c2, c3, c4, c5⟩ := hT
  have hk := kOf_lt hW hr
  have hst : A_IL_length (gTL_steps τ) = nI E.length := by unfold A_IL_length; rw [h3, List.length_map]
  rw [A_TL_tellSteps_L41, if_neg (fun h => by
    have h' : nI 1000000 ≤ nI T := h
    rw [nI_leI (by omega) (by omega)] at h'; omega), t1, if_neg (fun h => by have := (nI_le0 (by omega)).mp h; omega), nI_sub1, t2, t3, t4, if_pos ((nI_leI (by unfold nP; have := rPa_len hr; omega) (by unfold nP; have := rPa_len hr; omega)).mpr (Nat.le_refl _)), nI_1, cr_kind hC hW.2.2.1 (by omega) hr, cr_st hC (by omega) hr, hst]
  refine ⟨_, rfl, rfl, ?_⟩
  have hput : ∀ v, (A_IL_put (gTL_toldAt τ) (nI (kOf ks r)) v).1 = (gTL_toldAt τ).1.set (kOf ks r) v := put_eq (by omega) (by omega)
  simp only [List.map_cons, List.reverse_cons] at h1 h2
  refine ⟨⟨?_, ?_⟩, ?_, ⟨?_, ?_⟩, ⟨?_, ?_⟩, cB_add c1 (by rw [h3, List.length_map]; omega) _, cB_add c2 (by omega) _, cB_cut c3 _, cB_cut c4 _, cB_put c5 _ _⟩
  · have := lI_cut h1 (k := lo.length) (by simp) (by simp; omega)
    rw [List.take_left' (by simp)] at this
    exact this
  · have := lI_cut h2 (k := lo.length) (by simp) (by simp; omega)
    rw [List.take_left' (by simp)] at this
    exact this
  · show (gTL_steps τ).1 ++ [_] = _
    rw [h3, List.map_append]; rfl
  · show ((gTL_savedAs τ).1 ++ [-1]).length = _
    simp [h4]
  · intro i hi
    show ((gTL_savedAs τ).1 ++ [-1]).getD i 0 = _
    simp only [List.length_append, List.length_cons, List.length_nil] at hi
    rw [svF_app]
    by_cases c : i = E.length
    · subst c
      rw [← h4, getD_last, h4, svF_len hI.2.1]; simp
    · rw [getD_app _ (by omega), h5 i (by omega)]; simp
  · show (A_IL_put (gTL_toldAt τ) (nI (kOf ks r)) (nI E.length)).1.length = _
    rw [hput]; simp [h6]
  · intro q hq hn
    show (_ ∧ (A_IL_put (gTL_toldAt τ) (nI (kOf ks r)) (nI E.length)).1.getD (kOf ks q) 0 = -1) ∨ ∃ i r' : Nat, _ ∧ (A_IL_put (gTL_toldAt τ) (nI (kOf ks r)) (nI E.length)).1.getD (kOf ks q) 0 = nI i
    rw [hput]
    by_cases c : kOf ks q = kOf ks r
    · right
      exact ⟨E.length, r, by rw [c]; simp, by rw [c]; exact getD_set (by omega) _⟩
    · rw [getD_set_ne c]
      rcases h7 q hq hn with ⟨a1, a2⟩ | ⟨i, r', a1, a2⟩
      · left
        refine ⟨?_, a2⟩
        rw [tld_app, a1]; simp [Ne.symm c]
      · exact Or.inr ⟨i, r', ge_up a1, a2⟩
theorem ct_ta (hT : CT τ rs ks kd.length ((r, p) :: lo) E) (hW : WR j tk rs ks fk kd sz) (b4 : kd.length ≤ 600) {c : Nat} (hc : c < rs.length) : A_IL_at (gTL_toldAt τ) (nI (kOf ks c)) = (gTL_toldAt τ).1.getD (kOf ks c) 0 := by
  obtain ⟨-, -, -, ⟨h6, h7⟩, -⟩ := hT
  have hk := kOf_lt hW hc
  exact il_at (by omega) (by omega)
theorem ct_part0 (hC : CR ρ rs ks fk kd sz) (hW : WR j tk rs ks fk kd sz) (hI : TI rs ks top ((r, p) :: lo) E) (hT : CT τ rs ks kd.length ((r, p) :: lo) E) (hp : p < nP rs r) (ht : top < rs.length) (b2 : rs.length ≤ 600) (b3 : (paL rs).length ≤ 600) {T : Nat} (hTt : T < 1000000) (n : Nat) :
    A_TL_tellSteps_L41 ss ρ (n + 1) (nI T) τ = A_TL_tellSteps_L41 ss ρ n (nI (T + 1)) (A_TL_tellPart (uTL_openParts τ (A_IL_put (gTL_openParts τ) (nI lo.length) (nI (p + 1)))) ss ρ (nI ((rPa rs r).getD p 0))) ∧ CT (uTL_openParts τ (A_IL_put (gTL_openParts τ) (nI lo.length) (nI (p + 1)))) rs ks kd.length ((r, p + 1) :: lo) E := by
  have hr := hI.1.1
  have hup := (up_row hW hI.1.2.2 ht).1
  have hle := rPa_len hr
  obtain ⟨t1, t2, t3, t4⟩ := ct_top hC hT b2 (by omega) hr
  constructor
  · rw [A_TL_tellSteps_L41, if_neg (fun h => by
      have h' : nI 1000000 ≤ nI T := h
      rw [nI_leI (by omega) (by omega)] at h'; omega), t1, if_neg (fun h => by have := (nI_le0 (by omega)).mp h; omega), nI_sub1, t2, t3, t4, if_neg (fun h => by have := (nI_leI (by unfold nP; omega) (by unfold nP at hp; omega)).mp h; omega), nI_1, nI_1, cr_part hC (by omega) (by omega) hr hp]
    rfl
  · obtain ⟨⟨h1, h2⟩, h3, h45, h67, c1, c2, c3, c4, c5⟩ := hT
    refine ⟨⟨h1, ?_⟩, h3, h45, h67, c1, c2, c3, cB_put c4 _ _, c5⟩
    have := lI_put h2 (k := lo.length) (v := p + 1) (by simp) (by simp; omega)
    simp only [List.map_cons, List.reverse_cons] at this ⊢
    rw [List.set_append_right _ _ (by simp)] at this
    simp at this
    exact this
theorem ct_push (hC : CR ρ rs ks fk kd sz) (hW : WR j tk rs ks fk kd sz) (hT : CT τ rs ks kd.length ((r, p) :: lo) E) {c : Nat} (hc : c < rs.length) (hu : 0 < nP rs c → tld E (kOf ks c) = false) (hl : lo.length < 600) (b2 : rs.length ≤ 600) (b3 : (paL rs).length ≤ 600) (b4 : kd.length ≤ 600) : fy (A_TL_tellPart τ ss ρ (nI c)) = fy τ ∧ CT (A_TL_tellPart τ ss ρ (nI c)) rs ks kd.length ((c, 0) :: (r, p) :: lo) E := by
  have hle := rPa_len hc
  have he : A_TL_tellPart τ ss ρ (nI c) = A_TL_opn τ (nI c) := by
    unfold A_TL_tellPart
    rw [cr_kind hC hW.2.2.1 (by omega) hc, ct_ta hT hW b4 hc, cr_parts hC (by omega) hc]
    by_cases c0 : 0 < nP rs c
    · rcases hT.2.2.2.1.2 c hc c0 with ⟨-, a2⟩ | ⟨i, r', a1, -⟩
      · rw [if_pos a2]; rfl
      · have := tld_iff.mpr ⟨i, r', a1⟩
        rw [hu c0] at this
        exact absurd this (by simp)
    · have e0 : (rPa rs c).length = 0 := by unfold nP at c0; omega
      rw [e0]
      split
      · rfl
      · rw [if_pos nI_0]; rfl
  rw [he]
  obtain ⟨⟨h1, h2⟩, h3, h45, h67, c1, c2, c3, c4, c5⟩ := hT
  refine ⟨rfl, ⟨?_, ?_⟩, h3, h45, h67, c1, c2, cB_add c3 (by rw [lI_len h1]; simp; omega) _, cB_add c4 (by rw [lI_len h2]; simp; omega) _, c5⟩
  · have := lI_add h1 c
    simpa [A_TL_opn, gTL_steps, gTL_savedAs, gTL_labels, gTL_letters, gTL_rowTold, gTL_savedRows, gTL_openRows, gTL_openParts, gTL_toldAt, gTL_numbers, gTL_remade, gTL_savedKinds, uTL_steps, uTL_savedAs, uTL_labels, uTL_letters, uTL_rowTold, uTL_savedRows, uTL_openRows, uTL_openParts, uTL_toldAt, uTL_numbers, uTL_remade, uTL_savedKinds] using this
  · have := lI_add h2 0
    rw [nI_0] at this
    simpa [A_TL_opn, gTL_steps, gTL_savedAs, gTL_labels, gTL_letters, gTL_rowTold, gTL_savedRows, gTL_openRows, gTL_openParts, gTL_toldAt, gTL_numbers, gTL_remade, gTL_savedKinds, uTL_steps, uTL_savedAs, uTL_labels, uTL_letters, uTL_rowTold, uTL_savedRows, uTL_openRows, uTL_openParts, uTL_toldAt, uTL_numbers, uTL_remade, uTL_savedKinds] using this
theorem ct_ref (hC : CR ρ rs ks fk kd sz) (hW : WR j tk rs ks fk kd sz) (hG : GE rs ks E) (hE : E.length ≤ 2000) (hT : CT τ rs ks kd.length ((r, p) :: lo) E) {c : Nat} (hc : c < rs.length) (hn : 0 < nP rs c) (hu : tld E (kOf ks c) = true) (b2 : rs.length ≤ 600) (b3 : (paL rs).length ≤ 600) (b4 : kd.length ≤ 600) : ∃ f r' : Nat, E[f]? = some (false, r', kOf ks c) ∧ fy (A_TL_tellPart τ ss ρ (nI c)) = fy τ ∧ CT (A_TL_tellPart τ ss ρ (nI c)) rs ks kd.length ((r, p) :: lo) (E ++ [(true, f, kOf ks c)]) := by
  have hle := rPa_len hc
  have hta := ct_ta hT hW b4 hc
  obtain ⟨⟨h1, h2⟩, h3, ⟨h4, h5⟩, ⟨h6, h7⟩, c1, c2, c3, c4, c5⟩ := hT
  rcases h7 c hc hn with ⟨a1, -⟩ | ⟨f, r', a1, a2⟩
  · rw [hu] at a1; exact absurd a1 (by simp)
  · have hf := ge_lt a1
    refine ⟨f, r', a1, ?_⟩
    have he : A_TL_tellPart τ ss ρ (nI c) = A_TL_addStep (uTL_savedAs τ (A_IL_put (gTL_savedAs τ) (nI f) 0)) ((-2) - nI f) := by
      unfold A_TL_tellPart
      rw [cr_kind hC hW.2.2.1 (by omega) hc, hta, a2, cr_parts hC (by omega) hc, if_neg (nI_m1 (by omega)), if_neg (fun h => by have := (nI_is0 (by unfold nP at hn; omega)).mp h; unfold nP at hn; omega)]
      rfl
    rw [he]
    have hput : (A_IL_put (gTL_savedAs τ) (nI f) 0).1 = (gTL_savedAs τ).1.set f 0 := put_eq (by omega) (by omega) 0
    refine ⟨rfl, ⟨h1, h2⟩, ?_, ⟨?_, ?_⟩, ⟨h6, ?_⟩, cB_add c1 (by rw [h3, List.length_map]; omega) _, cB_add (cB_put c2 _ _) (by rw [hput]; simp; omega) _, c3, c4, c5⟩
    · show (gTL_steps τ).1 ++ [_] = _
      rw [h3, List.map_append]; rfl
    · show ((A_IL_put (gTL_savedAs τ) (nI f) 0).1 ++ [-1]).length = _
      rw [hput]; simp [h4]
    · intro i hi
      show ((A_IL_put (gTL_savedAs τ) (nI f) 0).1 ++ [-1]).getD i 0 = _
      rw [hput]
      simp only [List.length_append, List.length_cons, List.length_nil] at hi
      rw [svF_app]
      by_cases e : i = E.length
      · subst e
        have := getD_last ((gTL_savedAs τ).1.set f 0) 0 (-1)
        rw [List.length_set, h4] at this
        rw [this, svF_len hG]
        simp; omega
      · rw [getD_app _ (by simp; omega)]
        by_cases e2 : i = f
        · subst e2
          rw [getD_set (by omega)]; simp
        · rw [getD_set_ne e2, h5 i (by omega)]
          simp [Ne.symm e2]
    · intro q hq hnq
      rcases h7 q hq hnq with ⟨a1, a2⟩ | ⟨i, r', a1, a2⟩
      · left
        refine ⟨?_, a2⟩
        rw [tld_app, a1]; simp
      · exact Or.inr ⟨i, r', ge_up a1, a2⟩
end CTS
