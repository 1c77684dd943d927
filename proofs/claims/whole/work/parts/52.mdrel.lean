/-! LEVEL B: the reference's telling against the pure one -/
def eD : tE := (false, 0, 0)
def tld (E : List tE) (κ : Nat) : Bool := E.any (fun e => !e.1 && e.2.2 == κ)
def svK (E : List tE) (κ : Nat) : Bool := E.any (fun e => e.1 && e.2.2 == κ)
def svF (E : List tE) (f : Nat) : Bool := E.any (fun e => e.1 && e.2.1 == f)
theorem tld_app (E : List tE) (e : tE) (κ : Nat) : tld (E ++ [e]) κ = (tld E κ || (!e.1 && e.2.2 == κ)) := by simp [tld]
theorem svK_app (E : List tE) (e : tE) (κ : Nat) : svK (E ++ [e]) κ = (svK E κ || (e.1 && e.2.2 == κ)) := by simp [svK]
theorem svF_app (E : List tE) (e : tE) (κ : Nat) : svF (E ++ [e]) κ = (svF E κ || (e.1 && e.2.1 == κ)) := by simp [svF]
theorem tld_iff {E : List tE} {κ : Nat} : tld E κ = true ↔ ∃ i r : Nat, E[i]? = some (false, r, κ) := by
  unfold tld
  rw [List.any_eq_true]
  constructor
  · rintro ⟨⟨b, r, κ'⟩, h1, h2⟩
    obtain ⟨i, hi⟩ := List.getElem?_of_mem h1
    cases b
    · simp at h2
      subst h2
      exact ⟨i, r, hi⟩
    · simp at h2
  · rintro ⟨i, r, h⟩
    exact ⟨_, List.mem_of_getElem? h, by simp⟩
theorem svF_iff {E : List tE} {f : Nat} : svF E f = true ↔ ∃ i κ : Nat, E[i]? = some (true, f, κ) := by
  unfold svF
  rw [List.any_eq_true]
  constructor
  · rintro ⟨⟨b, r, κ'⟩, h1, h2⟩
    obtain ⟨i, hi⟩ := List.getElem?_of_mem h1
    cases b
    · simp at h2
    · simp at h2
      subst h2
      exact ⟨i, κ', hi⟩
  · rintro ⟨i, r, h⟩
    exact ⟨_, List.mem_of_getElem? h, by simp⟩
theorem svK_iff {E : List tE} {κ : Nat} : svK E κ = true ↔ ∃ i f : Nat, E[i]? = some (true, f, κ) := by
  unfold svK
  rw [List.any_eq_true]
  constructor
  · rintro ⟨⟨b, r, κ'⟩, h1, h2⟩
    obtain ⟨i, hi⟩ := List.getElem?_of_mem h1
    cases b
    · simp at h2
    · simp at h2
      subst h2
      exact ⟨i, r, hi⟩
  · rintro ⟨i, r, h⟩
    exact ⟨_, List.mem_of_getElem? h, by simp⟩
def tR (rs : tRS) (fk : List Nat) (e : tE) : Int32 := if e.1 then (-2) - nI (fk.getD e.2.2 0) else nI (rSt rs e.2.1)
/-- the reference, telling -/
def MT (μ : tMD) (rs : tRS) (ks fk : List Nat) (st : List (Nat × Nat)) (E : List tE) : Prop :=
  (aI (gMD_walk μ) (st.map Prod.fst).reverse ∧ aI (gMD_walkAt μ) (st.map Prod.snd).reverse) ∧ gMD_steps μ = nI E.length ∧
  (∀ i, i < E.length → gMD_toldStep μ i = tR rs fk (E.getD i eD) ∧ gMD_stepRow μ i = nI (fk.getD (E.getD i eD).2.2 0)) ∧
  (∀ r, r < rs.length → 0 < nP rs r → gMD_isTold μ (fk.getD (kOf ks r) 0) = if tld E (kOf ks r) then 1 else 0) ∧
  (∀ r, r < rs.length → gMD_isSaved μ (fk.getD (kOf ks r) 0) = if svK E (kOf ks r) then 1 else 0)
theorem aI_pre {f : Nat → Int32} {l : List Nat} {x : Nat} (h : aI f (l ++ [x])) : aI f l := fun i hi => by
  rw [h i (by simp; omega), getD_app _ hi]
theorem aI_top {f : Nat → Int32} {l : List Nat} {x : Nat} (h : aI f (l ++ [x])) : f l.length = nI x := by
  rw [h _ (by simp), getD_last]
theorem aI_last {f : Nat → Int32} {l : List Nat} {x : Nat} (h : aI f (l ++ [x])) (y : Nat) : aI (upd f l.length (nI y)) (l ++ [y]) := aI_push (aI_pre h) y
section MTS
variable {j : Nat} {tk md : List Nat} {rs : tRS} {ks fk : List Nat} {kd : tRS} {sz : List Nat} {top : Nat} {lo : List (Nat × Nat)} {E : List tE} {r p : Nat} {μ : tMD}
/-- what the telling reads: rows and statements of the reference -/
def MB (μ : tMD) (tk : List Nat) (rs : tRS) (ks fk sz : List Nat) : Prop := MR (gMD_rows μ) (gMD_makers μ) (gMD_fromAt μ) (gMD_firstSame μ) (gMD_sizes μ) (gMD_froms μ) (gMD_fromCount μ) rs ks fk sz ∧ aI (gMD_takes μ) tk
theorem MB_fx {μ' : tMD} (h : MB μ tk rs ks fk sz) (e : fx μ' = fx μ) : MB μ' tk rs ks fk sz := by
  obtain ⟨e1, e2, e3, e4, e5, e6, e7, e8, e9, e10, e11, -⟩ := fx_out e
  unfold MB
  rw [e2, e5, e6, e7, e8, e9, e10, e11]
  exact h
theorem fk_lt (hW : WR j tk rs ks fk kd sz) (hr : r < rs.length) : fk.getD (kOf ks r) 0 < rs.length := (hW.2.2.2.2.2.2.2.1 _ (kOf_lt hW hr)).1
theorem mt_top (hW : WR j tk rs ks fk kd sz) (hB : MB μ tk rs ks fk sz) (hM : MT μ rs ks fk ((r, p) :: lo) E) (b1 : tk.length ≤ 512) (b2 : rs.length ≤ 600) (b3 : (paL rs).length ≤ 600) (hl : lo.length < 600) (hr : r < rs.length) (hp : p ≤ nP rs r) : MTop μ lo.length r (rSt rs r) (nP rs r) p (fk.getD (kOf ks r) 0) := by
  obtain ⟨hR, hT⟩ := hB
  obtain ⟨⟨w1, w2⟩, -⟩ := hM
  obtain ⟨v1, v2, v3⟩ := hW.2.1 r hr
  have hfk := fk_lt hW hr
  have hle := rPa_len hr
  simp only [List.map_cons, List.reverse_cons] at w1 w2
  have q1 := aI_top w1
  have q2 := aI_top w2
  simp only [List.length_reverse, List.length_map] at q1 q2
  refine ⟨⟨q1, ?_, ?_, q2, hR.2.2.2.1 r hr⟩, by omega, by omega, by omega, by unfold nP; omega, by unfold nP at hp; omega, by omega⟩
  · rw [hR.2.1 r (by simpa using hr), rs_st hr]
  · rw [hT _ v1, ← v2]; rfl
theorem nI_m1d (n : Nat) : nI (n + 1) + (-1) = nI n := by
  rw [← nI_1, Int32.add_assoc]
  simp
/-- the depth as the reference counts it -/
def dpI (n : Nat) : Int32 := nI n + (-1)
theorem dpI_s (n : Nat) : dpI (n + 1) = nI n := nI_m1d n
theorem mt_own (hW : WR j tk rs ks fk kd sz) (hB : MB μ tk rs ks fk sz) (hT : TI rs ks top ((r, nP rs r) :: lo) E) (hM : MT μ rs ks fk ((r, nP rs r) :: lo) E) (ht : top < rs.length) (b1 : tk.length ≤ 512) (b2 : rs.length ≤ 600) (b3 : (paL rs).length ≤ 600) (m : Nat) :
    ∃ μ', A_MD_tellAll_L51 (m + 1) (dpI (lo.length + 1)) μ = A_MD_tellAll_L51 m (dpI lo.length) μ' ∧ fx μ' = fx μ ∧ MT μ' rs ks fk lo (E ++ [(false, r, kOf ks r)]) := by
  have hr := hT.1.1
  have hE := TI_len hT
  have hup := (up_row hW hT.1.2.2 ht).1
  have htop := mt_top hW hB hM b1 b2 b3 (by omega) hr (Nat.le_refl _)
  obtain ⟨⟨w1, w2⟩, m3, m4, m5, m6⟩ := hM
  rw [dpI_s, ta_own htop (Nat.le_refl _) (fun h => h) m, ta_tell (by rw [gu_MD_steps_isTold]; exact m3) (by omega)]
  simp only [List.map_cons, List.reverse_cons] at w1 w2
  generalize hX : uMD_isTold μ (upd (gMD_isTold μ) (fk.getD (kOf ks r) 0) (if nP rs r = 0 then 0 else 1)) = X
  have hXf : fx X = fx μ := by rw [← hX]; rfl
  have x1 : gMD_walk X = gMD_walk μ := by rw [← hX]; rfl
  have x2 : gMD_walkAt X = gMD_walkAt μ := by rw [← hX]; rfl
  have x3 : gMD_toldStep X = gMD_toldStep μ := by rw [← hX]; rfl
  have x4 : gMD_stepRow X = gMD_stepRow μ := by rw [← hX]; rfl
  have x5 : gMD_isTold X = upd (gMD_isTold μ) (fk.getD (kOf ks r) 0) (if nP rs r = 0 then 0 else 1) := by rw [← hX]; rfl
  have x6 : gMD_isSaved X = gMD_isSaved μ := by rw [← hX]; rfl
  refine ⟨_, rfl, ?_, ?_⟩
  · rw [fx_steps, fx_stepRow, fx_toldStep]; exact hXf
  · unfold MT
    simp only [gu_MD_walk_steps, gu_MD_walk_stepRow, gu_MD_walk_toldStep, gu_MD_walkAt_steps, gu_MD_walkAt_stepRow, gu_MD_walkAt_toldStep, gu_MD_steps_steps, gu_MD_steps_stepRow, gu_MD_steps_toldStep, gu_MD_toldStep_steps, gu_MD_toldStep_stepRow, gu_MD_toldStep_toldStep, gu_MD_stepRow_steps, gu_MD_stepRow_stepRow, gu_MD_stepRow_toldStep, gu_MD_isTold_steps, gu_MD_isTold_stepRow, gu_MD_isTold_toldStep, gu_MD_isSaved_steps, gu_MD_isSaved_stepRow, gu_MD_isSaved_toldStep]
    rw [x1, x2, x3, x4, x5, x6]
    refine ⟨⟨aI_pre w1, aI_pre w2⟩, by simp, fun i hi => ?_, fun q hq hn => ?_, fun q hq => ?_⟩
    · simp only [List.length_append, List.length_cons, List.length_nil] at hi
      by_cases c : i = E.length
      · subst c
        rw [pk_us, pk_us, getD_last]
        exact ⟨rfl, rfl⟩
      · rw [pk_un c, pk_un c, getD_app _ (by omega)]
        exact m4 i (by omega)
    · rw [tld_app]
      by_cases c : kOf ks q = kOf ks r
      · rw [c, pk_us, if_neg (by have := nP_kind hW hq hr c; omega)]
        simp
      · rw [pk_un (fun e => c (fk_inj hW (kOf_lt hW hq) (kOf_lt hW hr) e)), m5 q hq hn]
        simp [Ne.symm c]
    · rw [svK_app, m6 q hq]
      simp
theorem mt_ref (hW : WR j tk rs ks fk kd sz) (hB : MB μ tk rs ks fk sz) (hM : MT μ rs ks fk ((r, 0) :: lo) E) (hr : r < rs.length) (hn : 0 < nP rs r) (ht : tld E (kOf ks r) = true) (hE : E.length < 2000) (hl : lo.length < 600) (b1 : tk.length ≤ 512) (b2 : rs.length ≤ 600) (b3 : (paL rs).length ≤ 600) (m f : Nat) :
    ∃ μ', A_MD_tellAll_L51 (m + 1) (dpI (lo.length + 1)) μ = A_MD_tellAll_L51 m (dpI lo.length) μ' ∧ fx μ' = fx μ ∧ MT μ' rs ks fk lo (E ++ [(true, f, kOf ks r)]) := by
  have htop := mt_top hW hB hM b1 b2 b3 (by omega) hr (Nat.zero_le _)
  obtain ⟨⟨w1, w2⟩, m3, m4, m5, m6⟩ := hM
  rw [dpI_s, ta_ref htop hn (by rw [m5 r hr hn, ht, if_pos rfl]) m, ta_tell (by rw [gu_MD_steps_isSaved]; exact m3) (by omega)]
  simp only [List.map_cons, List.reverse_cons] at w1 w2
  generalize hX : uMD_isSaved μ (upd (gMD_isSaved μ) (fk.getD (kOf ks r) 0) 1) = X
  have hXf : fx X = fx μ := by rw [← hX]; rfl
  have x1 : gMD_walk X = gMD_walk μ := by rw [← hX]; rfl
  have x2 : gMD_walkAt X = gMD_walkAt μ := by rw [← hX]; rfl
  have x3 : gMD_toldStep X = gMD_toldStep μ := by rw [← hX]; rfl
  have x4 : gMD_stepRow X = gMD_stepRow μ := by rw [← hX]; rfl
  have x5 : gMD_isTold X = gMD_isTold μ := by rw [← hX]; rfl
  have x6 : gMD_isSaved X = upd (gMD_isSaved μ) (fk.getD (kOf ks r) 0) 1 := by rw [← hX]; rfl
  refine ⟨_, rfl, ?_, ?_⟩
  · rw [fx_steps, fx_stepRow, fx_toldStep]; exact hXf
  · unfold MT
    simp only [gu_MD_walk_steps, gu_MD_walk_stepRow, gu_MD_walk_toldStep, gu_MD_walkAt_steps, gu_MD_walkAt_stepRow, gu_MD_walkAt_toldStep, gu_MD_steps_steps, gu_MD_steps_stepRow, gu_MD_steps_toldStep, gu_MD_toldStep_steps, gu_MD_toldStep_stepRow, gu_MD_toldStep_toldStep, gu_MD_stepRow_steps, gu_MD_stepRow_stepRow, gu_MD_stepRow_toldStep, gu_MD_isTold_steps, gu_MD_isTold_stepRow, gu_MD_isTold_toldStep, gu_MD_isSaved_steps, gu_MD_isSaved_stepRow, gu_MD_isSaved_toldStep]
    rw [x1, x2, x3, x4, x5, x6]
    refine ⟨⟨aI_pre w1, aI_pre w2⟩, by simp, fun i hi => ?_, fun q hq hn => ?_, fun q hq => ?_⟩
    · simp only [List.length_append, List.length_cons, List.length_nil] at hi
      by_cases c : i = E.length
      · subst c
        rw [pk_us, pk_us, getD_last]
        exact ⟨rfl, rfl⟩
      · rw [pk_un c, pk_un c, getD_app _ (by omega)]
        exact m4 i (by omega)
    · rw [tld_app, m5 q hq hn]
      simp
    · rw [svK_app]
      by_cases c : kOf ks q = kOf ks r
      · rw [c, pk_us]
        simp
      · rw [pk_un (fun e => c (fk_inj hW (kOf_lt hW hq) (kOf_lt hW hr) e)), m6 q hq]
        simp [Ne.symm c]
theorem TI_untold (h : TI rs ks top ((r, p) :: lo) E) (hn : 0 < nP rs r) : tld E (kOf ks r) = false ∨ ∃ i r' : Nat, E[i]? = some (false, r', kOf ks r) ∧ nP rs r' = 0 := by
  obtain ⟨h1, h2, h3, h4, h5⟩ := h
  by_cases c : tld E (kOf ks r) = true
  · right
    obtain ⟨i, r', hi⟩ := tld_iff.mp c
    refine ⟨i, r', hi, ?_⟩
    apply Classical.byContradiction
    intro hne
    unfold ndp at h4
    simp only [List.map_cons, List.cons_append] at h4
    rw [List.filter_cons, if_pos (by simpa using hn), List.map_cons, List.nodup_cons] at h4
    refine h4.1 (List.mem_map.mpr ⟨r', List.mem_filter.mpr ⟨List.mem_append.mpr (Or.inr (oR_mem.mpr ⟨i, _, hi⟩)), by simp; omega⟩, (h2.1 i r' _ hi).2.1.symm⟩)
  · left; simpa using c
theorem TI_unt (hW : WR j tk rs ks fk kd sz) (h : TI rs ks top ((r, p) :: lo) E) (hn : 0 < nP rs r) : tld E (kOf ks r) = false := by
  rcases TI_untold h hn with e | ⟨i, r', hi, h0⟩
  · exact e
  · obtain ⟨a1, a2, -⟩ := h.2.1.1 i r' _ hi
    have := nP_kind hW h.1.1 a1 a2
    omega
theorem mt_push (hW : WR j tk rs ks fk kd sz) (hB : MB μ tk rs ks fk sz) (hT : TI rs ks top ((r, p) :: lo) E) (hp : p < nP rs r) (hM : MT μ rs ks fk ((r, p) :: lo) E) (ht : top < rs.length) (b1 : tk.length ≤ 512) (b2 : rs.length ≤ 600) (b3 : (paL rs).length ≤ 600) (m : Nat) :
    ∃ μ', A_MD_tellAll_L51 (m + 1) (dpI (lo.length + 1)) μ = A_MD_tellAll_L51 m (dpI (lo.length + 2)) μ' ∧ fx μ' = fx μ ∧ MT μ' rs ks fk (((rPa rs r).getD p 0, 0) :: (r, p + 1) :: lo) E := by
  have hr := hT.1.1
  have hup := (up_row hW hT.1.2.2 ht).1
  have htop := mt_top hW hB hM b1 b2 b3 (by omega) hr (Nat.le_of_lt hp)
  have hun := TI_unt hW hT (by omega)
  have hi := off_in hr hp
  obtain ⟨hR, -⟩ := hB
  obtain ⟨⟨w1, w2⟩, m3, m4, m5, m6⟩ := hM
  have hc : gMD_froms μ (off rs r + p) = nI ((rPa rs r).getD p 0) := by rw [hR.2.2.2.2.2.1 _ hi, paL_get hr hp]
  rw [dpI_s, dpI_s, ta_push htop hp (fun _ => by rw [m5 r hr (by omega), hun, if_neg (by simp)]) (hR.2.2.1 r hr) (by omega) hc m]
  refine ⟨_, rfl, ?_, ?_⟩
  · rw [fx_walkAt, fx_walk, fx_walkAt]
  · unfold MT
    simp only [gu_MD_walk_walk, gu_MD_walk_walkAt, gu_MD_walkAt_walk, gu_MD_walkAt_walkAt, gu_MD_steps_walk, gu_MD_steps_walkAt, gu_MD_toldStep_walk, gu_MD_toldStep_walkAt, gu_MD_stepRow_walk, gu_MD_stepRow_walkAt, gu_MD_isTold_walk, gu_MD_isTold_walkAt, gu_MD_isSaved_walk, gu_MD_isSaved_walkAt]
    refine ⟨⟨?_, ?_⟩, m3, m4, m5, m6⟩
    · have := aI_push w1 ((rPa rs r).getD p 0)
      simp only [List.length_reverse, List.length_map, List.length_cons] at this
      simpa using this
    · simp only [List.map_cons, List.reverse_cons] at w2
      have h1 := aI_push (aI_last w2 (p + 1)) 0
      simp only [List.length_append, List.length_reverse, List.length_map, List.length_cons, List.length_nil, nI_0] at h1
      simpa using h1
end MTS
