/-! LEVEL B: the reference finds the first of the same, and the size -/
theorem lg_le {x y : Int64} : lg_cmp x y ≤ 0 ↔ ¬ y < x := by
  unfold lg_cmp
  by_cases h : y < x
  · simp [h]
  · by_cases h2 : x = y
    · simp [h2]
    · simp [h, h2]
/-- q is the first of its kind, and row n is the same -/
def isP (rs : tRS) (f : Nat → Nat) (n q : Nat) : Prop := f q = q ∧ rSt rs q = rSt rs n ∧ (rPa rs q).map f = (rPa rs n).map f
theorem RD_fs {μ : tMD} {tk : List Nat} {rs : tRS} {f : Nat → Nat} {F : Nat → Int32} (h : RD μ tk rs f) (hF : ∀ r, r < rs.length → ∀ p ∈ rPa rs r, F p = nI (f p)) : RD (uMD_firstSame μ F) tk rs f := by
  obtain ⟨h1, h2, h3, h4, h5, h6⟩ := h
  exact ⟨h1, h2, h3, h4, fun r hr => ⟨(h5 r hr).1, (h5 r hr).2.1, fun p hp => ⟨((h5 r hr).2.2 p hp).1, hF r hr p hp, ((h5 r hr).2.2 p hp).2.2⟩⟩, h6⟩
theorem fs_L {tk : List Nat} {rs : tRS} {f : Nat → Nat} {n g : Nat} (hn : rs.length = n + 1) (hpn : ∀ r, r < rs.length → ∀ p ∈ rPa rs r, p < n) (hg : (g = n ∧ ∀ q, q < n → ¬ isP rs f n q) ∨ (g < n ∧ isP rs f n g ∧ ∀ q, q < g → ¬ isP rs f n q)) (hfb : ∀ p, p < n → f p < 2 ^ 30) :
    ∀ (m q : Nat) (τ : tMD), q ≤ n → n + 1 < q + m → (∀ q', q' < q → ¬ isP rs f n q') → RD τ tk rs f → gMD_firstSame τ n = nI n → (∀ p, p < n → gMD_firstSame τ p = nI (f p)) → ∃ F : Nat → Int32, A_MD_findSame_L9 (nI n) m (nI q) τ = some (uMD_firstSame τ F) ∧ F n = nI g ∧ ∀ p, p < n → F p = nI (f p) := by
  intro m
  induction m with
  | zero => intro q τ h1 h2; omega
  | succ m ih =>
    intro q τ h1 h2 h3 hR hf1 hf2
    have hN : rs.length ≤ 2000 := hR.2.2.2.2.2.1
    rw [A_MD_findSame_L9]
    by_cases c : n ≤ q
    · rw [if_pos ((nI_leI (by omega) (by omega)).mpr c)]
      have eg : g = n := by
        rcases hg with ⟨e, -⟩ | ⟨e, e2, -⟩
        · exact e
        · exact absurd e2 (h3 g (by omega))
      exact ⟨gMD_firstSame τ, rfl, by rw [eg]; exact hf1, hf2⟩
    · rw [if_neg (fun h => c ((nI_leI (by omega) (by omega)).mp h)), if_neg (ng (by omega) (by omega)), nI_clamp (n := n) (by omega), hf1, if_pos rfl, if_neg (ng (by omega) (by omega)), nI_clamp (n := q) (by omega), hf2 q (by omega)]
      have step : (¬ isP rs f n q) → ∃ F : Nat → Int32, A_MD_findSame_L9 (nI n) m (nI q + 1) τ = some (uMD_firstSame τ F) ∧ F n = nI g ∧ ∀ p, p < n → F p = nI (f p) := by
        intro hq
        rw [nI_1]
        refine ih (q + 1) τ (by omega) (by omega) (fun q' hq' => ?_) hR hf1 hf2
        by_cases e : q' = q
        · rw [e]; exact hq
        · exact h3 q' (by omega)
      by_cases c1 : f q = q
      · rw [if_pos (by rw [c1]), ia_eq hR (a := q) (b := n) (by omega) (by omega)]
        by_cases c2 : rSt rs q = rSt rs n ∧ (rPa rs q).map f = (rPa rs n).map f
        · have hP : isP rs f n q := ⟨c1, c2⟩
          have eg : g = q := by
            rcases hg with ⟨-, e⟩ | ⟨e, e2, e3⟩
            · exact absurd hP (e q (by omega))
            · rcases Nat.lt_trichotomy g q with h | h | h
              · exact absurd e2 (h3 g h)
              · exact h
              · exact absurd hP (e3 q h)
          rw [if_pos c2]
          rw [Option.bind_some, if_neg (by decide), if_neg (ng2 (n := n) (by omega) (by omega))]
          simp only [bnd]
          refine ⟨upd (gMD_firstSame τ) n (nI q), ?_, by rw [pk_us, eg], fun p hp => by rw [pk_un (by omega)]; exact hf2 p hp⟩
          obtain ⟨m, rfl⟩ : ∃ z, m = z + 1 := ⟨m - 1, by omega⟩
          rw [A_MD_findSame_L9, nI_1]
          by_cases c3 : n ≤ q + 1
          · rw [if_pos ((nI_leI (by omega) (by omega)).mpr c3)]
          · rw [if_neg (fun h => c3 ((nI_leI (by omega) (by omega)).mp h)), if_neg (ng (by omega) (by omega)), nI_clamp (n := n) (by omega)]
            rw [if_neg]
            show ¬ upd (gMD_firstSame τ) n (nI q) n = nI n
            rw [pk_us]
            exact fun h => by have := (nI_eq (by omega) (by omega)).mp h; omega
        · rw [if_neg c2]
          rw [Option.bind_some, if_pos rfl]
          exact step (fun h => c2 h.2)
      · rw [if_neg (fun h => c1 ((nI_eq (by have := hfb q (by omega); omega) (by omega)).mp h))]
        exact step (fun h => c1 h.1)
theorem fs_eq {tk : List Nat} {rs : tRS} {f : Nat → Nat} {n g : Nat} (hn : rs.length = n + 1) (hpn : ∀ r, r < rs.length → ∀ p ∈ rPa rs r, p < n) (hg : (g = n ∧ ∀ q, q < n → ¬ isP rs f n q) ∨ (g < n ∧ isP rs f n g ∧ ∀ q, q < g → ¬ isP rs f n q)) (hfb : ∀ p, p < n → f p < 2 ^ 30) {τ : tMD} (hR : RD τ tk rs f) (hf2 : ∀ p, p < n → gMD_firstSame τ p = nI (f p)) : ∃ F : Nat → Int32, A_MD_findSame τ (nI n) = some (uMD_firstSame τ F) ∧ F n = nI g ∧ ∀ p, p < n → F p = nI (f p) := by
  have hN : rs.length ≤ 2000 := hR.2.2.2.2.2.1
  unfold A_MD_findSame
  rw [if_neg (ng (by omega) (by omega)), nI_clamp (by omega)]
  simp only [bnd]
  have hR2 : RD (uMD_firstSame τ (upd (gMD_firstSame τ) n (nI n))) tk rs f := RD_fs hR fun r hr p hp => by
    have := hpn r hr p hp
    rw [pk_un (by omega)]; exact hf2 p this
  obtain ⟨F, e1, e2, e3⟩ := fs_L hn hpn hg hfb fuelM 0 _ (Nat.zero_le _) (by unfold fuelM; omega) (fun q h => absurd h (Nat.not_lt_zero q)) hR2 pk_us (fun p hp => by
    show upd (gMD_firstSame τ) n (nI n) p = _
    rw [pk_un (by omega)]; exact hf2 p hp)
  rw [nI_0] at e1
  exact ⟨F, e1, e2, e3⟩
theorem sz_L {tk : List Nat} {rs : tRS} {f : Nat → Nat} {τ : tMD} (hR : RD τ tk rs f) {r : Nat} (hr : r < rs.length) {sz : List Nat} (hz : ∀ p ∈ rPa rs r, gMD_sizes τ p = lN (sz.getD p 0)) (hs : ∀ p, sz.getD p 0 ≤ 1000000000000000001) : ∀ (n k a : Nat), k ≤ (rPa rs r).length → (rPa rs r).length < k + n → a ≤ 1000000000000000001 → A_MD_findSize_L5 τ (nI r) n (lN a) (nI k) = some (uMD_sizes τ (vp_updL (gMD_sizes τ) r (lN (szF sz ((rPa rs r).drop k) a)))) := by
  obtain ⟨m1, m2, m3, m4⟩ := rd_takes hR hr
  have hN : rs.length ≤ 2000 := hR.2.2.2.2.2.1
  intro n
  induction n with
  | zero => intro k a e1 e2; omega
  | succ n ih =>
    intro k a e1 e2 e3
    rw [A_MD_findSize_L5, if_neg (ng (by omega) (by omega)), nI_clamp (n := r) (by omega), m1, if_neg (ng (by omega) (by omega)), nI_clamp (n := rSt rs r) (by omega), m3]
    by_cases c : (rPa rs r).length ≤ k
    · rw [if_pos ((nI_leI (by omega) (by omega)).mpr c), if_neg (ng2 (n := r) (by omega) (by omega)), List.drop_eq_nil_of_le c]; rfl
    · obtain ⟨f1, f2, f3, f4, f5, f6⟩ := rd_from hR hr (k := k) (by omega)
      have hk : k < (rPa rs r).length := by omega
      have z1 := hz _ (memD hk)
      have z2 := hs ((rPa rs r).getD k 0)
      rw [if_neg (fun h => c ((nI_leI (by omega) (by omega)).mp h)), if_neg (ng2 (n := r) (by omega) (by omega)), f1, if_neg (ng (by omega) (by omega)), nI_clamp (n := off rs r + k) (by omega), f3, if_neg (ng (by omega) (by omega)), nI_clamp (n := (rPa rs r).getD k 0) (by omega), z1, nI_1, lN_add, dc_cons (l := rPa rs r) (k := k) hk, szF]
      by_cases c2 : 1000000000000000000 < a + sz.getD ((rPa rs r).getD k 0) 0
      · rw [if_neg (by rw [lg_le]; exact fun h => h ((pk_lLT (a := 1000000000000000000) (by omega) (by omega)).mpr c2))]
        have e : (1000000000000000001 : Int64) = lN (min (a + sz.getD ((rPa rs r).getD k 0) 0) 1000000000000000001) := by rw [Nat.min_eq_right (by omega)]; rfl
        rw [e]
        exact ih (k + 1) _ (by omega) (by omega) (Nat.min_le_right _ _)
      · rw [if_pos (by rw [lg_le]; exact fun h => c2 ((pk_lLT (a := 1000000000000000000) (by omega) (by omega)).mp h))]
        have e : lN (a + sz.getD ((rPa rs r).getD k 0) 0) = lN (min (a + sz.getD ((rPa rs r).getD k 0) 0) 1000000000000000001) := by rw [Nat.min_eq_left (by omega)]
        rw [e]
        exact ih (k + 1) _ (by omega) (by omega) (Nat.min_le_right _ _)
theorem sz_eq {tk : List Nat} {rs : tRS} {f : Nat → Nat} {τ : tMD} (hR : RD τ tk rs f) {r : Nat} (hr : r < rs.length) {sz : List Nat} (hz : ∀ p ∈ rPa rs r, gMD_sizes τ p = lN (sz.getD p 0)) (hs : ∀ p, sz.getD p 0 ≤ 1000000000000000001) : A_MD_findSize τ (nI r) = some (uMD_sizes τ (vp_updL (gMD_sizes τ) r (lN (szF sz (rPa rs r) 1)))) := by
  obtain ⟨m1, m2, m3, m4⟩ := rd_takes hR hr
  have key := sz_L hR hr hz hs fuelM 0 1 (Nat.zero_le _) (by unfold fuelM; omega) (by decide)
  rw [nI_0, List.drop_zero] at key
  exact key
