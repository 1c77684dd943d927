/-! THE LAYER: worlds by blocks, readers' and writers' contracts, calls by them -/
theorem bk_mem {D : va_G} {cl : List vw_C} {ws : va_W} {H : Heap} : va_P D cl ws H ↔ ∀ q ∈ ws, va_at D cl q H := by
  constructor
  · intro h q hq
    obtain ⟨k, hk⟩ := List.getElem?_of_mem hq
    exact h k q hk
  · intro h k q hk
    exact h q (List.mem_of_getElem? hk)
theorem bk_nd {A : Nat → Prop} {ws : va_W} : va_D A ws ↔ (ws.map Prod.fst).Nodup ∧ ∀ q ∈ ws, A q.1 := by
  constructor
  · intro h
    refine ⟨?_, fun q hq => ?_⟩
    · rw [List.Nodup, List.pairwise_map, List.pairwise_iff_getElem]
      intro i j hi hj hij he
      have := h.1 i j ws[i] ws[j] (List.getElem?_eq_getElem hi) (List.getElem?_eq_getElem hj) he
      omega
    · obtain ⟨k, hk⟩ := List.getElem?_of_mem hq
      exact h.2 k q hk
  · intro ⟨h1, h2⟩
    refine ⟨fun i j p q hi hj he => ?_, fun k q hk => h2 q (List.mem_of_getElem? hk)⟩
    rw [List.Nodup, List.pairwise_map, List.pairwise_iff_getElem] at h1
    obtain ⟨hi', rfl⟩ := List.getElem?_eq_some_iff.mp hi
    obtain ⟨hj', rfl⟩ := List.getElem?_eq_some_iff.mp hj
    rcases Nat.lt_trichotomy i j with h | h | h
    · exact absurd he (h1 i j hi' hj' h)
    · exact h
    · exact absurd he.symm (h1 j i hj' hi' h)
theorem bk_A {w : va_W} {sz q : Nat} : va_A w sz q ↔ (∃ x ∈ w, x.1 = q) ∨ sz ≤ q := by
  constructor
  · rintro (⟨k, e, h⟩ | h)
    · exact Or.inl ⟨_, List.mem_of_getElem? h, rfl⟩
    · exact Or.inr h
  · rintro (⟨x, hx, rfl⟩ | h)
    · obtain ⟨k, hk⟩ := List.getElem?_of_mem hx
      exact Or.inl ⟨k, x.2, hk⟩
    · exact Or.inr h
/-- two worlds with no address in common -/
def bk_ap (w1 w2 : va_W) : Prop := ∀ p ∈ w1, ∀ q ∈ w2, p.1 ≠ q.1
theorem bk_ap_symm {w1 w2 : va_W} (h : bk_ap w1 w2) : bk_ap w2 w1 := fun p hp q hq e => h q hq p hp e.symm
/-- a world cut into blocks -/
def bk (D : va_G) (cl : List vw_C) (A : Nat → Prop) (bs : List va_W) (H : Heap) : Prop := va_P D cl bs.flatten H ∧ va_D A bs.flatten
theorem bk_split : ∀ (bs : List va_W) (k : Nat) (wc : va_W), bs[k]? = some wc → ∃ T E : va_W, bs.flatten = T ++ (wc ++ E) ∧ ∀ w, (bs.set k w).flatten = T ++ (w ++ E)
  | [], k, wc, h => by simp at h
  | b :: bs, 0, wc, h => by
    simp at h; subst h
    exact ⟨[], bs.flatten, by simp, fun w => by simp⟩
  | b :: bs, k + 1, wc, h => by
    simp at h
    obtain ⟨T, E, h1, h2⟩ := bk_split bs k wc h
    exact ⟨b ++ T, E, by simp [h1], fun w => by simp [h2]⟩
section BK
variable {D : va_G} {cl : List vw_C} {A : Nat → Prop} {bs : List va_W} {H H1 H0 : Heap} {k : Nat} {wc w1 w w2 : va_W} {locs : List Loc}
theorem bk_get (h : bk D cl A bs H) (hk : bs[k]? = some w) : va_P D cl w H := by
  obtain ⟨T, E, e1, -⟩ := bk_split bs k w hk
  have h1 := h.1
  rw [e1, bk_mem] at h1
  exact bk_mem.mpr fun q hq => h1 q (by simp [hq])
theorem bk_own (h : bk D cl A bs H) (hk : bs[k]? = some w) : va_D (fun _ => True) w := by
  obtain ⟨T, E, e1, -⟩ := bk_split bs k w hk
  have h1 := h.2
  rw [e1, bk_nd] at h1
  simp only [List.map_append, List.nodup_append] at h1
  exact bk_nd.mpr ⟨h1.1.2.1.1, fun _ _ => trivial⟩
theorem bk_inA (h : bk D cl A bs H) (hk : bs[k]? = some w) (hA : ∀ q, H.size ≤ q → A q) : ∀ q, va_A w H.size q → A q := by
  obtain ⟨T, E, e1, -⟩ := bk_split bs k w hk
  have h1 := h.2
  rw [e1, bk_nd] at h1
  intro q hq
  rcases bk_A.mp hq with ⟨x, hx, rfl⟩ | hq
  · exact h1.2 x (by simp [hx])
  · exact hA q hq
theorem bk_dj {i j : Nat} (h : bk D cl A bs H) (hij : i < j) (hi : bs[i]? = some w1) (hj : bs[j]? = some w2) : bk_ap w1 w2 := by
  have key : ∀ (bs : List va_W) (i j : Nat), i < j → bs[i]? = some w1 → bs[j]? = some w2 → (bs.flatten.map Prod.fst).Nodup → bk_ap w1 w2 := by
    intro bs
    induction bs with
    | nil => intro i j _ hi; simp at hi
    | cons b bs ih =>
      intro i j hij hi hj hn
      rw [List.flatten_cons, List.map_append, List.nodup_append] at hn
      cases j with
      | zero => omega
      | succ j =>
        cases i with
        | zero =>
          simp at hi hj
          subst hi
          intro p hp q hq
          refine hn.2.2 _ (List.mem_map_of_mem hp) _ (List.mem_map_of_mem ?_)
          exact List.mem_flatten.mpr ⟨w2, List.mem_of_getElem? hj, hq⟩
        | succ i =>
          simp at hi hj
          exact ih i j (by omega) hi hj hn.2.1
  exact key bs i j hij hi hj (bk_nd.mp h.2).1
theorem bk_dj' {i j : Nat} (h : bk D cl A bs H) (hij : i ≠ j) (hi : bs[i]? = some w1) (hj : bs[j]? = some w2) : bk_ap w1 w2 := by
  rcases Nat.lt_or_gt_of_ne hij with g | g
  · exact bk_dj h g hi hj
  · exact bk_ap_symm (bk_dj h g hj hi)
/-- behind a call that had block k for its own -/
theorem bk_set (h : bk D cl A bs H) (hk0 : bs[k]? = some wc) (hk : ∀ q : Nat, q < H.size → ¬ va_A wc H.size q → H1[q]? = H[q]?) (hA : ∀ q, H.size ≤ q → A q) (hP1 : va_P D cl w1 H1) (hD1 : va_D (va_A wc H.size) w1) : bk D cl A (bs.set k w1) H1 := by
  have hin := bk_inA h hk0 hA
  obtain ⟨T, E, e1, e2⟩ := bk_split bs k wc hk0
  obtain ⟨hP, hD⟩ := h
  unfold bk
  rw [e1] at hP hD
  rw [e2]
  rw [bk_mem] at hP hP1
  rw [bk_nd] at hD hD1
  simp only [List.map_append, List.nodup_append, List.mem_append] at hP hD
  obtain ⟨⟨nT, ⟨nC, nE, dCE⟩, dT⟩, hAll⟩ := hD
  have apT : ∀ q ∈ T, q.1 < H.size ∧ ¬ va_A wc H.size q.1 := by
    intro q hq
    have hl := (hP q (Or.inl hq)).lt
    refine ⟨hl, fun hv => ?_⟩
    rcases bk_A.mp hv with ⟨x, hx, ex⟩ | hv
    · exact dT q.1 (List.mem_map_of_mem hq) x.1 (Or.inl (List.mem_map_of_mem hx)) ex.symm
    · omega
  have apE : ∀ q ∈ E, q.1 < H.size ∧ ¬ va_A wc H.size q.1 := by
    intro q hq
    have hl := (hP q (Or.inr (Or.inr hq))).lt
    refine ⟨hl, fun hv => ?_⟩
    rcases bk_A.mp hv with ⟨x, hx, ex⟩ | hv
    · exact dCE x.1 (List.mem_map_of_mem hx) q.1 (List.mem_map_of_mem hq) ex
    · omega
  constructor
  · rw [bk_mem]
    intro q hq
    simp only [List.mem_append] at hq
    rcases hq with hq | hq | hq
    · exact (hP q (Or.inl hq)).kept (hk q.1 (apT q hq).1 (apT q hq).2)
    · exact hP1 q hq
    · exact (hP q (Or.inr (Or.inr hq))).kept (hk q.1 (apE q hq).1 (apE q hq).2)
  · rw [bk_nd]
    simp only [List.map_append, List.nodup_append, List.mem_append]
    refine ⟨⟨nT, ⟨hD1.1, nE, ?_⟩, ?_⟩, ?_⟩
    · intro a ha b hb e
      obtain ⟨x, hx, rfl⟩ := List.mem_map.mp ha
      obtain ⟨z, hz, rfl⟩ := List.mem_map.mp hb
      exact (apE z hz).2 (e ▸ hD1.2 x hx)
    · intro a ha b hb e
      obtain ⟨x, hx, rfl⟩ := List.mem_map.mp ha
      rcases hb with hb | hb
      · obtain ⟨z, hz, rfl⟩ := List.mem_map.mp hb
        exact (apT x hx).2 (e ▸ hD1.2 z hz)
      · exact dT _ ha b (Or.inr hb) e
    · intro q hq
      rcases hq with hq | hq | hq
      · exact hAll q (Or.inl hq)
      · exact hin q.1 (hD1.2 q hq)
      · exact hAll q (Or.inr (Or.inr hq))
/-- what is only read stays as it was at the method's start -/
theorem ro_keep (hS : va_S A H0 H locs) (hr : va_P D cl w H0) (ha : ∀ q ∈ w, ¬ A q.1) : va_P D cl w H := by
  rw [bk_mem] at hr ⊢
  exact fun q hq => (hr q hq).kept (hS.2.1 q.1 (hr q hq).lt (ha q hq))
theorem ro_A (hr : va_P D cl w H0) (ha : bk_ap wc w) : ∀ q ∈ w, ¬ va_A wc H0.size q.1 := by
  rw [bk_mem] at hr
  intro q hq hv
  rcases bk_A.mp hv with ⟨x, hx, ex⟩ | hv
  · exact ha x hx q hq ex
  · exact absurd (hr q hq).lt (by omega)
theorem ro_F {q : Nat} (h : w = []) (hv : va_A w H.size q) : H.size ≤ q := by
  subst h
  rcases bk_A.mp hv with ⟨x, hx, -⟩ | h
  · cases hx
  · exact h
end BK
