/-! LEVEL B: what was packed still makes its row when rows are added -/
section STY
variable {rs : tRS} {ks : List Nat} {q : Nat × List Nat} {κ' : Nat}
theorem rSt_app {r : Nat} (h : r < rs.length) : rSt (rs ++ [q]) r = rSt rs r := by unfold rSt; rw [getD_appL h]
theorem rPa_app {r : Nat} (h : r < rs.length) : rPa (rs ++ [q]) r = rPa rs r := by unfold rPa; rw [getD_appL h]
theorem nP_app {r : Nat} (h : r < rs.length) : nP (rs ++ [q]) r = nP rs r := by unfold nP; rw [rPa_app h]
theorem stk_ext : ∀ (E : List tE) (S : List Nat), (∀ e ∈ E, e.1 = false → e.2.1 < rs.length) → E.foldl (stp (rs ++ [q])) S = E.foldl (stp rs) S
  | [], S, _ => rfl
  | (b, x, κ) :: E, S, h => by
    have e : stp (rs ++ [q]) S (b, x, κ) = stp rs S (b, x, κ) := by
      unfold stp
      cases b
      · have := h (false, x, κ) List.mem_cons_self rfl
        simp only [Bool.false_eq_true, if_false]
        rw [nP_app this]
      · rfl
    rw [List.foldl_cons, List.foldl_cons, e]
    exact stk_ext E _ (fun e he => h e (List.mem_cons_of_mem _ he))
theorem GE_rows {E : List tE} (hG : GE rs ks E) : ∀ e ∈ E, e.1 = false → e.2.1 < rs.length := by
  rintro ⟨b, x, κ⟩ he hb
  obtain ⟨i, hi⟩ := List.getElem?_of_mem he
  simp only at hb
  subst hb
  exact (hG.1 i x κ hi).1
theorem CK_app {τ : tTL} (h : CkR τ rs ks) (hk : ks.length = rs.length) (hp : ∀ r, r < rs.length → ∀ p ∈ rPa rs r, p < r) : CkR τ (rs ++ [q]) (ks ++ [κ']) := by
  rcases h with h | ⟨top, E, ht, h1, hE, hG, hT, hN⟩
  · exact Or.inl h
  · have hrow := GE_rows hG
    have hst : ∀ k, stk (rs ++ [q]) (E.take k) = stk rs (E.take k) := fun k => stk_ext _ _ (fun e he => hrow e (List.mem_of_mem_take he))
    refine Or.inr ⟨top, E, by simp only [List.length_append, List.length_cons, List.length_nil]; omega, h1, hE, ⟨fun k r κ he => ?_, fun k f κ he => ?_⟩, ?_, ?_⟩
    · obtain ⟨g1, g2, g3, g4⟩ := hG.1 k r κ he
      refine ⟨by simp only [List.length_append, List.length_cons, List.length_nil]; omega, by rw [kOf_app (by omega)]; exact g2, by rw [hst, nP_app g1]; exact g3, ?_⟩
      rw [hst, nP_app g1, g4, rPa_app g1]
      refine List.map_congr_left (fun p hpm => ?_)
      rw [kOf_app (by have := hp r g1 p hpm; omega)]
    · obtain ⟨g1, r, g2, g3⟩ := hG.2 k f κ he
      exact ⟨g1, r, g2, by rw [nP_app (hG.1 f r κ g2).1]; exact g3⟩
    · have := hst E.length
      rw [List.take_length] at this
      rw [this, hT, kOf_app (by omega)]
    · obtain ⟨⟨n1, n2⟩, n3, n4⟩ := hN
      refine ⟨⟨n1, fun i hi => ?_⟩, n3, n4⟩
      rw [n2 i hi, if_pos hi, if_pos hi]
      obtain ⟨b, x, κ, e1, e2⟩ := e_get hi
      rw [e2]
      cases b
      · show nI (rSt rs x) = nI (rSt (rs ++ [q]) x)
        rw [rSt_app (hG.1 i x κ e1).1]
      · rfl
end STY
