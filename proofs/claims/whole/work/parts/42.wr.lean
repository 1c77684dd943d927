/-! LEVEL B: rows stay well behind a new one -/
theorem kOf_app {ks : List Nat} {κ p : Nat} (h : p < ks.length) : kOf (ks ++ [κ]) p = kOf ks p := getD_appL h
theorem kOf_last (ks : List Nat) (κ : Nat) : kOf (ks ++ [κ]) ks.length = κ := getD_last _ _ _
theorem rs_app {rs : tRS} {q : Nat × List Nat} {r : Nat} (h : r < rs.length) : (rs ++ [q]).getD r (0, []) = rs.getD r (0, []) := getD_appL h
theorem rs_last (rs : tRS) (q : Nat × List Nat) : (rs ++ [q]).getD rs.length (0, []) = q := getD_last _ _ _
theorem kdN_get {kd : tRS} {q : Nat × List Nat} {a : Nat} (h : a < kd.length) : a < (kdN kd q).length ∧ (kdN kd q).getD a (0, []) = kd.getD a (0, []) := by
  unfold kdN
  split
  · exact ⟨by simp; omega, getD_appL h⟩
  · exact ⟨h, rfl⟩
theorem fkN_get {fk : List Nat} {kd : tRS} {q : Nat × List Nat} {n a : Nat} (h : a < fk.length) : (fkN fk n kd q).getD a 0 = fk.getD a 0 := by
  unfold fkN
  split
  · exact getD_appL h
  · rfl
theorem kN_cases {kd : tRS} (q : Nat × List Nat) (hb : kd.length < 2 ^ 31) (fk : List Nat) (n : Nat) : (kix kd q = kd.length ∧ kdN kd q = kd ++ [q] ∧ fkN fk n kd q = fk ++ [n] ∧ ∀ a, a < kd.length → kd.getD a (0, []) ≠ q) ∨ (kix kd q < kd.length ∧ kd.getD (kix kd q) (0, []) = q ∧ kdN kd q = kd ∧ fkN fk n kd q = fk) := by
  unfold kix kdN fkN
  rcases fdn_cases (kd := kd) (q := q) kd.length with ⟨h, h'⟩ | ⟨a, ha, e1, e2⟩
  · simp only [if_pos h]; exact Or.inl ⟨trivial, trivial, trivial, h'⟩
  · have c : ¬ fdn kd q kd.length = -1 := by rw [e2]; exact nI_m1 (by omega)
    simp only [if_neg c]
    rw [e2, nI_clamp (by omega)]
    exact Or.inr ⟨ha, e1, trivial, trivial⟩
theorem sig_app {ks : List Nat} {κ : Nat} {q : Nat × List Nat} (h : ∀ p ∈ q.2, p < ks.length) : sig (ks ++ [κ]) q = sig ks q := by
  unfold sig
  congr 1
  exact List.map_congr_left fun p hp => kOf_app (h p hp)
theorem WR_new {j : Nat} {tk : List Nat} {rs : tRS} {ks fk : List Nat} {kd : tRS} {sz : List Nat} (hW : WR j tk rs ks fk kd sz) (hb : kd.length < 2 ^ 31) {s : Nat} {ps : List Nat} (hs : s < tk.length) (hl : ps.length = tk.getD s 0) (hp : ∀ p ∈ ps, p < rs.length) (z : Nat) :
    WR (j + 1) tk (rs ++ [(s, ps)]) (ks ++ [kix kd (s, ps.map (kOf ks))]) (fkN fk rs.length kd (s, ps.map (kOf ks))) (kdN kd (s, ps.map (kOf ks))) (sz ++ [z]) := by
  obtain ⟨w1, w2, w3, w4, w5, w6, w7, w8, w9⟩ := hW
  have hq : sig ks (s, ps) = (s, ps.map (kOf ks)) := rfl
  generalize hqd : (s, ps.map (kOf ks)) = q at hq ⊢
  have hpk : ∀ p ∈ ps, kOf ks p < kix kd q := by
    intro p hpp
    have h1 := (w6 p (hp p hpp)).1
    rcases kN_cases q hb fk rs.length with ⟨e1, -⟩ | ⟨e1, e2, -⟩
    · omega
    · obtain ⟨f1, f2⟩ := w8 _ e1
      have f3 := (w6 _ f1).2.1
      rw [f2, e2] at f3
      have f4 : ps.map (kOf ks) = (rPa rs (fk.getD (kix kd q) 0)).map (kOf ks) := by
        have f5 := congrArg Prod.snd f3
        rw [← congrArg Prod.snd hqd] at f5
        exact f5
      have f5 : kOf ks p ∈ (rPa rs (fk.getD (kix kd q) 0)).map (kOf ks) := by rw [← f4]; exact List.mem_map_of_mem hpp
      obtain ⟨p', hp', e⟩ := List.mem_map.mp f5
      have f6 := ((w2 _ f1).2.2 p' hp').2
      rw [f2] at f6
      omega
  have hkx := kix_lt (q := q) hb
  refine ⟨by simp; omega, ?_, by simp [w3], ?_, by simp [w5], ?_, kdN_nodup hb w7, ?_, ?_⟩
  · intro r hr
    simp only [List.length_append, List.length_cons, List.length_nil] at hr
    by_cases e : r = rs.length
    · subst e
      unfold rSt rPa
      rw [rs_last]
      refine ⟨hs, hl, fun p hpp => ⟨hp p hpp, ?_⟩⟩
      rw [kOf_app (by rw [w3]; exact hp p hpp), ← w3, kOf_last]
      exact hpk p hpp
    · have hr' : r < rs.length := by omega
      unfold rSt rPa
      rw [rs_app hr']
      obtain ⟨h1, h2, h3⟩ := w2 r hr'
      refine ⟨h1, h2, fun p hpp => ?_⟩
      have h4 := h3 p hpp
      rw [kOf_app (by omega), kOf_app (by omega)]
      exact h4
  · rcases kN_cases q hb fk rs.length with ⟨-, e2, e3, -⟩ | ⟨-, -, e2, e3⟩
    · rw [e2, e3]; simp [w4]
    · rw [e2, e3]; exact w4
  · intro r hr
    simp only [List.length_append, List.length_cons, List.length_nil] at hr
    by_cases e : r = rs.length
    · subst e
      rw [rs_last, ← w3, kOf_last]
      refine ⟨hkx.1, ?_, ?_⟩
      · rw [hkx.2, sig_app (by rw [w3]; exact hp), hq]
      · rcases kN_cases q hb fk rs.length with ⟨e1, -, e3, -⟩ | ⟨e1, -, -, e3⟩
        · rw [w3, e1, e3, ← w4, getD_last]; exact Nat.le_refl _
        · rw [w3, e3]; exact Nat.le_of_lt (w8 _ e1).1
    · have hr' : r < rs.length := by omega
      rw [rs_app hr', kOf_app (by omega)]
      obtain ⟨h1, h2, h3⟩ := w6 r hr'
      refine ⟨(kdN_get h1).1, ?_, ?_⟩
      · rw [(kdN_get h1).2, h2, sig_app]
        intro p hpp
        have := ((w2 r hr').2.2 p hpp).1
        omega
      · rw [fkN_get (by omega)]; exact h3
  · intro a ha
    rcases kN_cases q hb fk rs.length with ⟨e1, e2, e3, -⟩ | ⟨-, -, e2, e3⟩
    · rw [e2] at ha
      simp only [List.length_append, List.length_cons, List.length_nil] at ha
      rw [e3]
      by_cases e : a = kd.length
      · rw [e, ← w4, getD_last]
        refine ⟨by simp, ?_⟩
        rw [← w3, kOf_last, w4, e1]
      · rw [getD_appL (by omega)]
        have h := w8 a (by omega)
        exact ⟨by simp only [List.length_append]; omega, by rw [kOf_app (by omega)]; exact h.2⟩
    · rw [e2] at ha
      rw [e3]
      have h := w8 a ha
      exact ⟨by simp only [List.length_append]; omega, by rw [kOf_app (by omega)]; exact h.2⟩
  · intro a b hab hb'
    rcases kN_cases q hb fk rs.length with ⟨e1, e2, e3, -⟩ | ⟨-, -, e2, e3⟩
    · rw [e2] at hb'
      simp only [List.length_append, List.length_cons, List.length_nil] at hb'
      rw [e3]
      by_cases e : b = kd.length
      · rw [e, ← w4, getD_last, getD_appL (by omega)]
        exact (w8 a (by omega)).1
      · rw [getD_appL (by omega), getD_appL (by omega)]
        exact w9 a b hab (by omega)
    · rw [e2] at hb'
      rw [e3]
      exact w9 a b hab hb'
