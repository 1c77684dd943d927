/-! LEVEL B: the system makes a row -/
theorem getD_appL {α : Type} {l m : List α} {d : α} {i : Nat} (h : i < l.length) : (l ++ m).getD i d = l.getD i d := by simp [List.getD_eq_getElem?_getD, List.getElem?_append_left h]
theorem getD_mapN {α : Type} {l : List Nat} {f : Nat → α} {d : α} {i : Nat} (h : i < l.length) : (l.map f).getD i d = f (l.getD i 0) := by simp [List.getD_eq_getElem?_getD, h]
/-- the tables that the search reads, as lists -/
def KT (fk : List Nat) (kd : tRS) (st' of' pk' : List Nat) : Prop := fk.length = kd.length ∧ (∀ a, a < kd.length → fk.getD a 0 < st'.length ∧ st'.getD (fk.getD a 0) 0 = (kd.getD a (0, [])).1) ∧ (∀ a, a < kd.length → fk.getD a 0 < of'.length ∧ ∀ k, k < (kd.getD a (0, [])).2.length → of'.getD (fk.getD a 0) 0 + k < pk'.length ∧ pk'.getD (of'.getD (fk.getD a 0) 0 + k) 0 = (kd.getD a (0, [])).2.getD k 0) ∧ ∀ a, a < kd.length → (kd.getD a (0, [])).1 < 2 ^ 30 ∧ ∀ v ∈ (kd.getD a (0, [])).2, v < 2 ^ 30
theorem KT_app {fk : List Nat} {kd : tRS} {st' of' pk' : List Nat} (h : KT fk kd st' of' pk') (a b c : List Nat) : KT fk kd (st' ++ a) (of' ++ b) (pk' ++ c) := by
  obtain ⟨h0, h1, h2, h3⟩ := h
  refine ⟨h0, fun x hx => ?_, fun x hx => ?_, h3⟩
  · obtain ⟨e1, e2⟩ := h1 x hx
    exact ⟨by rw [List.length_append]; omega, by rw [getD_appL e1]; exact e2⟩
  · obtain ⟨e1, e2⟩ := h2 x hx
    refine ⟨by rw [List.length_append]; omega, fun k hk => ?_⟩
    obtain ⟨e3, e4⟩ := e2 k hk
    rw [getD_appL e1]
    exact ⟨by rw [List.length_append]; omega, by rw [getD_appL e3]; exact e4⟩
theorem KL_of {X : tRW} {fk : List Nat} {kd : tRS} {st' of' pk' : List Nat} (hT : KT fk kd st' of' pk') (h1 : lI (gRW_firstOfKind X) fk) (h2 : lI (gRW_statements X) st') (h3 : lI (gRW_starts X) of') (h4 : lI (gRW_partKinds X) pk') (b1 : kd.length < 2 ^ 30) (b2 : st'.length < 2 ^ 30) (b3 : of'.length < 2 ^ 30) (b4 : pk'.length < 2 ^ 30)
    (ho : (gRW_olderKind X).1.length = kd.length ∧ (∀ a, a < kd.length → (gRW_olderKind X).1.getD a 0 = lst kd (bkt (kd.getD a (0, []))) a) ∧ (∀ b : Int32, gRW_newestKind X (b &&& 511).toNatClampNeg = lst kd (b &&& 511) kd.length)) : KL X kd := by
  obtain ⟨h0, t1, t2, t3⟩ := hT
  refine ⟨?_, b1, fun a ha => ?_, fun a ha => ?_, ho.2.2⟩
  · show A_IL_length (gRW_firstOfKind X) = _
    rw [lI_length h1, h0]
  · obtain ⟨e1, e2⟩ := t1 a ha
    obtain ⟨e3, e4⟩ := t2 a ha
    rw [lI_at h1 (by omega) (by omega)]
    refine ⟨?_, (t3 a ha).1, (t3 a ha).2, fun k hk => ?_⟩
    · show A_IL_at (gRW_statements X) _ = _
      rw [lI_at h2 e1 (by omega), e2]
    · obtain ⟨e5, e6⟩ := e4 k hk
      rw [lI_at h3 e3 (by omega), nI_add, lI_at h4 e5 (by omega), e6]
  · rw [il_at (by omega) (by omega), ho.2.1 a ha]
section ADD
variable {ρ : tRW} {rs : tRS} {ks fk : List Nat} {kd : tRS} {sz tk : List Nat} {j : Nat}
theorem kOf_lt (hW : WR j tk rs ks fk kd sz) {r : Nat} (hr : r < rs.length) : kOf ks r < kd.length := (hW.2.2.2.2.2.1 r hr).1
theorem KT_of (hW : WR j tk rs ks fk kd sz) (htk : tk.length < 2 ^ 30) (hkd : kd.length < 2 ^ 30) : KT fk kd (rs.map Prod.fst) ((List.range (rs.length + 1)).map (off rs)) ((paL rs).map (kOf ks)) := by
  obtain ⟨-, w2, w3, w4, -, w6, w7, w8, -⟩ := hW
  refine ⟨w4, fun a ha => ?_, fun a ha => ?_, fun a ha => ?_⟩
  · obtain ⟨e1, e2⟩ := w8 a ha
    refine ⟨by simpa using e1, ?_⟩
    have h := (w6 _ e1).2.1
    rw [e2] at h
    rw [rs_st e1, h]; rfl
  · obtain ⟨e1, e2⟩ := w8 a ha
    have h := (w6 _ e1).2.1
    rw [e2] at h
    generalize fk.getD a 0 = f at e1 e2 h ⊢
    refine ⟨by simp; omega, fun k hk => ?_⟩
    rw [h] at hk ⊢
    have hk' : k < (rPa rs (f)).length := by simpa [sig, rPa] using hk
    have ho : ((List.range (rs.length + 1)).map (off rs)).getD (f) 0 = off rs (f) := by
      rw [getD_mapN (by simp; omega)]
      congr 1
      simp [List.getD_eq_getElem?_getD, show f < rs.length + 1 by omega]
    rw [ho]
    have hi := off_in e1 hk'
    refine ⟨by simpa using hi, ?_⟩
    rw [getD_mapN hi, paL_get e1 hk']
    show _ = ((rPa rs (f)).map (kOf ks)).getD k 0
    rw [getD_mapN hk']
  · obtain ⟨e1, e2⟩ := w8 a ha
    have h := (w6 _ e1).2.1
    rw [e2] at h
    rw [h]
    have hs := (w2 _ e1)
    refine ⟨show rSt rs (fk.getD a 0) < 2 ^ 30 by omega, fun v hv => ?_⟩
    obtain ⟨p, hp, rfl⟩ := List.mem_map.mp hv
    have hp' := (hs.2.2 p hp).1
    have := (w6 p (by omega)).1
    omega
theorem kl_of (hC : CR ρ rs ks fk kd sz) (hW : WR j tk rs ks fk kd sz) (htk : tk.length < 2 ^ 30) (hkd : kd.length < 2 ^ 30) (hn : rs.length < 2 ^ 29) (hp : (paL rs).length < 2 ^ 30) : KL ρ kd :=
  KL_of (KT_of hW htk hkd) hC.1.2.2.2.2.2 hC.1.1 hC.1.2.1 hC.1.2.2.2.1 hkd (by simp; omega) (by simp; omega) (by simpa using hp) hC.2.1
/-- the loop that takes the parts off the pile -/
theorem add_L {x : tIL} {pl : List Nat} (hx : lI x pl) (hl : pl.length < 2 ^ 30) {under : Nat} (hu : under ≤ pl.length) (hpl : ∀ p ∈ pl.drop under, p < rs.length) (hC : CR ρ rs ks fk kd sz) (hks : ks.length = rs.length) (hn : rs.length < 2 ^ 30) (hb : (paL rs).length + pl.length ≤ 2048) (st r start : Int32) :
    ∀ (n k : Nat) (τ : tRW), under ≤ k → k ≤ pl.length → pl.length < k + n → (gRW_statements τ = gRW_statements ρ ∧ gRW_starts τ = gRW_starts ρ ∧ gRW_kinds τ = gRW_kinds ρ ∧ gRW_firstOfKind τ = gRW_firstOfKind ρ ∧ gRW_olderKind τ = gRW_olderKind ρ ∧ gRW_newestKind τ = gRW_newestKind ρ ∧ gRW_steps τ = gRW_steps ρ) → lI (gRW_parts τ) (paL rs ++ (pl.drop under).take (k - under)) → lI (gRW_partKinds τ) ((paL rs).map (kOf ks) ++ ((pl.drop under).take (k - under)).map (kOf ks)) → cB 2048 (gRW_parts τ) → cB 2048 (gRW_partKinds τ) →
    ∃ τ' : tRW, (gRW_statements τ' = gRW_statements ρ ∧ gRW_starts τ' = gRW_starts ρ ∧ gRW_kinds τ' = gRW_kinds ρ ∧ gRW_firstOfKind τ' = gRW_firstOfKind ρ ∧ gRW_olderKind τ' = gRW_olderKind ρ ∧ gRW_newestKind τ' = gRW_newestKind ρ ∧ gRW_steps τ' = gRW_steps ρ) ∧ lI (gRW_parts τ') (paL rs ++ pl.drop under) ∧ lI (gRW_partKinds τ') ((paL rs).map (kOf ks) ++ (pl.drop under).map (kOf ks)) ∧ cB 2048 (gRW_parts τ') ∧ cB 2048 (gRW_partKinds τ') ∧
      A_RW_add_L18 x st r start n (nI k) τ = (bnd (A_RW_kindOfNewRow (uRW_statements (uRW_starts τ' (A_IL_add (gRW_starts τ') (A_IL_length (gRW_parts τ')))) (A_IL_add (gRW_statements τ') st)) r start) (fun T42 => bnd (A_RW_keepSteps (uRW_kinds T42.2 (A_IL_add (gRW_kinds T42.2) T42.1)) r (A_RW_countSteps (uRW_kinds T42.2 (A_IL_add (gRW_kinds T42.2) T42.1)) r)) (fun T67 => (r, T67)))) := by
  intro n
  induction n with
  | zero => intro k τ h1 h2 h3; omega
  | succ n ih =>
    intro k τ h1 h2 h3 hs hp hq hc1 hc2
    rw [A_RW_add_L18, lI_length hx]
    by_cases c : pl.length ≤ k
    · rw [if_pos ((nI_leI (by omega) (by omega)).mpr c)]
      have e : (pl.drop under).take (k - under) = pl.drop under := List.take_of_length_le (by simp; omega)
      rw [e] at hp hq
      exact ⟨τ, hs, hp, hq, hc1, hc2, rfl⟩
    · rw [if_neg (fun h => c ((nI_leI (by omega) (by omega)).mp h)), lI_at hx (by omega) (by omega), nI_1]
      have hk : k - under < (pl.drop under).length := by simp; omega
      have ev : (pl.drop under)[k - under] = pl.getD k 0 := by
        rw [List.getElem_drop]
        simp only [show under + (k - under) = k by omega]
        simp [List.getD_eq_getElem?_getD, show k < pl.length by omega]
      have et : (pl.drop under).take (k + 1 - under) = (pl.drop under).take (k - under) ++ [pl.getD k 0] := by
        rw [show k + 1 - under = (k - under) + 1 by omega, List.take_succ_eq_append_getElem hk, ev]
      have hv : pl.getD k 0 < rs.length := by
        rw [← ev]; exact hpl _ (List.getElem_mem hk)
      have hkind : A_RW_kindOf (uRW_parts τ (A_IL_add (gRW_parts τ) (nI (pl.getD k 0)))) (nI (pl.getD k 0)) = nI (kOf ks (pl.getD k 0)) := by
        show A_IL_at (gRW_kinds τ) _ = _
        rw [hs.2.2.1]
        exact lI_at hC.1.2.2.2.2.1 (by omega) (by omega)
      rw [hkind]
      have hpl1 : (gRW_parts τ).1.length ≤ 2048 := by rw [lI_len hp]; simp; omega
      have hpl2 : (gRW_partKinds τ).1.length ≤ 2048 := by rw [lI_len hq]; simp; omega
      refine ih (k + 1) _ (by omega) (by omega) (by omega) hs ?_ ?_ ?_ ?_
      · show lI (A_IL_add (gRW_parts τ) (nI (pl.getD k 0))) _
        rw [et, ← List.append_assoc]
        exact lI_add hp _
      · show lI (A_IL_add (gRW_partKinds τ) (nI (kOf ks (pl.getD k 0)))) _
        rw [et, List.map_append, List.map_cons, List.map_nil, ← List.append_assoc]
        exact lI_add hq _
      · exact cB_add hc1 hpl1 _
      · exact cB_add hc2 hpl2 _
end ADD
