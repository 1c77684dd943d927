/-! LEVEL B: the reference makes a row -/
/-- the end of make, behind its loop -/
def mkX (n : Int32) (τ : tMD) : Option (Int32 × tMD) := bnd (uMD_piled τ ((gMD_piled τ) - n)) (fun T53 => (A_MD_findSame T53 (gMD_rows T53)).bind (fun T56 => (A_MD_findSize T56 (gMD_rows T56)).bind (fun T79 => if (gMD_piled T79) < 0 ∨ 200 ≤ (gMD_piled T79).toNatClampNeg then none else (bnd (uMD_pile T79 (upd (gMD_pile T79) (gMD_piled T79).toNatClampNeg (gMD_rows T79))) (fun T102 => bnd (uMD_piled T102 ((gMD_piled T102) + 1)) (fun T104 => bnd (uMD_puts T104 ((gMD_puts T104) + 1)) (fun T106 => bnd (uMD_rows T106 ((gMD_rows T106) + 1)) (fun T108 => some ((gMD_rows T108) - 1, T108)))))))))
theorem mk_L {pl pa : List Nat} {N : Nat} (hN : N ≤ pl.length) (hl : pl.length ≤ 200) (hpa : pa.length + N ≤ 2000) : ∀ (m k : Nat) (τ : tMD), k ≤ N → N < k + m → gMD_piled τ = nI pl.length → aI (gMD_pile τ) pl → gMD_fromCount τ = nI (pa.length + k) → aI (gMD_froms τ) (pa ++ (pl.drop (pl.length - N)).take k) → ∃ (F : Nat → Int32), A_MD_make_L92 (nI N) m (nI k) τ = mkX (nI N) (uMD_fromCount (uMD_froms τ F) (nI (pa.length + N))) ∧ aI F (pa ++ pl.drop (pl.length - N)) := by
  intro m
  induction m with
  | zero => intro k τ h1 h2; omega
  | succ m ih =>
    intro k τ h1 h2 p1 p2 c1 c2
    rw [A_MD_make_L92]
    by_cases c : N ≤ k
    · rw [if_pos ((nI_leI (by omega) (by omega)).mpr c)]
      have e : k = N := by omega
      have e2 : (pl.drop (pl.length - N)).take k = pl.drop (pl.length - N) := List.take_of_length_le (by rw [List.length_drop]; omega)
      rw [e2] at c2
      rw [e] at c1
      refine ⟨gMD_froms τ, ?_, c2⟩
      rw [← c1]
      rfl
    · rw [if_neg (fun h => c ((nI_leI (by omega) (by omega)).mp h)), p1, pk_sub (by omega), nI_add, if_neg (ng (by omega) (by omega)), c1, if_neg (ng (by omega) (by omega)), nI_clamp (n := pa.length + k) (by omega), nI_clamp (n := pl.length - N + k) (by omega), p2 _ (by omega)]
      simp only [bnd]
      have ev : (pl.drop (pl.length - N))[k]'(by rw [List.length_drop]; omega) = pl.getD (pl.length - N + k) 0 := by
        rw [List.getElem_drop]
        simp [List.getD_eq_getElem?_getD, show pl.length - N + k < pl.length by omega]
      have et : (pl.drop (pl.length - N)).take (k + 1) = (pl.drop (pl.length - N)).take k ++ [pl.getD (pl.length - N + k) 0] := by
        rw [List.take_succ_eq_append_getElem (by rw [List.length_drop]; omega), ev]
      have hlen : (pa ++ (pl.drop (pl.length - N)).take k).length = pa.length + k := by
        rw [List.length_append, List.length_take, List.length_drop]; omega
      have hpush := aI_push c2 (pl.getD (pl.length - N + k) 0)
      rw [hlen, List.append_assoc, ← et] at hpush
      obtain ⟨F, e1, e2⟩ := ih (k + 1) (uMD_fromCount (uMD_froms τ (upd (gMD_froms τ) (pa.length + k) (nI (pl.getD (pl.length - N + k) 0)))) (nI (pa.length + k) + 1)) (by omega) (by omega) p1 p2 (by show nI (pa.length + k) + 1 = _; rw [nI_1]; rfl) hpush
      refine ⟨F, ?_, e2⟩
      rw [nI_1 k]
      have e3 : gMD_fromCount (uMD_froms τ (upd (gMD_froms τ) (pa.length + k) (nI (pl.getD (pl.length - N + k) 0)))) = nI (pa.length + k) := c1
      rw [e3]
      exact e1
section KPS
variable {j : Nat} {tk : List Nat} {rs : tRS} {ks fk : List Nat} {kd : tRS} {sz : List Nat}
theorem fk_inj (hW : WR j tk rs ks fk kd sz) {a b : Nat} (ha : a < kd.length) (hb : b < kd.length) (e : fk.getD a 0 = fk.getD b 0) : a = b := by
  have w9 := hW.2.2.2.2.2.2.2.2
  rcases Nat.lt_trichotomy a b with h | h | h
  · have := w9 a b h hb; omega
  · exact h
  · have := w9 b a h ha; omega
theorem map_f_iff (hW : WR j tk rs ks fk kd sz) : ∀ {l m : List Nat}, (∀ p ∈ l, p < rs.length) → (∀ p ∈ m, p < rs.length) → (l.map (fun p => fk.getD (kOf ks p) 0) = m.map (fun p => fk.getD (kOf ks p) 0) ↔ l.map (kOf ks) = m.map (kOf ks))
  | [], [], _, _ => by simp
  | [], b :: m, _, _ => by simp
  | a :: l, [], _, _ => by simp
  | a :: l, b :: m, h1, h2 => by
    simp only [List.map_cons, List.cons.injEq]
    rw [map_f_iff hW (fun p hp => h1 p (List.mem_cons_of_mem _ hp)) (fun p hp => h2 p (List.mem_cons_of_mem _ hp))]
    constructor
    · rintro ⟨e1, e2⟩
      exact ⟨fk_inj hW (kOf_lt hW (h1 a List.mem_cons_self)) (kOf_lt hW (h2 b List.mem_cons_self)) e1, e2⟩
    · rintro ⟨e1, e2⟩
      exact ⟨by rw [e1], e2⟩
/-- the first of the same of a new row, by its kind -/
theorem g_spec (hW : WR j tk rs ks fk kd sz) (hb : kd.length < 2 ^ 31) {s : Nat} {ps : List Nat} (hp : ∀ p ∈ ps, p < rs.length) :
    ((fkN fk rs.length kd (s, ps.map (kOf ks))).getD (kix kd (s, ps.map (kOf ks))) 0 = rs.length ∧ ∀ q, q < rs.length → ¬ isP (rs ++ [(s, ps)]) (fun p => fk.getD (kOf ks p) 0) rs.length q) ∨ ((fkN fk rs.length kd (s, ps.map (kOf ks))).getD (kix kd (s, ps.map (kOf ks))) 0 < rs.length ∧ isP (rs ++ [(s, ps)]) (fun p => fk.getD (kOf ks p) 0) rs.length ((fkN fk rs.length kd (s, ps.map (kOf ks))).getD (kix kd (s, ps.map (kOf ks))) 0) ∧ ∀ q, q < (fkN fk rs.length kd (s, ps.map (kOf ks))).getD (kix kd (s, ps.map (kOf ks))) 0 → ¬ isP (rs ++ [(s, ps)]) (fun p => fk.getD (kOf ks p) 0) rs.length q) := by
  have hW' := hW
  obtain ⟨w1, w2, w3, w4, w5, w6, w7, w8, w9⟩ := hW'
  have lastS : rSt (rs ++ [(s, ps)]) rs.length = s := by unfold rSt; rw [rs_last]
  have lastP : rPa (rs ++ [(s, ps)]) rs.length = ps := by unfold rPa; rw [rs_last]
  -- what isP says of an old row
  have key : ∀ q, q < rs.length → isP (rs ++ [(s, ps)]) (fun p => fk.getD (kOf ks p) 0) rs.length q → kd.getD (kOf ks q) (0, []) = (s, ps.map (kOf ks)) ∧ fk.getD (kOf ks q) 0 = q := by
    rintro q hq ⟨e1, e2, e3⟩
    rw [lastS] at e2
    rw [lastP] at e3
    have e4 : rSt (rs ++ [(s, ps)]) q = rSt rs q := by unfold rSt; rw [rs_app hq]
    have e5 : rPa (rs ++ [(s, ps)]) q = rPa rs q := by unfold rPa; rw [rs_app hq]
    rw [e4] at e2
    rw [e5, map_f_iff hW (fun p hpp => by have := ((w2 q hq).2.2 p hpp).1; omega) hp] at e3
    refine ⟨?_, e1⟩
    rw [(w6 q hq).2.1]
    show (rSt rs q, (rPa rs q).map (kOf ks)) = _
    rw [e2, e3]
  rcases kN_cases (s, ps.map (kOf ks)) hb fk rs.length with ⟨e1, e2, e3, e4⟩ | ⟨e1, e2, e3, e4⟩
  · left
    rw [e1, e3, ← w4, getD_last]
    exact ⟨rfl, fun q hq h => e4 _ (kOf_lt hW hq) (key q hq h).1⟩
  · right
    rw [e4]
    obtain ⟨f1, f2⟩ := w8 _ e1
    refine ⟨f1, ⟨by show fk.getD (kOf ks _) 0 = _; rw [f2], ?_, ?_⟩, fun q hq h => ?_⟩
    · rw [lastS]
      have h := (w6 _ f1).2.1
      rw [f2, e2] at h
      have e5 : rSt (rs ++ [(s, ps)]) (fk.getD (kix kd (s, ps.map (kOf ks))) 0) = rSt rs (fk.getD (kix kd (s, ps.map (kOf ks))) 0) := by unfold rSt; rw [rs_app f1]
      rw [e5]
      exact (congrArg Prod.fst h).symm
    · rw [lastP]
      have h := (w6 _ f1).2.1
      rw [f2, e2] at h
      have e5 : rPa (rs ++ [(s, ps)]) (fk.getD (kix kd (s, ps.map (kOf ks))) 0) = rPa rs (fk.getD (kix kd (s, ps.map (kOf ks))) 0) := by unfold rPa; rw [rs_app f1]
      rw [e5, map_f_iff hW (fun p hpp => by have := ((w2 _ f1).2.2 p hpp).1; omega) hp]
      exact (congrArg Prod.snd h).symm
    · have hq' : q < rs.length := by omega
      obtain ⟨k1, k2⟩ := key q hq' h
      have := w7 _ _ (kOf_lt hW hq') e1 (k1.trans e2.symm)
      rw [this] at k2
      omega
end KPS
