/-! LEVEL B: rows, as a list of (statement, parts) -/
abbrev tRS : Type := List (Nat × List Nat)
def off (rs : tRS) (r : Nat) : Nat := ((rs.take r).map (fun q => q.2.length)).sum
def paL (rs : tRS) : List Nat := (rs.map (fun q => q.2)).flatten
def rSt (rs : tRS) (r : Nat) : Nat := (rs.getD r (0, [])).1
def rPa (rs : tRS) (r : Nat) : List Nat := (rs.getD r (0, [])).2
theorem off_0 (rs : tRS) : off rs 0 = 0 := by simp [off]
theorem off_le (rs : tRS) : off rs rs.length = (paL rs).length := by
  unfold off paL
  rw [List.take_length, List.length_flatten, List.map_map]
  rfl
theorem off_app {rs : tRS} {q : Nat × List Nat} {r : Nat} (h : r ≤ rs.length) : off (rs ++ [q]) r = off rs r := by
  unfold off
  rw [List.take_append_of_le_length h]
theorem off_last (rs : tRS) (q : Nat × List Nat) : off (rs ++ [q]) (rs.length + 1) = off rs rs.length + q.2.length := by
  unfold off
  rw [List.take_of_length_le (by simp), List.take_length]
  simp
theorem paL_app (rs : tRS) (q : Nat × List Nat) : paL (rs ++ [q]) = paL rs ++ q.2 := by simp [paL]
theorem rGet {rs : tRS} {r : Nat} (h : r < rs.length) : rs.getD r (0, []) = rs[r] := by simp [List.getD_eq_getElem?_getD, h]
theorem off_succ {rs : tRS} {r : Nat} (h : r < rs.length) : off rs (r + 1) = off rs r + (rPa rs r).length := by
  unfold off rPa
  rw [List.take_succ_eq_append_getElem h, rGet h]
  simp only [List.map_append, List.sum_append, List.map_cons, List.map_nil, List.sum_cons, List.sum_nil, Nat.add_zero]
theorem off_mono {rs : tRS} : ∀ {a b : Nat}, a ≤ b → b ≤ rs.length → off rs a ≤ off rs b := by
  intro a b hab
  induction b with
  | zero => intro _; rw [show a = 0 by omega]; exact Nat.le_refl _
  | succ b ih =>
    intro hb
    by_cases e : a = b + 1
    · rw [e]; exact Nat.le_refl _
    · rw [off_succ (by omega)]
      have := ih (by omega) (by omega)
      omega
theorem paL_get {rs : tRS} : ∀ {r k : Nat}, r < rs.length → k < (rPa rs r).length → (paL rs).getD (off rs r + k) 0 = (rPa rs r).getD k 0 := by
  induction rs with
  | nil => intro r k h; simp at h
  | cons q rs ih =>
    intro r k h hk
    cases r with
    | zero =>
      have hk' : k < q.2.length := by simpa [rPa] using hk
      simp only [off_0, Nat.zero_add, paL, rPa, List.map_cons, List.flatten_cons]
      simp [List.getD_eq_getElem?_getD, List.getElem?_append_left hk']
    | succ r =>
      have hr : r < rs.length := by simpa using h
      have e : off (q :: rs) (r + 1) = q.2.length + off rs r := by simp [off]
      have e2 : rPa (q :: rs) (r + 1) = rPa rs r := by simp [rPa]
      rw [e2] at hk ⊢
      rw [e, ← ih hr hk]
      simp only [paL, List.map_cons, List.flatten_cons]
      rw [List.getD_eq_getElem?_getD, List.getElem?_append_right (by omega), ← List.getD_eq_getElem?_getD]
      congr 1
      omega
theorem off_in {rs : tRS} {r k : Nat} (h : r < rs.length) (hk : k < (rPa rs r).length) : off rs r + k < (paL rs).length := by
  have h1 := off_succ h
  have h2 := off_mono (rs := rs) (a := r + 1) (b := rs.length) (by omega) (Nat.le_refl _)
  rw [off_le] at h2
  omega
theorem rPa_len {rs : tRS} {r : Nat} (h : r < rs.length) : off rs r + (rPa rs r).length ≤ (paL rs).length := by
  have h1 := off_succ h
  have h2 := off_mono (rs := rs) (a := r + 1) (b := rs.length) (by omega) (Nat.le_refl _)
  rw [off_le] at h2
  omega
def kOf (ks : List Nat) (p : Nat) : Nat := ks.getD p 0
/-- a row's signature: its statement, its parts' kinds -/
def sig (ks : List Nat) (q : Nat × List Nat) : Nat × List Nat := (q.1, q.2.map (kOf ks))
/-- the bucket of a signature, as the system mixes it -/
def mixL (m : Int32) : List Nat → Int32
  | [] => m
  | a :: l => mixL (31 * m + nI a) l
def bkt (q : Nat × List Nat) : Int32 := mixL (nI q.1) q.2 &&& 511
/-- the last kind below m in bucket b -/
def lst (kd : tRS) (b : Int32) : Nat → Int32
  | 0 => -1
  | m + 1 => if bkt (kd.getD m (0, [])) = b then nI m else lst kd b m
/-- what rows, kinds are -/
def WR (j : Nat) (tk : List Nat) (rs : tRS) (ks fk : List Nat) (kd : tRS) (sz : List Nat) : Prop :=
  rs.length ≤ j ∧ (∀ r, r < rs.length → rSt rs r < tk.length ∧ (rPa rs r).length = tk.getD (rSt rs r) 0 ∧ ∀ p ∈ rPa rs r, p < r ∧ kOf ks p < kOf ks r) ∧
  ks.length = rs.length ∧ fk.length = kd.length ∧ sz.length = rs.length ∧
  (∀ r, r < rs.length → kOf ks r < kd.length ∧ kd.getD (kOf ks r) (0, []) = sig ks (rs.getD r (0, [])) ∧ fk.getD (kOf ks r) 0 ≤ r) ∧
  (∀ a b, a < kd.length → b < kd.length → kd.getD a (0, []) = kd.getD b (0, []) → a = b) ∧
  (∀ a, a < kd.length → fk.getD a 0 < rs.length ∧ kOf ks (fk.getD a 0) = a) ∧ (∀ a b, a < b → b < kd.length → fk.getD a 0 < fk.getD b 0)
/-- the system's rows -/
def CR (ρ : tRW) (rs : tRS) (ks fk : List Nat) (kd : tRS) (sz : List Nat) : Prop :=
  (lI (gRW_statements ρ) (rs.map Prod.fst) ∧ lI (gRW_starts ρ) ((List.range (rs.length + 1)).map (off rs)) ∧ lI (gRW_parts ρ) (paL rs) ∧ lI (gRW_partKinds ρ) ((paL rs).map (kOf ks)) ∧ lI (gRW_kinds ρ) ks ∧ lI (gRW_firstOfKind ρ) fk) ∧
  ((gRW_olderKind ρ).1.length = kd.length ∧ (∀ a, a < kd.length → (gRW_olderKind ρ).1.getD a 0 = lst kd (bkt (kd.getD a (0, []))) a) ∧ (∀ b : Int32, gRW_newestKind ρ (b &&& 511).toNatClampNeg = lst kd (b &&& 511) kd.length)) ∧
  (rs.length ≤ (gRW_steps ρ).2 ∧ 1 ≤ (gRW_steps ρ).2 ∧ (gRW_steps ρ).2 ≤ 4096 ∧ ∀ r, r < rs.length → (gRW_steps ρ).1 r = lN (sz.getD r 0)) ∧
  cB 2048 (gRW_statements ρ) ∧ cB 2048 (gRW_starts ρ) ∧ cB 2048 (gRW_parts ρ) ∧ cB 2048 (gRW_partKinds ρ) ∧ cB 2048 (gRW_kinds ρ) ∧ cB 2048 (gRW_firstOfKind ρ) ∧ cB 2048 (gRW_olderKind ρ)
/-- the reference's -/
def MR (n : Int32) (makers fromAt firstSame : Nat → Int32) (sizes : Nat → Int64) (froms : Nat → Int32) (fc : Int32) (rs : tRS) (ks fk sz : List Nat) : Prop :=
  n = nI rs.length ∧ aI makers (rs.map Prod.fst) ∧ (∀ r, r < rs.length → fromAt r = nI (off rs r)) ∧ (∀ r, r < rs.length → firstSame r = nI (fk.getD (kOf ks r) 0)) ∧ (∀ r, r < rs.length → sizes r = lN (sz.getD r 0)) ∧ aI froms (paL rs) ∧ fc = nI (paL rs).length
section CRS
variable {ρ : tRW} {rs : tRS} {ks fk : List Nat} {kd : tRS} {sz tk : List Nat} {j : Nat}
theorem cr_amount (h : CR ρ rs ks fk kd sz) : A_RW_amount ρ = nI rs.length := by
  show A_IL_length (gRW_statements ρ) = _
  rw [lI_length h.1.1]; simp
theorem cr_kinds (h : CR ρ rs ks fk kd sz) (hW : WR j tk rs ks fk kd sz) : A_RW_amountOfKinds ρ = nI kd.length := by
  show A_IL_length (gRW_firstOfKind ρ) = _
  rw [lI_length h.1.2.2.2.2.2, hW.2.2.2.1]
theorem cr_has (h : CR ρ rs ks fk kd sz) (hl : rs.length < 2 ^ 31) {r : Nat} (hr : r < rs.length) : A_RW_has ρ (nI r) = 1 := by
  unfold A_RW_has
  rw [if_neg (nI_pos (by omega)), lI_length h.1.1, if_neg (by simp only [List.length_map]; rw [nI_leI (by omega) (by omega)]; omega)]
theorem cr_hasno (h : CR ρ rs ks fk kd sz) {x : Int32} (hx : x < 0 ∨ nI rs.length ≤ x) : A_RW_has ρ x = 0 := by
  unfold A_RW_has
  rw [lI_length h.1.1]
  by_cases h1 : x < 0
  · rw [if_pos h1]
  · rw [if_neg h1, if_pos (by simpa using hx.resolve_left h1)]
theorem rs_st {r : Nat} (hr : r < rs.length) : (rs.map Prod.fst).getD r 0 = rSt rs r := by
  unfold rSt; rw [rGet hr]; simp [List.getD_eq_getElem?_getD, hr]
theorem cr_st (h : CR ρ rs ks fk kd sz) (hl : rs.length < 2 ^ 31) {r : Nat} (hr : r < rs.length) : A_RW_statementOf ρ (nI r) = nI (rSt rs r) := by
  show A_IL_at (gRW_statements ρ) (nI r) = _
  rw [lI_at h.1.1 (by simpa using hr) (by simpa using hl), rs_st hr]
theorem cr_stno (h : CR ρ rs ks fk kd sz) {x : Int32} (hx : x < 0 ∨ nI rs.length ≤ x) : A_RW_statementOf ρ x = -1 := lI_at_out h.1.1 (by simpa using hx)
theorem cr_kind (h : CR ρ rs ks fk kd sz) (hk : ks.length = rs.length) (hl : rs.length < 2 ^ 31) {r : Nat} (hr : r < rs.length) : A_RW_kindOf ρ (nI r) = nI (kOf ks r) := lI_at h.1.2.2.2.2.1 (by omega) (by omega)
theorem cr_start (h : CR ρ rs ks fk kd sz) (hl : rs.length < 2 ^ 30) {r : Nat} (hr : r ≤ rs.length) : A_IL_at (gRW_starts ρ) (nI r) = nI (off rs r) := by
  rw [lI_at h.1.2.1 (by simp; omega) (by simp; omega)]
  simp [List.getD_eq_getElem?_getD, show r < rs.length + 1 by omega]
theorem cr_parts (h : CR ρ rs ks fk kd sz) (hl : rs.length < 2 ^ 30) {r : Nat} (hr : r < rs.length) : A_RW_amountOfParts ρ (nI r) = nI (rPa rs r).length := by
  unfold A_RW_amountOfParts
  rw [cr_has h (by omega) hr, if_neg (by decide), nI_1, cr_start h hl (by omega), cr_start h hl (by omega), off_succ hr, pk_sub (by omega)]
  congr 1
  omega
theorem cr_partsno (h : CR ρ rs ks fk kd sz) {x : Int32} (hx : x < 0 ∨ nI rs.length ≤ x) : A_RW_amountOfParts ρ x = 0 := by
  unfold A_RW_amountOfParts
  rw [cr_hasno h hx, if_pos rfl]
theorem cr_part (h : CR ρ rs ks fk kd sz) (hl : rs.length < 2 ^ 30) (hp : (paL rs).length < 2 ^ 30) {r k : Nat} (hr : r < rs.length) (hk : k < (rPa rs r).length) : A_RW_part ρ (nI r) (nI k) = nI ((rPa rs r).getD k 0) := by
  have hi := off_in hr hk
  have hle := rPa_len hr
  unfold A_RW_part
  rw [if_neg (nI_pos (by omega)), cr_parts h hl hr, if_neg (by rw [nI_leI (by omega) (by omega)]; omega), cr_start h hl (by omega), nI_add, lI_at h.1.2.2.1 hi (by omega), paL_get hr hk]
end CRS
