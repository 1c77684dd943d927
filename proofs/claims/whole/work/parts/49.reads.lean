/-! LEVEL B: the calls that only read rows -/
section RDR
variable {ρ : tRW} {μ : tMD} {tk : List Nat} {rs : tRS} {ks fk : List Nat} {kd : tRS} {sz : List Nat} {j : Nat}
theorem md_isR (h : gMD_rows μ = nI rs.length) (hl : rs.length < 2 ^ 31) {r : Nat} (hr : r < rs.length) : A_MD_isRow μ (nI r) = 1 := by
  unfold A_MD_isRow
  rw [if_neg (nI_pos (by omega)), h, if_neg (by rw [nI_leI (by omega) (by omega)]; omega)]
theorem md_isRno (h : gMD_rows μ = nI rs.length) {x : Int32} (hx : x < 0 ∨ nI rs.length ≤ x) : A_MD_isRow μ x = 0 := by
  unfold A_MD_isRow
  rw [h]
  by_cases h1 : x < 0
  · rw [if_pos h1]
  · rw [if_neg h1, if_pos (hx.resolve_left h1)]
theorem b_row (hC : CR ρ rs ks fk kd sz) (hM : MR (gMD_rows μ) (gMD_makers μ) (gMD_fromAt μ) (gMD_firstSame μ) (gMD_sizes μ) (gMD_froms μ) (gMD_fromCount μ) rs ks fk sz) (b2 : rs.length ≤ 600) (a : Int32) : A_MD_row μ a = some (A_RW_statementOf ρ a) := by
  unfold A_MD_row
  rcases ix_cases a (n := rs.length) (by omega) with h | ⟨r, hr, rfl⟩
  · rw [md_isRno hM.1 h, if_pos rfl, cr_stno hC h]
  · rw [md_isR hM.1 (by omega) hr, if_neg (by decide), if_neg (ng (by omega) (by omega)), nI_clamp (by omega), cr_st hC (by omega) hr, hM.2.1 r (by simpa using hr), rs_st hr]
theorem cr_partno (hC : CR ρ rs ks fk kd sz) (b2 : rs.length ≤ 600) {r : Nat} (hr : r < rs.length) (hl : (rPa rs r).length < 2 ^ 31) {b : Int32} (h : b < 0 ∨ nI (rPa rs r).length ≤ b) : A_RW_part ρ (nI r) b = -1 := by
  unfold A_RW_part
  rw [cr_parts hC (by omega) hr]
  by_cases h1 : b < 0
  · rw [if_pos h1]
  · rw [if_neg h1, if_pos (h.resolve_left h1)]
theorem b_from (hC : CR ρ rs ks fk kd sz) (hM : MR (gMD_rows μ) (gMD_makers μ) (gMD_fromAt μ) (gMD_firstSame μ) (gMD_sizes μ) (gMD_froms μ) (gMD_fromCount μ) rs ks fk sz) (hS : aI (gMD_takes μ) tk) (hW : WR j tk rs ks fk kd sz) (b1 : tk.length ≤ 512) (b2 : rs.length ≤ 600) (b3 : (paL rs).length ≤ 600) (a b : Int32) : A_MD_frm μ a b = some (A_RW_part ρ a b) := by
  unfold A_MD_frm
  rcases ix_cases a (n := rs.length) (by omega) with h | ⟨r, hr, rfl⟩
  · rw [md_isRno hM.1 h, if_pos rfl]
    unfold A_RW_part
    rw [cr_partsno hC h]
    by_cases h1 : b < 0
    · rw [if_pos h1]
    · rw [if_neg h1, if_pos (by
        rcases (show b.toInt < 0 ∨ 0 ≤ b.toInt by omega) with h2 | h2
        · exact absurd (Int32.lt_iff_toInt_lt.mpr h2) h1
        · exact Int32.le_iff_toInt_le.mpr h2)]
  · have hle := rPa_len hr
    obtain ⟨w1, w2, w3⟩ := hW.2.1 r hr
    rw [md_isR hM.1 (by omega) hr, if_neg (by decide)]
    have emk : gMD_makers μ r = nI (rSt rs r) := by rw [hM.2.1 r (by simpa using hr), rs_st hr]
    rw [nI_clamp (n := r) (by omega), emk, nI_clamp (n := rSt rs r) (by omega), hS _ w1, ← w2]
    rcases ix_cases b (n := (rPa rs r).length) (by omega) with h | ⟨k, hk, rfl⟩
    · rw [cr_partno hC b2 hr (by omega) h]
      by_cases h1 : b < 0
      · rw [if_pos h1]
      · rw [if_neg h1, if_neg (ng2 (n := r) (by omega) (by omega)), if_neg (ng2 (n := rSt rs r) (by omega) (by omega)), if_pos (h.resolve_left h1)]
    · have hi := off_in hr hk
      rw [if_neg (nI_pos (by omega)), if_neg (ng2 (n := r) (by omega) (by omega)), if_neg (ng2 (n := rSt rs r) (by omega) (by omega)), if_neg (by rw [nI_leI (by omega) (by omega)]; omega), if_neg (ng2 (n := r) (by omega) (by omega)), hM.2.2.1 r hr, nI_add, if_neg (ng (by omega) (by omega)), nI_clamp (n := off rs r + k) (by omega), hM.2.2.2.2.2.1 _ hi, paL_get hr hk, cr_part hC (by omega) (by omega) hr hk]
theorem n10 : ¬ (1 : Int32) = 0 := by decide
theorem b_same (hC : CR ρ rs ks fk kd sz) (hM : MR (gMD_rows μ) (gMD_makers μ) (gMD_fromAt μ) (gMD_firstSame μ) (gMD_sizes μ) (gMD_froms μ) (gMD_fromCount μ) rs ks fk sz) (hW : WR j tk rs ks fk kd sz) (b2 : rs.length ≤ 600) (b4 : kd.length ≤ 600) (a b : Int32) : A_MD_same μ a b = some (if (A_RW_has ρ a) = 0 then (-1) else (if (A_RW_has ρ b) = 0 then (-1) else (if (A_RW_kindOf ρ a) = (A_RW_kindOf ρ b) then 1 else 0))) := by
  unfold A_MD_same
  rcases ix_cases a (n := rs.length) (by omega) with h | ⟨r, hr, rfl⟩
  · rw [md_isRno hM.1 h, if_pos rfl, cr_hasno hC h, if_pos rfl]
  · rw [md_isR hM.1 (by omega) hr, cr_has hC (by omega) hr, if_neg n10, if_neg n10]
    rcases ix_cases b (n := rs.length) (by omega) with h | ⟨q, hq, rfl⟩
    · rw [md_isRno hM.1 h, if_pos rfl, cr_hasno hC h, if_pos rfl]
    · have k1 := kOf_lt hW hr
      have k2 := kOf_lt hW hq
      have f1 := (hW.2.2.2.2.2.2.2.1 _ k1).1
      have f2 := (hW.2.2.2.2.2.2.2.1 _ k2).1
      rw [md_isR hM.1 (by omega) hq, cr_has hC (by omega) hq, if_neg n10, if_neg n10, if_neg (ng (by omega) (by omega)), if_neg (ng (by omega) (by omega)), nI_clamp (n := r) (by omega), nI_clamp (n := q) (by omega), hM.2.2.2.1 r hr, hM.2.2.2.1 q hq, cr_kind hC hW.2.2.1 (by omega) hr, cr_kind hC hW.2.2.1 (by omega) hq]
      by_cases c : kOf ks r = kOf ks q
      · rw [if_pos (by rw [c]), if_pos (by rw [c])]
      · rw [if_neg (fun h => c (fk_inj hW k1 k2 ((nI_eq (by omega) (by omega)).mp h))), if_neg (fun h => c ((nI_eq (by omega) (by omega)).mp h))]
theorem cr_full (hC : CR ρ rs ks fk kd sz) (b2 : rs.length ≤ 600) {r : Nat} (hr : r < rs.length) : A_RW_stepsInFull ρ (nI r) = lN (sz.getD r 0) := by
  have h8 := hC.2.2.1
  rw [pr_full hC.1.1 (by omega) hr (by omega) (by omega), h8.2.2.2 r hr]
theorem cr_fullno (hC : CR ρ rs ks fk kd sz) {x : Int32} (h : x < 0 ∨ nI rs.length ≤ x) : A_RW_stepsInFull ρ x = 0 := by
  unfold A_RW_stepsInFull
  rw [cr_hasno hC h, if_pos rfl]
theorem b_size (hC : CR ρ rs ks fk kd sz) (hM : MR (gMD_rows μ) (gMD_makers μ) (gMD_fromAt μ) (gMD_firstSame μ) (gMD_sizes μ) (gMD_froms μ) (gMD_fromCount μ) rs ks fk sz) (b2 : rs.length ≤ 600) (a : Int32) : A_MD_size μ a = some (if (A_RW_has ρ a) = 0 then (-1) else (if (lg_cmp (A_RW_stepsInFull ρ a) 1000000000000000000) ≤ 0 then (A_RW_stepsInFull ρ a) else (-2))) := by
  unfold A_MD_size
  rcases ix_cases a (n := rs.length) (by omega) with h | ⟨r, hr, rfl⟩
  · rw [md_isRno hM.1 h, if_pos rfl, cr_hasno hC h, if_pos rfl]
  · rw [md_isR hM.1 (by omega) hr, cr_has hC (by omega) hr, if_neg n10, if_neg n10, if_neg (ng (by omega) (by omega)), nI_clamp (n := r) (by omega), hM.2.2.2.2.1 r hr, cr_full hC b2 hr]
    split
    · rw [if_neg (ng2 (n := r) (by omega) (by omega))]
    · rfl
theorem cnt_step (r : Nat) : ∀ l : List Nat, (l.filter (fun x => decide (x < r + 1))).length = (l.filter (fun x => decide (x < r))).length + l.count r
  | [] => rfl
  | a :: l => by
    have ih := cnt_step r l
    rw [List.filter_cons, List.filter_cons, List.count_cons]
    rcases Nat.lt_trichotomy a r with h | h | h
    · simp only [show a < r + 1 by omega, h, decide_true, if_true, List.length_cons, ih]
      rw [if_neg (by simp; omega)]; omega
    · subst h
      simp only [show a < a + 1 by omega, Nat.lt_irrefl, decide_true, decide_false, if_true, Bool.false_eq_true, if_false, List.length_cons, ih, beq_self_eq_true]
      omega
    · simp only [show ¬ a < r + 1 by omega, show ¬ a < r by omega, decide_false, Bool.false_eq_true, if_false, ih]
      rw [if_neg (by simp; omega)]; rfl
theorem fk_nodup (hW : WR j tk rs ks fk kd sz) : fk.Nodup := by
  rw [List.Nodup, List.pairwise_iff_getElem]
  intro a b ha hb hab e
  have w9 := hW.2.2.2.2.2.2.2.2 a b hab (by have := hW.2.2.2.1; omega)
  simp only [List.getD_eq_getElem?_getD, List.getElem?_eq_getElem ha, List.getElem?_eq_getElem hb, Option.getD_some] at w9
  omega
theorem cnt_L (hM : MR (gMD_rows μ) (gMD_makers μ) (gMD_fromAt μ) (gMD_firstSame μ) (gMD_sizes μ) (gMD_froms μ) (gMD_fromCount μ) rs ks fk sz) (hW : WR j tk rs ks fk kd sz) (b2 : rs.length ≤ 600) (b4 : kd.length ≤ 600) : ∀ (n r : Nat), r ≤ rs.length → rs.length < r + n → A_MD_count_L69 μ n (nI (fk.filter (fun x => decide (x < r))).length) (nI r) = some (nI kd.length) := by
  have hnd := fk_nodup hW
  have w4 := hW.2.2.2.1
  intro n
  induction n with
  | zero => intro r h1 h2; omega
  | succ n ih =>
    intro r h1 h2
    rw [A_MD_count_L69, hM.1]
    by_cases c : rs.length ≤ r
    · rw [if_pos ((nI_leI (by omega) (by omega)).mpr c), List.filter_eq_self.mpr, w4]
      intro x hx
      obtain ⟨a, ha⟩ := List.getElem?_of_mem hx
      have ha' := (List.getElem?_eq_some_iff.mp ha).1
      have := (hW.2.2.2.2.2.2.2.1 a (by omega)).1
      rw [List.getD_eq_getElem?_getD, ha] at this
      simp only [Option.getD_some] at this
      simp; omega
    · have hr : r < rs.length := by omega
      have k1 := kOf_lt hW hr
      have f1 := (hW.2.2.2.2.2.2.2.1 _ k1).1
      rw [if_neg (fun h => c ((nI_leI (by omega) (by omega)).mp h)), if_neg (ng (by omega) (by omega)), nI_clamp (n := r) (by omega), hM.2.2.2.1 r hr, nI_1, nI_1]
      have key := ih (r + 1) (by omega) (by omega)
      rw [cnt_step] at key
      by_cases c2 : fk.getD (kOf ks r) 0 = r
      · rw [if_pos (by rw [c2])]
        have hm : r ∈ fk := by
          rw [← c2]; exact memD (by omega)
        rw [hnd.count, if_pos hm] at key
        exact key
      · rw [if_neg (fun h => c2 ((nI_eq (by omega) (by omega)).mp h))]
        have hm : r ∉ fk := by
          intro hm
          obtain ⟨a, ha⟩ := List.getElem?_of_mem hm
          have ha' := (List.getElem?_eq_some_iff.mp ha).1
          have e1 : fk.getD a 0 = r := by rw [List.getD_eq_getElem?_getD, ha]; rfl
          have e2 := (hW.2.2.2.2.2.2.2.1 a (by omega)).2
          rw [e1] at e2
          exact c2 (by rw [e2]; exact e1)
        rw [List.count_eq_zero_of_not_mem hm, Nat.add_zero] at key
        rw [show nI (fk.filter (fun x => decide (x < r))).length + 0 = nI (fk.filter (fun x => decide (x < r))).length from Int32.add_zero _]
        exact key
theorem b_count5 (hM : MR (gMD_rows μ) (gMD_makers μ) (gMD_fromAt μ) (gMD_firstSame μ) (gMD_sizes μ) (gMD_froms μ) (gMD_fromCount μ) rs ks fk sz) (hW : WR j tk rs ks fk kd sz) (b2 : rs.length ≤ 600) (b4 : kd.length ≤ 600) : A_MD_count_L69 μ fuelM 0 0 = some (nI kd.length) := by
  have key := cnt_L hM hW b2 b4 fuelM 0 (Nat.zero_le _) (by unfold fuelM; omega)
  rw [show (fk.filter (fun x => decide (x < 0))) = [] from List.filter_eq_nil_iff.mpr (by simp), List.length_nil, nI_0] at key
  exact key
end RDR
