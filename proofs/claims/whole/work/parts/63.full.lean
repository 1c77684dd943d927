/-! LEVEL B: full -/
theorem szF_ge {sz : List Nat} : ∀ (ps : List Nat) (a : Nat), a ≤ 1000000000000000001 → a ≤ szF sz ps a
  | [], a, _ => Nat.le_refl _
  | p :: ps, a, h => by
    have := szF_ge (sz := sz) ps (min (a + sz.getD p 0) 1000000000000000001) (Nat.min_le_right _ _)
    rw [szF]
    omega
theorem szF_sum {sz : List Nat} : ∀ (ps : List Nat) (a : Nat), szF sz ps a < 1000000000000000001 → szF sz ps a = a + (ps.map (fun p => sz.getD p 0)).sum
  | [], a, _ => by simp [szF]
  | p :: ps, a, h => by
    rw [szF] at h ⊢
    have h1 := szF_ge (sz := sz) ps (min (a + sz.getD p 0) 1000000000000000001) (Nat.min_le_right _ _)
    have h2 := szF_sum ps _ h
    rw [h2, List.map_cons, List.sum_cons]
    omega
theorem sum_drop {sz : List Nat} {ps : List Nat} {k : Nat} (h : k < ps.length) : ((ps.drop k).map (fun p => sz.getD p 0)).sum = sz.getD (ps.getD k 0) 0 + ((ps.drop (k + 1)).map (fun p => sz.getD p 0)).sum := by
  rw [List.drop_eq_getElem_cons h, List.map_cons, List.sum_cons]
  simp [List.getD_eq_getElem?_getD, h]
theorem lN_big {n : Nat} (h : n < 2 ^ 63) : (lN n).toInt = (n : Int) := lg_ofNat_toInt h
section FUL
variable {j : Nat} {tk : List Nat} {rs : tRS} {ks fk : List Nat} {kd : tRS} {sz : List Nat} {ρ : tRW} {μ : tMD}
/-- the parts of a row are gone through alike -/
theorem full_in (hC : CR ρ rs ks fk kd sz) (hM : MR (gMD_rows μ) (gMD_makers μ) (gMD_fromAt μ) (gMD_firstSame μ) (gMD_sizes μ) (gMD_froms μ) (gMD_fromCount μ) rs ks fk sz) (b2 : rs.length ≤ 600) (b3 : (paL rs).length ≤ 600) (hp : ∀ r, r < rs.length → ∀ p ∈ rPa rs r, p < r) {here : Nat} (hh : here < rs.length) {level : Int32} {r9 : Int32 → Int64 → Int32 → Int32} {r45 : Int32 → Int64 → Option Int32} (hsz : ∀ p ∈ rPa rs here, sz.getD p 0 ≤ 4000)
    (hrec : ∀ p ∈ rPa rs here, ∀ l, l < sz.getD p 0 → r45 (nI p) (lN l) = some (r9 (nI p) (lN l) (level + 1))) : ∀ (m n1 n2 k l : Nat), k + m = (rPa rs here).length → m < n1 → m < n2 → l ≤ 4000 → l < (((rPa rs here).drop k).map (fun p => sz.getD p 0)).sum → A_MD_full_L67 μ (nI here) r45 n2 (lN l) (nI (off rs here + k)) = some (A_RW_statementInFull_L47 ρ (nI here) level r9 n1 (lN l) (nI k)) := by
  intro m
  induction m with
  | zero =>
    intro n1 n2 k l h1 h2 h3 h4 h5
    rw [List.drop_of_length_le (by omega)] at h5
    simp at h5
  | succ m ih =>
    intro n1 n2 k l h1 h2 h3 h4 h5
    obtain ⟨n1, rfl⟩ : ∃ n, n1 = n + 1 := ⟨n1 - 1, by omega⟩
    obtain ⟨n2, rfl⟩ : ∃ n, n2 = n + 1 := ⟨n2 - 1, by omega⟩
    have hk : k < (rPa rs here).length := by omega
    have hi := off_in hh hk
    have hle := rPa_len hh
    have hmem : (rPa rs here).getD k 0 ∈ rPa rs here := memD hk
    have hlt := hp here hh _ hmem
    have hs := hsz _ hmem
    have hfr : gMD_froms μ (off rs here + k) = nI ((rPa rs here).getD k 0) := by rw [hM.2.2.2.2.2.1 _ hi, paL_get hh hk]
    have g1 : ¬ (nI (off rs here + k) < 0 ∨ 20100 ≤ off rs here + k) := ng2 (by omega) (by omega)
    have z1 : (nI (off rs here + k)).toNatClampNeg = off rs here + k := nI_clamp (by omega)
    have g3 : ¬ nI (rPa rs here).length ≤ nI k := fun h => by have := (nI_leI (by omega) (by omega)).mp h; omega
    rw [sum_drop hk] at h5
    have hpart := cr_part hC (by omega) (by omega) hh hk
    rw [A_MD_full_L67, A_RW_statementInFull_L47, z1, if_neg g1, hfr, cr_parts hC (by omega) hh, hpart]
    generalize (rPa rs here).getD k 0 = p at *
    have g2 : ¬ (nI p < 0 ∨ 4000 ≤ p) := ng2 (by omega) (by omega)
    have z2 : (nI p).toNatClampNeg = p := nI_clamp (by omega)
    rw [z2, if_neg g2, hM.2.2.2.2.1 p (by omega), if_neg g3, cr_full hC b2 (by omega)]
    by_cases c : l < sz.getD p 0
    · have hc : lg_cmp (lN l) (lN (sz.getD p 0)) < 0 := (lg_cmp_lt _ _).mpr ((lN_lt (by omega) (by omega)).mpr c)
      rw [if_pos hc, if_pos hc, if_neg g1]
      exact hrec p hmem l c
    · have hc : ¬ lg_cmp (lN l) (lN (sz.getD p 0)) < 0 := fun h => c ((lN_lt (by omega) (by omega)).mp ((lg_cmp_lt _ _).mp h))
      rw [if_neg hc, if_neg hc, if_neg g1, if_neg g2, lN_sub (by omega), nI_1, nI_1]
      exact ih n1 n2 (k + 1) (l - sz.getD p 0) (by omega) (by omega) (by omega) (by omega) (by omega)
theorem full_L (hC : CR ρ rs ks fk kd sz) (hM : MR (gMD_rows μ) (gMD_makers μ) (gMD_fromAt μ) (gMD_firstSame μ) (gMD_sizes μ) (gMD_froms μ) (gMD_fromCount μ) rs ks fk sz) (hZ : WZ rs sz) (b2 : rs.length ≤ 600) (b3 : (paL rs).length ≤ 600) (hp : ∀ r, r < rs.length → ∀ p ∈ rPa rs r, p < r) : ∀ (N here n1 n2 l lv : Nat), here < N → here < rs.length → N ≤ n1 → N ≤ n2 → lv + N ≤ 2000 → sz.getD here 0 ≤ 4000 → l < sz.getD here 0 → A_MD_full_L45 μ n2 (nI here) (lN l) = some (A_RW_statementInFull_L9 ρ n1 (nI here) (lN l) (nI lv)) := by
  intro N
  induction N with
  | zero => intro here n1 n2 l lv h; omega
  | succ N ih =>
    intro here n1 n2 l lv h1 hh h2 h3 h4 h5 h6
    obtain ⟨n1, rfl⟩ : ∃ n, n1 = n + 1 := ⟨n1 - 1, by omega⟩
    obtain ⟨n2, rfl⟩ : ∃ n, n2 = n + 1 := ⟨n2 - 1, by omega⟩
    have hle := rPa_len hh
    have hz := hZ.2 here hh
    have hsum := szF_sum (sz := sz) (rPa rs here) 1 (by omega)
    rw [← hz] at hsum
    have g2 : ¬ (nI here < 0 ∨ 4000 ≤ here) := ng2 (by omega) (by omega)
    have z2 : (nI here).toNatClampNeg = here := nI_clamp (by omega)
    have l4 : ¬ (4000 : Int32) ≤ nI lv := by
      rw [show (4000 : Int32) = nI 4000 from rfl, nI_leI (by omega) (by omega)]; omega
    rw [A_MD_full_L45, A_RW_statementInFull_L9]
    generalize hF : fuelM = F
    rw [z2, if_neg g2, hM.2.2.2.2.1 here hh, if_neg l4, cr_has hC (by omega) hh, if_neg n10, cr_full hC b2 hh, show (1 : Int64) = lN 1 from rfl, lN_sub (by omega)]
    by_cases c : l < sz.getD here 0 - 1
    · have hc : lg_cmp (lN l) (lN (sz.getD here 0 - 1)) < 0 := (lg_cmp_lt _ _).mpr ((lN_lt (by omega) (by omega)).mpr c)
      have hc2 : ¬ 0 ≤ lg_cmp (lN l) (lN (sz.getD here 0 - 1)) := fun h => by
        have := (lN_le (by omega) (by omega)).mp ((lg_cmp_ge _ _).mp h)
        omega
      rw [if_pos hc, if_neg hc2, if_neg g2, hM.2.2.1 here hh]
      have hmm : M_RW_statementInFull_L47 ρ (nI here) (nI lv) (lN l) 0 = (rPa rs here).length := by
        unfold M_RW_statementInFull_L47
        rw [cr_parts hC (by omega) hh, nI_toInt (by omega), show (0 : Int32).toInt = 0 from rfl]
        omega
      have hsz : ∀ p ∈ rPa rs here, sz.getD p 0 ≤ 4000 := fun p hpm => by
        obtain ⟨i, hi, he⟩ := List.getElem_of_mem hpm
        have hd := sum_drop (sz := sz) (ps := rPa rs here) hi
        have ht : ((rPa rs here).map (fun p => sz.getD p 0)).sum = (((rPa rs here).take i).map (fun p => sz.getD p 0)).sum + (((rPa rs here).drop i).map (fun p => sz.getD p 0)).sum := by
          rw [← List.sum_append, ← List.map_append, List.take_append_drop]
        have hg : (rPa rs here).getD i 0 = p := by rw [← he]; simp [List.getD_eq_getElem?_getD, hi]
        rw [hg] at hd
        omega
      rw [hmm]
      have key := full_in (μ := μ) (level := nI lv) (r9 := A_RW_statementInFull_L9 ρ n1) (r45 := A_MD_full_L45 μ n2) hC hM b2 b3 hp hh hsz (fun p hpm l' hl' => by
        have := hp here hh p hpm
        rw [nI_1]
        exact ih p n1 n2 l' (lv + 1) (by omega) (by omega) (by omega) (by omega) (by omega) (hsz p hpm) hl') (rPa rs here).length ((rPa rs here).length + 1) F 0 l (by omega) (by omega) (by rw [← hF]; unfold fuelM; omega) (by omega) (by rw [List.drop_zero]; omega)
      rw [nI_0, Nat.add_zero] at key
      exact key
    · have hc : ¬ lg_cmp (lN l) (lN (sz.getD here 0 - 1)) < 0 := fun h => c ((lN_lt (by omega) (by omega)).mp ((lg_cmp_lt _ _).mp h))
      have hc2 : 0 ≤ lg_cmp (lN l) (lN (sz.getD here 0 - 1)) := (lg_cmp_ge _ _).mpr ((lN_le (by omega) (by omega)).mpr (by omega))
      rw [if_neg hc, if_pos hc2, if_neg g2, cr_st hC (by omega) hh, hM.2.1 here (by simpa using hh), rs_st hh]
theorem b_full (hC : CR ρ rs ks fk kd sz) (hM : MR (gMD_rows μ) (gMD_makers μ) (gMD_fromAt μ) (gMD_firstSame μ) (gMD_sizes μ) (gMD_froms μ) (gMD_fromCount μ) rs ks fk sz) (hZ : WZ rs sz) (b2 : rs.length ≤ 600) (b3 : (paL rs).length ≤ 600) (hp : ∀ r, r < rs.length → ∀ p ∈ rPa rs r, p < r) (a b : Int32) : A_MD_full μ a b = some (if 0 < (lg_cmp (A_RW_stepsInFull ρ a) 4000) then (-1) else (if b < 0 then (-1) else (if (lg_cmp b.toInt64 (A_RW_stepsInFull ρ a)) < 0 then (A_RW_statementInFull ρ a b) else (-1)))) := by
  unfold A_MD_full
  generalize hF : fuelM = F
  rcases ix_cases a (n := rs.length) (by omega) with h | ⟨r, hr, rfl⟩
  · rw [md_isRno hM.1 h, if_pos rfl, cr_fullno hC h, if_neg (by decide)]
    by_cases hb : b < 0
    · rw [if_pos hb]
    · obtain ⟨m, hm, rfl⟩ := nI_of hb
      rw [if_neg hb, nI_l hm, if_neg]
      intro hc
      have := (lg_cmp_lt _ _).mp hc
      rw [show (0 : Int64) = lN 0 from rfl, lN_lt hm (by omega)] at this
      omega
  · have hw := WZ_le hZ r
    have g2 : ¬ (nI r < 0 ∨ 4000 ≤ r) := ng2 (by omega) (by omega)
    have z2 : (nI r).toNatClampNeg = r := nI_clamp (by omega)
    rw [md_isR hM.1 (by omega) hr, if_neg n10, z2, if_neg g2, hM.2.2.2.2.1 r hr, cr_full hC b2 hr]
    by_cases c : 0 < lg_cmp (lN (sz.getD r 0)) 4000
    · rw [if_pos c, if_pos c]
    · have hs : sz.getD r 0 ≤ 4000 := by
        have h1 := fun h => c ((lg_cmp_gt _ _).mpr h)
        have h2 : ¬ (4000 : Int64) < lN (sz.getD r 0) := h1
        rw [Int64.lt_iff_toInt_lt, lN_big (by omega), show (4000 : Int64).toInt = 4000 from rfl] at h2
        omega
      rw [if_neg c, if_neg c]
      by_cases hb : b < 0
      · rw [if_pos hb, if_pos hb]
      · obtain ⟨m, hm, rfl⟩ := nI_of hb
        rw [if_neg hb, if_neg hb, if_neg g2, nI_l hm]
        by_cases d : lg_cmp (lN m) (lN (sz.getD r 0)) < 0
        · have hl := (lN_lt hm (by omega)).mp ((lg_cmp_lt _ _).mp d)
          rw [if_pos d, if_pos d]
          unfold A_RW_statementInFull
          rw [nI_l hm]
          have hmm : M_RW_statementInFull_L9 ρ (nI r) (lN m) 0 = 4000 := rfl
          rw [hmm]
          have key := full_L (μ := μ) hC hM hZ b2 b3 hp (r + 1) r (4000 + 1) F m 0 (by omega) hr (by omega) (by rw [← hF]; unfold fuelM; omega) (by omega) hs hl
          rw [nI_0] at key
          exact key
        · rw [if_neg d, if_neg d]
end FUL
