/-! LEVEL B: the reference makes a row, whole -/
/-- what making rows leaves as it is -/
def MK (μ μ' : tMD) : Prop := (gMD_statements μ' = gMD_statements μ ∧ gMD_takes μ' = gMD_takes μ ∧ gMD_mandatories μ' = gMD_mandatories μ ∧ gMD_mandatoryCount μ' = gMD_mandatoryCount μ) ∧ gMD_steps μ' = gMD_steps μ ∧ gMD_toldStep μ' = gMD_toldStep μ ∧ gMD_saving μ' = gMD_saving μ ∧ gMD_labels μ' = gMD_labels μ ∧ gMD_labelCount μ' = gMD_labelCount μ ∧ gMD_letters μ' = gMD_letters μ ∧ gMD_letterCount μ' = gMD_letterCount μ ∧ gMD_savedCount μ' = gMD_savedCount μ
set_option maxHeartbeats 1000000 in
theorem md_make {μ : tMD} {tk md : List Nat} {rs : tRS} {ks fk : List Nat} {kd : tRS} {sz pl : List Nat} {j pt : Nat} (hS : MS (gMD_statements μ) (gMD_takes μ) (gMD_mandatories μ) (gMD_mandatoryCount μ) tk md) (hM : MR (gMD_rows μ) (gMD_makers μ) (gMD_fromAt μ) (gMD_firstSame μ) (gMD_sizes μ) (gMD_froms μ) (gMD_fromCount μ) rs ks fk sz) (hp1 : gMD_piled μ = nI pl.length) (hp2 : aI (gMD_pile μ) pl) (hpt : gMD_puts μ = nI pt) (hW : WR j tk rs ks fk kd sz) (hZ : WZ rs sz) (b1 : tk.length ≤ 512) (b2 : rs.length ≤ 600) (b3 : (paL rs).length + pl.length ≤ 600) (b4 : kd.length ≤ 600) (b5 : pl.length ≤ 200) (b6 : pt ≤ 600) {s under : Nat} (hs : s < tk.length) (hu : under + tk.getD s 0 = pl.length) (hu2 : under < 200) (hpl : ∀ p ∈ pl, p < rs.length) :
    ∃ μ' : tMD, A_MD_make μ (nI s) = some (nI rs.length, μ') ∧ MR (gMD_rows μ') (gMD_makers μ') (gMD_fromAt μ') (gMD_firstSame μ') (gMD_sizes μ') (gMD_froms μ') (gMD_fromCount μ') (rs ++ [(s, pl.drop under)]) (ks ++ [kix kd (s, (pl.drop under).map (kOf ks))]) (fkN fk rs.length kd (s, (pl.drop under).map (kOf ks))) (sz ++ [szF sz (pl.drop under) 1]) ∧ gMD_piled μ' = nI (under + 1) ∧ aI (gMD_pile μ') (pl.take under ++ [rs.length]) ∧ gMD_puts μ' = nI (pt + 1) ∧ MK μ μ' := by
  have hps : ∀ p ∈ pl.drop under, p < rs.length := fun p hp => hpl p (List.mem_of_mem_drop hp)
  obtain ⟨s1, s2, s3, s4⟩ := hS
  obtain ⟨m1, m2, m3, m4, m5, m6, m7⟩ := hM
  obtain ⟨N, hN⟩ : ∃ z, z = tk.getD s 0 := ⟨_, rfl⟩
  rw [← hN] at hu
  have hun : pl.length - N = under := by omega
  have hg := g_spec hW (by omega) (s := s) hps
  generalize hgd : (fkN fk rs.length kd (s, (pl.drop under).map (kOf ks))).getD (kix kd (s, (pl.drop under).map (kOf ks))) 0 = g at hg
  have hrl : (rs ++ [(s, pl.drop under)]).length = rs.length + 1 := by simp
  have hlen : (pl.drop under).length = N := by rw [List.length_drop]; omega
  have hpa' : (paL (rs ++ [(s, pl.drop under)])).length = (paL rs).length + N := by rw [paL_app, List.length_append, hlen]
  unfold A_MD_make
  rw [md_isS s1 hs (by omega), if_neg (by decide), if_neg (ng (by omega) (by omega)), nI_clamp (n := s) (by omega), s2 s hs, ← hN, hp1, if_neg (by rw [nI_ltI (by omega) (by omega)]; omega), m1, if_neg (by rw [show (4000 : Int32) = nI 4000 from rfl, nI_eq (by omega) (by omega)]; omega), if_neg (ng2 (n := s) (by omega) (by omega)), pk_sub (by omega), hun, if_neg (by rw [show (200 : Int32) = nI 200 from rfl, nI_eq (by omega) (by omega)]; omega), hpt, if_neg (by rw [show (20000 : Int32) = nI 20000 from rfl, nI_eq (by omega) (by omega)]; omega), if_neg (ng2 (n := s) (by omega) (by omega)), if_neg (ng (by omega) (by omega)), nI_clamp (n := rs.length) (by omega)]
  simp only [bnd]
  generalize hA1 : uMD_makers μ (upd (gMD_makers μ) rs.length (nI s)) = A1
  have a1 : gMD_rows A1 = nI rs.length := by rw [← hA1, gu_MD_rows_makers]; exact m1
  have a2 : gMD_fromCount A1 = nI (paL rs).length := by rw [← hA1, gu_MD_fromCount_makers]; exact m7
  rw [a1, if_neg (ng (by omega) (by omega)), nI_clamp (n := rs.length) (by omega), a2]
  generalize hA2 : uMD_fromAt A1 (upd (gMD_fromAt A1) rs.length (nI (paL rs).length)) = A2
  have q1 : gMD_piled A2 = nI pl.length := by rw [← hA2, ← hA1]; simp only [gu_MD_piled_fromAt, gu_MD_piled_makers]; exact hp1
  have q2 : aI (gMD_pile A2) pl := by rw [← hA2, ← hA1]; simp only [gu_MD_pile_fromAt, gu_MD_pile_makers]; exact hp2
  have q3 : gMD_fromCount A2 = nI ((paL rs).length + 0) := by rw [← hA2, ← hA1]; simp only [gu_MD_fromCount_fromAt, gu_MD_fromCount_makers]; exact m7
  have q4 : aI (gMD_froms A2) (paL rs ++ (pl.drop (pl.length - N)).take 0) := by rw [← hA2, ← hA1]; simp only [gu_MD_froms_fromAt, gu_MD_froms_makers]; simpa using m6
  obtain ⟨F, e1, e2⟩ := mk_L (pl := pl) (pa := paL rs) (N := N) (by omega) b5 (by omega) fuelM 0 A2 (Nat.zero_le _) (by unfold fuelM; omega) q1 q2 q3 q4
  rw [nI_0] at e1
  rw [hun] at e2
  rw [e1]
  unfold mkX
  simp only [bnd]
  have q5 : gMD_piled (uMD_fromCount (uMD_froms A2 F) (nI ((paL rs).length + N))) = nI pl.length := by simp only [gu_MD_piled_fromCount, gu_MD_piled_froms]; exact q1
  rw [q5, pk_sub (by omega), hun]
  generalize hT : uMD_piled (uMD_fromCount (uMD_froms A2 F) (nI ((paL rs).length + N))) (nI under) = T
  -- what T holds
  have t1 : gMD_rows T = nI rs.length := by rw [← hT, ← hA2, ← hA1]; simp only [gu_MD_rows_piled, gu_MD_rows_fromCount, gu_MD_rows_froms, gu_MD_rows_fromAt, gu_MD_rows_makers]; exact m1
  have t2 : ∀ r, r < rs.length + 1 → gMD_makers T r = nI (rSt (rs ++ [(s, pl.drop under)]) r) := by
    intro r hr
    have e : gMD_makers T = upd (gMD_makers μ) rs.length (nI s) := by rw [← hT, ← hA2, ← hA1]; simp only [gu_MD_makers_piled, gu_MD_makers_fromCount, gu_MD_makers_froms, gu_MD_makers_fromAt, gu_MD_makers_makers]
    rw [e]
    by_cases c : r = rs.length
    · rw [c, pk_us]; unfold rSt; rw [rs_last]
    · rw [pk_un c, m2 r (by rw [List.length_map]; omega), rs_st (by omega)]
      unfold rSt; rw [rs_app (by omega)]
  have t3 : ∀ r, r < rs.length + 1 → gMD_fromAt T r = nI (off (rs ++ [(s, pl.drop under)]) r) := by
    intro r hr
    have e : gMD_fromAt T = upd (gMD_fromAt μ) rs.length (nI (paL rs).length) := by rw [← hT, ← hA2, ← hA1]; simp only [gu_MD_fromAt_piled, gu_MD_fromAt_fromCount, gu_MD_fromAt_froms, gu_MD_fromAt_fromAt, gu_MD_fromAt_makers]
    rw [e, off_app (by omega)]
    by_cases c : r = rs.length
    · rw [c, pk_us, off_le]
    · rw [pk_un c, m3 r (by omega)]
  have t4 : aI (gMD_froms T) (paL (rs ++ [(s, pl.drop under)])) := by
    rw [paL_app, ← hT]; simp only [gu_MD_froms_piled, gu_MD_froms_fromCount, gu_MD_froms_froms]; exact e2
  have t5 : gMD_takes T = gMD_takes μ := by rw [← hT, ← hA2, ← hA1]; simp only [gu_MD_takes_piled, gu_MD_takes_fromCount, gu_MD_takes_froms, gu_MD_takes_fromAt, gu_MD_takes_makers]
  have t6 : gMD_firstSame T = gMD_firstSame μ := by rw [← hT, ← hA2, ← hA1]; simp only [gu_MD_firstSame_piled, gu_MD_firstSame_fromCount, gu_MD_firstSame_froms, gu_MD_firstSame_fromAt, gu_MD_firstSame_makers]
  have t7 : gMD_sizes T = gMD_sizes μ := by rw [← hT, ← hA2, ← hA1]; simp only [gu_MD_sizes_piled, gu_MD_sizes_fromCount, gu_MD_sizes_froms, gu_MD_sizes_fromAt, gu_MD_sizes_makers]
  have t8 : gMD_piled T = nI under := by rw [← hT, gu_MD_piled_piled]
  have t9 : gMD_pile T = gMD_pile μ ∧ gMD_puts T = nI pt ∧ gMD_fromCount T = nI ((paL rs).length + N) := by rw [← hT, ← hA2, ← hA1]; simp only [gu_MD_pile_piled, gu_MD_pile_fromCount, gu_MD_pile_froms, gu_MD_pile_fromAt, gu_MD_pile_makers, gu_MD_puts_piled, gu_MD_puts_fromCount, gu_MD_puts_froms, gu_MD_puts_fromAt, gu_MD_puts_makers, gu_MD_fromCount_piled, gu_MD_fromCount_fromCount, gu_MD_fromCount_froms, gu_MD_fromCount_fromAt, gu_MD_fromCount_makers]; exact ⟨trivial, hpt, trivial⟩
  have t10 : MK μ T := by rw [← hT, ← hA2, ← hA1]; unfold MK; simp only [gu_MD_statements_piled, gu_MD_statements_fromCount, gu_MD_statements_froms, gu_MD_statements_fromAt, gu_MD_statements_makers, gu_MD_takes_piled, gu_MD_takes_fromCount, gu_MD_takes_froms, gu_MD_takes_fromAt, gu_MD_takes_makers, gu_MD_mandatories_piled, gu_MD_mandatories_fromCount, gu_MD_mandatories_froms, gu_MD_mandatories_fromAt, gu_MD_mandatories_makers, gu_MD_mandatoryCount_piled, gu_MD_mandatoryCount_fromCount, gu_MD_mandatoryCount_froms, gu_MD_mandatoryCount_fromAt, gu_MD_mandatoryCount_makers, gu_MD_steps_piled, gu_MD_steps_fromCount, gu_MD_steps_froms, gu_MD_steps_fromAt, gu_MD_steps_makers, gu_MD_toldStep_piled, gu_MD_toldStep_fromCount, gu_MD_toldStep_froms, gu_MD_toldStep_fromAt, gu_MD_toldStep_makers, gu_MD_saving_piled, gu_MD_saving_fromCount, gu_MD_saving_froms, gu_MD_saving_fromAt, gu_MD_saving_makers, gu_MD_labels_piled, gu_MD_labels_fromCount, gu_MD_labels_froms, gu_MD_labels_fromAt, gu_MD_labels_makers, gu_MD_labelCount_piled, gu_MD_labelCount_fromCount, gu_MD_labelCount_froms, gu_MD_labelCount_fromAt, gu_MD_labelCount_makers, gu_MD_letters_piled, gu_MD_letters_fromCount, gu_MD_letters_froms, gu_MD_letters_fromAt, gu_MD_letters_makers, gu_MD_letterCount_piled, gu_MD_letterCount_fromCount, gu_MD_letterCount_froms, gu_MD_letterCount_fromAt, gu_MD_letterCount_makers, gu_MD_savedCount_piled, gu_MD_savedCount_fromCount, gu_MD_savedCount_froms, gu_MD_savedCount_fromAt, gu_MD_savedCount_makers, and_self]
  have hfk : ∀ p, p < rs.length → fk.getD (kOf ks p) 0 < rs.length := fun p hp => (hW.2.2.2.2.2.2.2.1 _ (kOf_lt hW hp)).1
  have hWn := WR_new hW (by omega) hs (ps := pl.drop under) (by rw [hlen, hN]) hps (szF sz (pl.drop under) 1)
  have hpn : ∀ r, r < (rs ++ [(s, pl.drop under)]).length → ∀ p ∈ rPa (rs ++ [(s, pl.drop under)]) r, p < rs.length := by
    intro r hr p hp
    have := ((hWn.2.1 r hr).2.2 p hp).1
    rw [hrl] at hr
    by_cases c : r = rs.length
    · rw [c] at this; exact this
    · omega
  have hRD : RD T tk (rs ++ [(s, pl.drop under)]) (fun p => fk.getD (kOf ks p) 0) := by
    refine ⟨by rw [hrl]; exact t2, by rw [hrl]; exact t3, t4, by rw [t5]; exact s2, fun r hr => ⟨(hWn.2.1 r hr).1, (hWn.2.1 r hr).2.1, fun p hp => ?_⟩, by omega, by omega, by omega⟩
    have h1 := hpn r hr p hp
    have h2 := hfk p h1
    refine ⟨by omega, ?_, ?_⟩
    · rw [t6]; exact m4 p h1
    · show fk.getD (kOf ks p) 0 < 2 ^ 30
      omega
  clear hT hA1 hA2 e1 e2 q1 q2 q3 q4 q5 a1 a2
  rw [t1]
  obtain ⟨F2, f1, f2, f3⟩ := fs_eq (n := rs.length) (g := g) hrl hpn hg (fun p hp => by have := hfk p hp; show fk.getD (kOf ks p) 0 < 2 ^ 30; omega) hRD (fun p hp => by rw [t6]; exact m4 p hp)
  rw [f1, Option.bind_some]
  have hRD2 := RD_fs hRD (F := F2) (fun r hr p hp => f3 p (hpn r hr p hp))
  generalize hT2 : uMD_firstSame T F2 = T2 at hRD2
  have u1 : gMD_rows T2 = nI rs.length := by rw [← hT2, gu_MD_rows_firstSame]; exact t1
  have u2 : gMD_sizes T2 = gMD_sizes μ := by rw [← hT2, gu_MD_sizes_firstSame]; exact t7
  have hrp : rPa (rs ++ [(s, pl.drop under)]) rs.length = pl.drop under := by unfold rPa; rw [rs_last]
  rw [u1, sz_eq hRD2 (r := rs.length) (by omega) (sz := sz) (by rw [hrp, u2]; exact fun p hp => m5 p (hps p hp)) (WZ_le hZ), hrp, Option.bind_some]
  generalize hT3 : uMD_sizes T2 (vp_updL (gMD_sizes T2) rs.length (lN (szF sz (pl.drop under) 1))) = T3
  have v1 : gMD_piled T3 = nI under := by rw [← hT3, ← hT2]; simp only [gu_MD_piled_sizes, gu_MD_piled_firstSame]; exact t8
  have v2 : gMD_rows T3 = nI rs.length := by rw [← hT3, ← hT2]; simp only [gu_MD_rows_sizes, gu_MD_rows_firstSame]; exact t1
  rw [v1, if_neg (ng (by omega) (by omega)), nI_clamp (n := under) (by omega), v2]
  generalize hT4 : uMD_pile T3 (upd (gMD_pile T3) under (nI rs.length)) = T4
  have w1 : gMD_piled T4 = nI under := by rw [← hT4, gu_MD_piled_pile]; exact v1
  rw [w1, nI_1]
  generalize hT5 : uMD_piled T4 (nI (under + 1)) = T5
  have w2 : gMD_puts T5 = nI pt := by rw [← hT5, ← hT4, ← hT3, ← hT2]; simp only [gu_MD_puts_piled, gu_MD_puts_pile, gu_MD_puts_sizes, gu_MD_puts_firstSame]; exact t9.2.1
  rw [w2, nI_1]
  generalize hT6 : uMD_puts T5 (nI (pt + 1)) = T6
  have w3 : gMD_rows T6 = nI rs.length := by rw [← hT6, ← hT5, ← hT4]; simp only [gu_MD_rows_puts, gu_MD_rows_piled, gu_MD_rows_pile]; exact v2
  rw [w3, nI_1]
  refine ⟨uMD_rows T6 (nI (rs.length + 1)), ?_, ⟨?_, ?_, ?_, ?_, ?_, ?_, ?_⟩, ?_, ?_, ?_, ?_⟩
  · rw [gu_MD_rows_rows, nI_sub1]
  · rw [gu_MD_rows_rows, hrl]
  · intro r hr
    rw [List.length_map, hrl] at hr
    rw [gu_MD_makers_rows]
    have e : gMD_makers T6 = gMD_makers T := by rw [← hT6, ← hT5, ← hT4, ← hT3, ← hT2]; simp only [gu_MD_makers_puts, gu_MD_makers_piled, gu_MD_makers_pile, gu_MD_makers_sizes, gu_MD_makers_firstSame]
    rw [e, t2 r hr, rs_st (by omega)]
  · intro r hr
    rw [hrl] at hr
    rw [gu_MD_fromAt_rows]
    have e : gMD_fromAt T6 = gMD_fromAt T := by rw [← hT6, ← hT5, ← hT4, ← hT3, ← hT2]; simp only [gu_MD_fromAt_puts, gu_MD_fromAt_piled, gu_MD_fromAt_pile, gu_MD_fromAt_sizes, gu_MD_fromAt_firstSame]
    rw [e, t3 r hr]
  · intro r hr
    rw [hrl] at hr
    rw [gu_MD_firstSame_rows]
    have e : gMD_firstSame T6 = F2 := by rw [← hT6, ← hT5, ← hT4, ← hT3, ← hT2]; simp only [gu_MD_firstSame_puts, gu_MD_firstSame_piled, gu_MD_firstSame_pile, gu_MD_firstSame_sizes, gu_MD_firstSame_firstSame]
    rw [e]
    have hks := hW.2.2.1
    by_cases c : r = rs.length
    · rw [c, f2, ← hgd, ← hks, kOf_last]
    · rw [f3 r (by omega), kOf_app (by omega), fkN_get (by rw [hW.2.2.2.1]; exact kOf_lt hW (by omega))]
  · intro r hr
    rw [hrl] at hr
    rw [gu_MD_sizes_rows]
    have e : gMD_sizes T6 = vp_updL (gMD_sizes T2) rs.length (lN (szF sz (pl.drop under) 1)) := by rw [← hT6, ← hT5, ← hT4, ← hT3]; simp only [gu_MD_sizes_puts, gu_MD_sizes_piled, gu_MD_sizes_pile, gu_MD_sizes_sizes]
    rw [e]
    have hsl := hZ.1
    by_cases c : r = rs.length
    · rw [c, pk_uLs, ← hsl, getD_last]
    · rw [pk_uLn c, u2, m5 r (by omega), getD_appL (by omega)]
  · rw [gu_MD_froms_rows]
    have e : gMD_froms T6 = gMD_froms T := by rw [← hT6, ← hT5, ← hT4, ← hT3, ← hT2]; simp only [gu_MD_froms_puts, gu_MD_froms_piled, gu_MD_froms_pile, gu_MD_froms_sizes, gu_MD_froms_firstSame]
    rw [e]; exact t4
  · rw [gu_MD_fromCount_rows]
    have e : gMD_fromCount T6 = gMD_fromCount T := by rw [← hT6, ← hT5, ← hT4, ← hT3, ← hT2]; simp only [gu_MD_fromCount_puts, gu_MD_fromCount_piled, gu_MD_fromCount_pile, gu_MD_fromCount_sizes, gu_MD_fromCount_firstSame]
    rw [e, t9.2.2, hpa']
  · rw [gu_MD_piled_rows, ← hT6, ← hT5]; simp only [gu_MD_piled_puts, gu_MD_piled_piled]
  · rw [gu_MD_pile_rows]
    have e : gMD_pile T6 = upd (gMD_pile μ) under (nI rs.length) := by rw [← hT6, ← hT5, ← hT4, ← hT3, ← hT2, ← t9.1]; simp only [gu_MD_pile_puts, gu_MD_pile_piled, gu_MD_pile_pile, gu_MD_pile_sizes, gu_MD_pile_firstSame]
    rw [e]
    have htl : (pl.take under).length = under := by rw [List.length_take]; omega
    have h := aI_push (f := gMD_pile μ) (l := pl.take under) (fun i hi => by
      rw [hp2 i (by omega)]
      congr 1
      simp [List.getD_eq_getElem?_getD, List.getElem?_take, show i < under by omega]) rs.length
    rw [htl] at h
    exact h
  · rw [gu_MD_puts_rows, ← hT6, gu_MD_puts_puts]
  · have e : MK T (uMD_rows T6 (nI (rs.length + 1))) := by rw [← hT6, ← hT5, ← hT4, ← hT3, ← hT2]; unfold MK; simp only [gu_MD_statements_rows, gu_MD_statements_puts, gu_MD_statements_piled, gu_MD_statements_pile, gu_MD_statements_sizes, gu_MD_statements_firstSame, gu_MD_takes_rows, gu_MD_takes_puts, gu_MD_takes_piled, gu_MD_takes_pile, gu_MD_takes_sizes, gu_MD_takes_firstSame, gu_MD_mandatories_rows, gu_MD_mandatories_puts, gu_MD_mandatories_piled, gu_MD_mandatories_pile, gu_MD_mandatories_sizes, gu_MD_mandatories_firstSame, gu_MD_mandatoryCount_rows, gu_MD_mandatoryCount_puts, gu_MD_mandatoryCount_piled, gu_MD_mandatoryCount_pile, gu_MD_mandatoryCount_sizes, gu_MD_mandatoryCount_firstSame, gu_MD_steps_rows, gu_MD_steps_puts, gu_MD_steps_piled, gu_MD_steps_pile, gu_MD_steps_sizes, gu_MD_steps_firstSame, gu_MD_toldStep_rows, gu_MD_toldStep_puts, gu_MD_toldStep_piled, gu_MD_toldStep_pile, gu_MD_toldStep_sizes, gu_MD_toldStep_firstSame, gu_MD_saving_rows, gu_MD_saving_puts, gu_MD_saving_piled, gu_MD_saving_pile, gu_MD_saving_sizes, gu_MD_saving_firstSame, gu_MD_labels_rows, gu_MD_labels_puts, gu_MD_labels_piled, gu_MD_labels_pile, gu_MD_labels_sizes, gu_MD_labels_firstSame, gu_MD_labelCount_rows, gu_MD_labelCount_puts, gu_MD_labelCount_piled, gu_MD_labelCount_pile, gu_MD_labelCount_sizes, gu_MD_labelCount_firstSame, gu_MD_letters_rows, gu_MD_letters_puts, gu_MD_letters_piled, gu_MD_letters_pile, gu_MD_letters_sizes, gu_MD_letters_firstSame, gu_MD_letterCount_rows, gu_MD_letterCount_puts, gu_MD_letterCount_piled, gu_MD_letterCount_pile, gu_MD_letterCount_sizes, gu_MD_letterCount_firstSame, gu_MD_savedCount_rows, gu_MD_savedCount_puts, gu_MD_savedCount_piled, gu_MD_savedCount_pile, gu_MD_savedCount_sizes, gu_MD_savedCount_firstSame, and_self]
    obtain ⟨⟨g1, g2, g3, g4⟩, g5, g6, g7, g8, g9, g10, g11, g12⟩ := t10
    obtain ⟨⟨i1, i2, i3, i4⟩, i5, i6, i7, i8, i9, i10, i11, i12⟩ := e
    exact ⟨⟨i1.trans g1, i2.trans g2, i3.trans g3, i4.trans g4⟩, i5.trans g5, i6.trans g6, i7.trans g7, i8.trans g8, i9.trans g9, i10.trans g10, i11.trans g11, i12.trans g12⟩
