/-! LEVEL B: the system's new row, whole -/
theorem offs_app (rs : tRS) (q : Nat × List Nat) : (List.range ((rs ++ [q]).length + 1)).map (off (rs ++ [q])) = (List.range (rs.length + 1)).map (off rs) ++ [(paL (rs ++ [q])).length] := by
  have e : (rs ++ [q]).length = rs.length + 1 := by simp
  rw [e, List.range_succ, List.map_append]
  congr 1
  · exact List.map_congr_left fun r hr => off_app (by have := List.mem_range.mp hr; omega)
  · rw [List.map_cons, List.map_nil, ← off_le, e]
theorem keep_eq {Z : tRW} {n : Nat} {sz : List Nat} {v : Nat} (hn : n ≤ 2048) (h : n ≤ (gRW_steps Z).2 ∧ 1 ≤ (gRW_steps Z).2 ∧ (gRW_steps Z).2 ≤ 4096 ∧ ∀ r, r < n → (gRW_steps Z).1 r = lN (sz.getD r 0)) (hs : sz.length = n) :
    ∃ S : (Nat → Int64) × Nat, A_RW_keepSteps Z (nI n) (lN v) = uRW_steps Z S ∧ n + 1 ≤ S.2 ∧ 1 ≤ S.2 ∧ S.2 ≤ 4096 ∧ ∀ r, r < n + 1 → S.1 r = lN ((sz ++ [v]).getD r 0) := by
  obtain ⟨h1, h2, h3, h4⟩ := h
  unfold A_RW_keepSteps
  rw [nI_clamp (by omega)]
  have fin : ∀ f : Nat → Int64, (∀ r, r < n → f r = lN (sz.getD r 0)) → ∀ r, r < n + 1 → vp_updL f n (lN v) r = lN ((sz ++ [v]).getD r 0) := by
    intro f hf r hr
    by_cases e : r = n
    · subst e; rw [pk_uLs, ← hs, getD_last]
    · rw [pk_uLn e, hf r (by omega), getD_appL (by omega)]
  by_cases c : n < (gRW_steps Z).2
  · rw [if_pos ((nI_ltI (by omega) (by omega)).mpr c)]
    exact ⟨_, rfl, c, h2, h3, fin _ h4⟩
  · rw [if_neg (fun h => c ((nI_ltI (by omega) (by omega)).mp h))]
    refine ⟨_, rfl, by show n + 1 ≤ 2 * n; omega, by show 1 ≤ 2 * n; omega, by show 2 * n ≤ 4096; omega, fin _ fun r hr => ?_⟩
    show va_cpy (gRW_steps Z).1 (fun _ => 0) 0 0 (gRW_steps Z).2 r = _
    rw [pk_cpy_in (Nat.zero_le _) (by omega)]
    simpa using h4 r hr
set_option maxHeartbeats 1000000 in
theorem cr_add {ρ : tRW} {rs : tRS} {ks fk : List Nat} {kd : tRS} {sz tk : List Nat} {j : Nat} (hC : CR ρ rs ks fk kd sz) (hW : WR j tk rs ks fk kd sz) (hZ : WZ rs sz) {x : tIL} {pl : List Nat} (hx : lI x pl) (b1 : tk.length ≤ 512) (b2 : rs.length ≤ 600) (b3 : (paL rs).length + pl.length ≤ 600) (b4 : kd.length ≤ 600) {s under : Nat} (hs : s < tk.length) (hu : under + tk.getD s 0 = pl.length) (hpl : ∀ p ∈ pl, p < rs.length) :
    ∃ ρ' : tRW, A_RW_add ρ x (nI s) (nI under) = (nI rs.length, ρ') ∧ CR ρ' (rs ++ [(s, pl.drop under)]) (ks ++ [kix kd (s, (pl.drop under).map (kOf ks))]) (fkN fk rs.length kd (s, (pl.drop under).map (kOf ks))) (kdN kd (s, (pl.drop under).map (kOf ks))) (sz ++ [szF sz (pl.drop under) 1]) := by
  have hps : ∀ p ∈ pl.drop under, p < rs.length := fun p hp => hpl p (List.mem_of_mem_drop hp)
  have hlen : (pl.drop under).length = tk.getD s 0 := by rw [List.length_drop]; omega
  have hC' := hC
  obtain ⟨⟨c1, c2, c3, c4, c5, c6⟩, c7, c8, k1, k2, k3, k4, k5, k6, k7⟩ := hC'
  have hks := hW.2.2.1
  have e1 : M_RW_add_L18 x (nI s) (A_RW_amount ρ) (A_IL_length (gRW_parts ρ)) (nI under) ρ + 1 = pl.length - under + 1 := by
    unfold M_RW_add_L18
    rw [lI_length hx, meas_nat (by omega) (by omega)]
  unfold A_RW_add
  rw [e1, cr_amount hC, lI_length c3]
  obtain ⟨τ, ⟨t1, t2, t3, t4, t5, t6, t7⟩, tp, tq, tc1, tc2, te⟩ := add_L hx (by omega) (under := under) (by omega) hps hC hks (by omega) (by omega) (nI s) (nI rs.length) (nI (paL rs).length) (pl.length - under + 1) under ρ (Nat.le_refl _) (by omega) (by omega) ⟨rfl, rfl, rfl, rfl, rfl, rfl, rfl⟩ (by simpa using c3) (by simpa using c4) k3 k4
  rw [te]
  -- the middle state
  have lp : A_IL_length (gRW_parts τ) = nI (paL (rs ++ [(s, pl.drop under)])).length := by rw [lI_length tp, paL_app]
  rw [lp]
  generalize hX : uRW_statements (uRW_starts τ (A_IL_add (gRW_starts τ) (nI (paL (rs ++ [(s, pl.drop under)])).length))) (A_IL_add (gRW_statements τ) (nI s)) = X
  have x1 : lI (gRW_statements X) (rs.map Prod.fst ++ [s]) := by rw [← hX]; show lI (A_IL_add (gRW_statements τ) (nI s)) _; rw [t1]; exact lI_add c1 s
  have x2 : lI (gRW_starts X) ((List.range (rs.length + 1)).map (off rs) ++ [(paL (rs ++ [(s, pl.drop under)])).length]) := by rw [← hX]; show lI (A_IL_add (gRW_starts τ) _) _; rw [t2]; exact lI_add c2 _
  have x3 : gRW_parts X = gRW_parts τ ∧ gRW_partKinds X = gRW_partKinds τ ∧ gRW_kinds X = gRW_kinds ρ ∧ gRW_firstOfKind X = gRW_firstOfKind ρ ∧ gRW_olderKind X = gRW_olderKind ρ ∧ gRW_newestKind X = gRW_newestKind ρ ∧ gRW_steps X = gRW_steps ρ := by rw [← hX]; exact ⟨rfl, rfl, t3, t4, t5, t6, t7⟩
  have xc1 : cB 2048 (gRW_statements X) := by rw [← hX]; show cB 2048 (A_IL_add (gRW_statements τ) (nI s)); rw [t1]; exact cB_add k1 (by rw [lI_len c1]; simp; omega) _
  have xc2 : cB 2048 (gRW_starts X) := by rw [← hX]; show cB 2048 (A_IL_add (gRW_starts τ) _); rw [t2]; exact cB_add k2 (by rw [lI_len c2]; simp; omega) _
  have hT := KT_app (KT_of hW (by omega) (by omega)) [s] [(paL (rs ++ [(s, pl.drop under)])).length] ((pl.drop under).map (kOf ks))
  have hdrop : ((paL rs).map (kOf ks) ++ (pl.drop under).map (kOf ks)).drop (paL rs).length = (pl.drop under).map (kOf ks) := by
    rw [List.drop_append_of_le_length (by simp)]
    simp
  have hplen : ((paL rs).map (kOf ks) ++ (pl.drop under).map (kOf ks)).length = (paL rs).length + (pl.drop under).length := by simp
  have hvv : ∀ v ∈ (paL rs).map (kOf ks) ++ (pl.drop under).map (kOf ks), v < 2 ^ 30 := by
    intro v hv
    rcases List.mem_append.mp hv with h | h
    · obtain ⟨p, hp, rfl⟩ := List.mem_map.mp h
      obtain ⟨l, hl, hpl'⟩ := List.mem_flatten.mp hp
      obtain ⟨q, hq, rfl⟩ := List.mem_map.mp hl
      obtain ⟨r, hr⟩ := List.getElem?_of_mem hq
      have hr' : r < rs.length := (List.getElem?_eq_some_iff.mp hr).1
      have hq2 : rPa rs r = q.2 := by unfold rPa; rw [List.getD_eq_getElem?_getD, hr]; rfl
      have := ((hW.2.1 r hr').2.2 p (by rw [hq2]; exact hpl')).1
      have := kOf_lt hW (r := p) (by omega)
      omega
    · obtain ⟨p, hp, rfl⟩ := List.mem_map.mp h
      have := kOf_lt hW (hps p hp)
      omega
  obtain ⟨Y, ye, ⟨y1, y2, y3, y4, y5, y6⟩, yf, yo, yc1, yc2⟩ := new_kind (X := X) hT (by rw [x3.2.2.2.1]; exact c6) x1 x2 (by rw [x3.2.1]; exact tq) (by omega) (by simp; omega) (by simp; omega) (by rw [hplen]; simp; omega) (by rw [x3.2.2.2.2.1, x3.2.2.2.2.2.1]; exact c7) (by rw [x3.2.2.2.1]; exact k6) (by rw [x3.2.2.2.2.1]; exact k7) (n := rs.length) (start := (paL rs).length) (s := s) (by simp) (by rw [show rs.length = (rs.map Prod.fst).length by simp]; exact getD_last _ _ _) (by omega) (by rw [hplen]; omega) hvv (by
    intro a ha e
    rw [hplen, hlen]
    obtain ⟨w1, w2⟩ := hW.2.2.2.2.2.2.2.1 a ha
    have w3 := (hW.2.2.2.2.2.1 _ w1).2.1
    rw [w2] at w3
    rw [w3] at e ⊢
    have w4 := (hW.2.1 _ w1).2.1
    have e' : rSt rs (fk.getD a 0) = s := e
    show ((rPa rs (fk.getD a 0)).map (kOf ks)).length = _
    rw [List.length_map, w4, e']
    omega)
  rw [hdrop] at ye yf yo
  rw [ye]
  simp only [bnd]
  generalize hq : (s, (pl.drop under).map (kOf ks)) = q at yf yo ⊢
  generalize hZd : uRW_kinds Y (A_IL_add (gRW_kinds Y) (nI (kix kd q))) = Z
  have z1 : lI (gRW_statements Z) ((rs ++ [(s, pl.drop under)]).map Prod.fst) := by rw [← hZd, List.map_append]; show lI (gRW_statements Y) _; rw [y1]; exact x1
  have z2 : lI (gRW_starts Z) ((List.range ((rs ++ [(s, pl.drop under)]).length + 1)).map (off (rs ++ [(s, pl.drop under)]))) := by rw [← hZd, offs_app]; show lI (gRW_starts Y) _; rw [y2]; exact x2
  have z3 : lI (gRW_parts Z) (paL (rs ++ [(s, pl.drop under)])) := by rw [← hZd, paL_app]; show lI (gRW_parts Y) _; rw [y3, x3.1]; exact tp
  have z4 : gRW_steps Z = gRW_steps ρ := by rw [← hZd]; show gRW_steps Y = _; rw [y6, x3.2.2.2.2.2.2]
  have hrl : (rs ++ [(s, pl.drop under)]).length = rs.length + 1 := by simp
  have hrp : rPa (rs ++ [(s, pl.drop under)]) rs.length = pl.drop under := by unfold rPa; rw [rs_last]
  have ecs := cs_eq z1 z2 z3 (by omega) (by rw [paL_app]; simp; omega) (r := rs.length) (by omega) (sz := sz) (by rw [hrp, z4]; intro p hp; have := hps p hp; exact ⟨by omega, by omega, c8.2.2.2 p this⟩) (by rw [z4]; omega) (WZ_le hZ)
  rw [hrp] at ecs
  rw [ecs]
  obtain ⟨S, se, s1, s2, s3, s4⟩ := keep_eq (Z := Z) (n := rs.length) (sz := sz) (v := szF sz (pl.drop under) 1) (by omega) (by rw [z4]; exact c8) hZ.1
  rw [se]
  refine ⟨uRW_steps Z S, rfl, ⟨z1, z2, z3, ?_, ?_, ?_⟩, ?_, ?_, ?_, ?_, ?_, ?_, ?_, ?_, ?_⟩
  · show lI (gRW_partKinds Z) _
    rw [← hZd, paL_app, List.map_append]
    show lI (gRW_partKinds Y) _
    rw [y4, x3.2.1]
    have ea : (paL rs).map (kOf (ks ++ [kix kd q])) = (paL rs).map (kOf ks) := List.map_congr_left fun p hp => by
      obtain ⟨l, hl, hpl'⟩ := List.mem_flatten.mp hp
      obtain ⟨q', hq', rfl⟩ := List.mem_map.mp hl
      obtain ⟨r, hr⟩ := List.getElem?_of_mem hq'
      have hr' : r < rs.length := (List.getElem?_eq_some_iff.mp hr).1
      have hq2 : rPa rs r = q'.2 := by unfold rPa; rw [List.getD_eq_getElem?_getD, hr]; rfl
      have := ((hW.2.1 r hr').2.2 p (by rw [hq2]; exact hpl')).1
      exact kOf_app (by omega)
    have eb : (pl.drop under).map (kOf (ks ++ [kix kd q])) = (pl.drop under).map (kOf ks) := List.map_congr_left fun p hp => kOf_app (by have := hps p hp; omega)
    show lI (gRW_partKinds τ) (_ ++ (pl.drop under).map (kOf (ks ++ [kix kd q])))
    rw [ea, eb]
    exact tq
  · show lI (gRW_kinds Z) _
    rw [← hZd]
    show lI (A_IL_add (gRW_kinds Y) _) _
    rw [y5, x3.2.2.1]
    exact lI_add c5 _
  · show lI (gRW_firstOfKind Z) _
    rw [← hZd]; exact yf
  · show (gRW_olderKind Z).1.length = _ ∧ _ ∧ _
    rw [← hZd]; exact yo
  · rw [hrl]; exact ⟨s1, s2, s3, s4⟩
  · show cB 2048 (gRW_statements Z); rw [← hZd]; show cB 2048 (gRW_statements Y); rw [y1]; exact xc1
  · show cB 2048 (gRW_starts Z); rw [← hZd]; show cB 2048 (gRW_starts Y); rw [y2]; exact xc2
  · show cB 2048 (gRW_parts Z); rw [← hZd]; show cB 2048 (gRW_parts Y); rw [y3, x3.1]; exact tc1
  · show cB 2048 (gRW_partKinds Z); rw [← hZd]; show cB 2048 (gRW_partKinds Y); rw [y4, x3.2.1]; exact tc2
  · show cB 2048 (gRW_kinds Z); rw [← hZd]; show cB 2048 (A_IL_add (gRW_kinds Y) _); rw [y5, x3.2.2.1]; exact cB_add k5 (by rw [lI_len c5]; omega) _
  · show cB 2048 (gRW_firstOfKind Z); rw [← hZd]; exact yc1
  · show cB 2048 (gRW_olderKind Z); rw [← hZd]; exact yc2
