/-! LEVEL B: pack -/
theorem fy_out {a b : tTL} (h : fy a = fy b) : gTL_labels a = gTL_labels b ∧ gTL_letters a = gTL_letters b ∧ gTL_rowTold a = gTL_rowTold b ∧ gTL_savedRows a = gTL_savedRows b ∧ gTL_numbers a = gTL_numbers b ∧ gTL_remade a = gTL_remade b ∧ gTL_savedKinds a = gTL_savedKinds b := by
  unfold fy at h
  simp only [Prod.mk.injEq] at h
  exact h
theorem fz_out {a b : tTL} (h : fz a = fz b) : gTL_labels a = gTL_labels b ∧ gTL_letters a = gTL_letters b ∧ gTL_rowTold a = gTL_rowTold b ∧ gTL_numbers a = gTL_numbers b ∧ gTL_remade a = gTL_remade b ∧ gTL_savedKinds a = gTL_savedKinds b ∧ gTL_openRows a = gTL_openRows b ∧ gTL_openParts a = gTL_openParts b ∧ gTL_toldAt a = gTL_toldAt b ∧ (gTL_steps a).2 = (gTL_steps b).2 ∧ (gTL_savedAs a).2 = (gTL_savedAs b).2 := by
  unfold fz at h
  simp only [Prod.mk.injEq] at h
  exact h
theorem fw_out {a b : tTL} (h : fw a = fw b) : gTL_steps a = gTL_steps b ∧ gTL_savedAs a = gTL_savedAs b ∧ gTL_letters a = gTL_letters b ∧ gTL_rowTold a = gTL_rowTold b ∧ gTL_savedRows a = gTL_savedRows b ∧ gTL_remade a = gTL_remade b ∧ gTL_savedKinds a = gTL_savedKinds b ∧ gTL_openRows a = gTL_openRows b ∧ gTL_openParts a = gTL_openParts b ∧ gTL_toldAt a = gTL_toldAt b := by
  unfold fw at h
  simp only [Prod.mk.injEq] at h
  exact h
theorem fv_out {a b : tTL} (h : fv a = fv b) : gTL_steps a = gTL_steps b ∧ gTL_savedAs a = gTL_savedAs b ∧ gTL_labels a = gTL_labels b ∧ gTL_rowTold a = gTL_rowTold b ∧ gTL_savedRows a = gTL_savedRows b ∧ gTL_numbers a = gTL_numbers b ∧ gTL_remade a = gTL_remade b ∧ gTL_savedKinds a = gTL_savedKinds b ∧ gTL_openRows a = gTL_openRows b ∧ gTL_openParts a = gTL_openParts b ∧ gTL_toldAt a = gTL_toldAt b := by
  unfold fv at h
  simp only [Prod.mk.injEq] at h
  exact h
/-- what both show of the telling -/
def TR (τ : tTL) (μ : tMD) : Prop :=
  ((gTL_steps τ).1.length ≤ 2000 ∧ gMD_steps μ = nI (gTL_steps τ).1.length ∧ ∀ i, i < (gTL_steps τ).1.length → gMD_toldStep μ i = (gTL_steps τ).1.getD i 0) ∧
  ((gTL_savedAs τ).1.length = (gTL_steps τ).1.length ∧ ∀ i, i < (gTL_steps τ).1.length → gMD_saving μ i = if (gTL_savedAs τ).1.getD i 0 = -1 then 0 else 1) ∧
  ((gTL_labels τ).1.length ≤ 1400 ∧ gMD_labelCount μ = nI (gTL_labels τ).1.length ∧ ∀ i, i < (gTL_labels τ).1.length → gMD_labels μ i = (gTL_labels τ).1.getD i 0) ∧
  ((gTL_letters τ).1.length ≤ 8000 ∧ ltR μ (gTL_letters τ).1) ∧ gMD_savedCount μ = gTL_savedRows τ
/-- what is told makes its row -/
def CkR (τ : tTL) (rs : tRS) (ks : List Nat) : Prop := gTL_rowTold τ = -1 ∨ ∃ (top : Nat) (E : List tE), top < rs.length ∧ gTL_rowTold τ = nI top ∧ E.length ≤ 610 ∧ GE rs ks E ∧ stk rs E = [kOf ks top] ∧ NC τ rs E E.length
section PCK
variable {j : Nat} {tk md : List Nat} {rs : tRS} {ks fk : List Nat} {kd : tRS} {sz : List Nat} {top : Nat} {ρ : tRW} {ss : tST}
theorem pack_eq (hCS : CS ss tk md) (hWS : WS j tk md) (hC : CR ρ rs ks fk kd sz) (hW : WR j tk rs ks fk kd sz) (ht : top < rs.length) (b1 : tk.length ≤ 512) (b2 : rs.length ≤ 600) (b3 : (paL rs).length ≤ 600) (b4 : kd.length ≤ 600) {τ : tTL} {μ : tMD} (hP : CAP τ) (hS : SML τ) (hMS : MS (gMD_statements μ) (gMD_takes μ) (gMD_mandatories μ) (gMD_mandatoryCount μ) tk md) (hB : MB μ tk rs ks fk sz) :
    ∃ (n : Nat) (τ' : tTL) (μ' : tMD), A_TL_tell τ ss ρ (nI top) = τ' ∧ A_TL_amountOfSteps τ' = nI n ∧ ((A_MD_tellAll μ (nI top)).bind (fun T22 => (A_MD_numberSaved T22).bind (fun T45 => (A_MD_findLabels T45).bind (fun T68 => (A_MD_layLetters T68).bind (fun T91 => some (gMD_steps T91, T91)))))) = some (nI n, μ') ∧ fx μ' = fx μ ∧ TR τ' μ' ∧ CkR τ' rs ks ∧ CAP τ' ∧ SML τ' := by
  obtain ⟨p1, p2, p3, p4, p5, p6, p7, p8, p9, p10⟩ := hP
  obtain ⟨s1, s2, s3, s4, s5, s6, s7, s8⟩ := hS
  simp only [A_TL_tell, bnd]
  generalize hT : uTL_rowTold (A_TL_forget τ) (nI top) = T
  have t1 : gTL_steps T = A_IL_cut (gTL_steps τ) 0 := by rw [← hT]; rfl
  have t2 : gTL_savedAs T = A_IL_cut (gTL_savedAs τ) 0 := by rw [← hT]; rfl
  have t3 : gTL_labels T = A_IL_cut (gTL_labels τ) 0 := by rw [← hT]; rfl
  have t4 : gTL_letters T = A_IL_cut (gTL_letters τ) 0 := by rw [← hT]; rfl
  have t5 : gTL_rowTold T = nI top := by rw [← hT]; rfl
  have t6 : gTL_savedRows T = 0 := by rw [← hT]; rfl
  have t7 : gTL_openRows T = gTL_openRows τ := by rw [← hT]; rfl
  have t8 : gTL_openParts T = gTL_openParts τ := by rw [← hT]; rfl
  have t9 : gTL_toldAt T = gTL_toldAt τ := by rw [← hT]; rfl
  have t10 : gTL_numbers T = gTL_numbers τ := by rw [← hT]; rfl
  have t11 : gTL_remade T = gTL_remade τ := by rw [← hT]; rfl
  have t12 : gTL_savedKinds T = gTL_savedKinds τ := by rw [← hT]; rfl
  have hPT : CAP T := by
    unfold CAP
    rw [t1, t2, t3, t4, t7, t8, t9, t10, t11, t12]
    exact ⟨cB_cut p1 _, cB_cut p2 _, p3, p4, p5, cB_cut p6 _, cB_cut p7 _, p8, p9, p10⟩
  have hST : SML T := by
    unfold SML
    rw [t1, t2, t3, t4, t7, t8, t11, t12, cut0 s1, cut0 s2, cut0 s5, cut0 s6]
    exact ⟨by simp, by simp, s3, s4, by simp, by simp, s7, s8⟩
  obtain ⟨E, τ1, μ1, a1, a2, a3, a4, a5, a6, a7⟩ := tell_eq (ss := ss) hC hW ht b1 b2 b3 b4 hPT hST (by rw [t1, cut0 s1]) (by rw [t2, cut0 s2]) t5 hB
  obtain ⟨y1, y2, y3, y4, y5, y6, y7⟩ := fy_out a3
  have hG := a5.2.1
  have hE := TI_lenF a5
  have hst : ∀ k r κ : Nat, E[k]? = some (false, r, κ) → rSt rs r < tk.length := fun k r κ h => (hW.2.1 r (hG.1 k r κ h).1).1
  have hN : ∀ k r κ : Nat, k < E.length → E.getD k eD = (false, r, κ) → rSt rs r < tk.length := fun k r κ hk h => by
    obtain ⟨b, x, κ', e1, e2⟩ := e_get hk
    rw [e2] at h
    rw [h] at e1
    exact hst k r κ e1
  have hnb : ∀ i x κ : Nat, i < E.length → E.getD i eD = (true, x, κ) → nb E x < 2 ^ 30 := fun i x κ hi h => by
    obtain ⟨b, x', κ', e1, e2⟩ := e_get hi
    rw [e2] at h
    rw [h] at e1
    have := (hG.2 i x κ e1).1
    have := nb_le E x
    omega
  obtain ⟨τ2, c1, c2, c3⟩ := nsr_eq hG (by omega) (fun k r κ h => by have := hst k r κ h; omega) a6 (by rw [y4, t6])
  obtain ⟨z1, z2, z3, z4, z5, z6, z7, z8, z9, z10, z11⟩ := fz_out c2
  obtain ⟨n1, n2, n3⟩ := c3
  have n1' : (gTL_steps τ2).1.length = E.length ∧ ∀ i, i < E.length → (gTL_steps τ2).1.getD i 0 = sF rs E (E.getD i eD) := ⟨n1.1, fun i hi => by rw [n1.2 i hi, if_pos hi]⟩
  have n2' : (gTL_savedAs τ2).1.length = E.length ∧ ∀ i, i < E.length → (gTL_savedAs τ2).1.getD i 0 = if svF E i then nI (nb E i) else -1 := ⟨n2.1, fun i hi => by rw [n2.2 i hi, if_pos hi]⟩
  have hmd := hWS.2.2.2
  obtain ⟨τ3, d1, d2, d3⟩ := nst_eq (ρ := ρ) hCS hWS b1 (by omega) hN hnb n1' (by rw [z1, y1, t3, cut0 s5]) (by rw [z1, y1, t3]; exact cB_cut p6 _) (by rw [z4, y5, t10]; exact p8)
  obtain ⟨w1, w2, w3, w4, w5, w6, w7, w8, w9, w10⟩ := fw_out d2
  obtain ⟨l1, l2, l3, l4, l5, l6⟩ := d3
  have hCL : ClR τ3 tk md rs E := by
    refine ⟨by rw [w1]; exact n1', by rw [w2]; exact n2', l2, fun i r κ hi he => ?_⟩
    have hs := hN i r κ hi he
    obtain ⟨q1, q2⟩ := l3 _ hs
    have q3 := l4 i r κ hi he
    show _ = (if fd (rSt rs r) md 0 = -1 then fd (rSt rs r) (lb rs md E E.length) (md.length + 1) else fd (rSt rs r) md 1)
    by_cases hf : fd (rSt rs r) md 0 = -1
    · rw [if_pos hf, q1 hf]
    · rw [if_neg hf]
      obtain ⟨i', i1, i2, -⟩ := fd_get hf
      rcases q2 hf with h | h
      · exact absurd h q3
      · rw [h, i2, i2, nI_1]
        congr 1
        omega
  obtain ⟨τ4, g1, g2, g3, g4⟩ := ltc_eq (ρ := ρ) (ss := ss) hCS.2.2.1 hG b1 hmd (by omega) hN hCL l1 (by rw [w3, z2, y2, t4, cut0 s6]) (by rw [w3, z2, y2, t4]; exact cB_cut p7 _)
  obtain ⟨v1, v2, v3, v4, v5, v6, v7, v8, v9, v10, v11⟩ := fv_out g2
  obtain ⟨μ2, e1, e2, e3⟩ := nm_eq hW a5 (by omega) b1 b2 b3 (MB_fx hB a4) a7
  obtain ⟨m1, m2, m3, m4, m5, m6⟩ := e3
  have hM2 := MS_fx hMS (show fx μ2 = fx μ by rw [e2, a4])
  have m2' : ∀ i, i < E.length → gMD_toldStep μ2 i = sF rs E (E.getD i eD) := fun i hi => by rw [(m2 i hi).1, if_pos hi]
  obtain ⟨μ3, h1, h2, h3, h4⟩ := flb_eq hM2 hWS b1 (by omega) hN hnb m1 m2'
  obtain ⟨f1, f2, f3, f4, f5⟩ := flM_out h2
  have hM3 := MS_fx hM2 f1
  obtain ⟨μ4, k1, k2, k3⟩ := ltm_eq hM3 hWS hG b1 (by omega) hN (by rw [f2]; exact m1) (by rw [f3]; exact m2') (by rw [f4]; exact m4) h3 h4
  obtain ⟨x1, x2, x3⟩ := fg_out k2
  obtain ⟨u1, u2, u3, u4, u5⟩ := flM_out x1
  have hlx := ltX_len (md := md) hG (by omega) hmd E.length (Nat.le_refl _)
  have hlb := lb_len (rs := rs) (md := md) (E := E) E.length
  have hsl : (gTL_steps τ4).1.length = E.length := by rw [v1, w1]; exact n1'.1
  have hll := lI_len l1
  obtain ⟨⟨o1, o2⟩, -, -, -, q1, q2, q3, q4, q5⟩ := a6
  have o1' : (gTL_openRows τ1).1.length = 0 := by have := lI_len o1; simpa using this
  have o2' : (gTL_openParts τ1).1.length = 0 := by have := lI_len o2; simpa using this
  refine ⟨E.length, τ4, μ4, ?_, ?_, ?_, ?_, ⟨⟨by omega, ?_, ?_⟩, ⟨?_, ?_⟩, ⟨?_, ?_, ?_⟩, ⟨?_, ?_⟩, ?_⟩, ?_, ?_, ?_⟩
  · rw [a1, c1, d1, g1]
  · show nI (gTL_steps τ4).1.length = _
    rw [hsl]
  · rw [a2]; simp only [Option.bind_some]
    rw [e1]; simp only [Option.bind_some]
    rw [h1]; simp only [Option.bind_some]
    rw [k1]; simp only [Option.bind_some]
    rw [u2, f2, m1]
  · rw [u1, f1, e2, a4]
  · rw [u2, f2, m1, hsl]
  · intro i hi
    rw [hsl] at hi
    rw [u3, f3, m2' i hi, v1, w1, n1'.2 i hi]
  · rw [hsl, v2, w2]; exact n2'.1
  · intro i hi
    rw [hsl] at hi
    rw [u4, f4, m4 i hi, v2, w2, n2'.2 i hi]
    have := nb_le E i
    by_cases e : svF E i = true
    · rw [e, if_pos rfl, if_pos rfl, if_neg (nI_m1 (by omega))]
    · simp [e]
  · rw [v3, hll]; omega
  · rw [x3, h3, v3, hll]
  · intro i hi
    rw [v3, hll] at hi
    rw [x2, h4 i hi, v3, l1, getD_map hi]
  · rw [g3]; omega
  · rw [g3]; exact k3
  · rw [u5, f5, m5, v5, w5, n3]
  · refine Or.inr ⟨top, E, ht, by rw [v4, w4, z3, y3, t5], by omega, hG, a5.2.2.1, ?_⟩
    unfold NC
    rw [v1, v2, v5, w1, w2, w5]
    exact ⟨n1, n2, n3⟩
  · unfold CAP
    rw [v1, v2, v3, v6, v7, v8, v9, v10, v11, w1, w2, w6, w7, w8, w9, w10, z5, z6, z7, z8, z9, y6, y7, t11, t12]
    refine ⟨?_, ?_, q3, q4, q5, l5, g4, l6, p9, p10⟩
    · unfold cB; rw [z10]; exact q1
    · unfold cB; rw [z11]; exact q2
  · unfold SML
    rw [v1, v2, v3, v7, v8, v9, v10, w1, w2, w6, w7, w8, w9, z5, z6, z7, z8, y6, y7, t11, t12, g3, hll, n1'.1, n2'.1, o1', o2']
    refine ⟨by omega, by omega, by omega, by omega, by omega, by omega, s7, s8⟩
end PCK
