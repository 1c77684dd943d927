set_option maxHeartbeats 4000000 in
set_option maxRecDepth 100000 in
theorem c_AR_copyI (l : Launch) (G : pG) (a n0 N : Nat) (f : Nat → Int32) (H : Heap) (w : va_W) (hP0 : va_P G.1 vwCl w H) (hD0 : va_D (fun _ => True) w) (hσ : w = [(a, .inl (G.2.1, n0, .inl f))]) (hN : n0 < N) (hN2 : N ≤ 33554432) : MWr l y_AR_copyI w_AR_copyI 1 60 N G [.ref a, .int (nI N)] H w (fun q u => u = [(a, .inl (G.2.1, n0, .inl f)), (q, .inl (G.2.1, N, .inl (va_cpy f (fun _ => 0) 0 0 n0)))]) := by
  refine Met.ofW (cc := b_AR_copyI) (maxL := 3) (ret := (some (.array .int))) (by decide) rfl ?_
  intro p e s m args below meth c s₁ B hml hv
  obtain ⟨rfl, rfl, hK⟩ := hv
  have hx := B.exec
  have hb := B.bytes
  have hr := B.returns
  have hts0 := atoms_spec (ws := w_AR_copyI) B.pre
  have hts := fun w (h : w ∈ lw_g) => hts0 w (List.mem_cons_of_mem _ h)
  have hown : s.vm.findClass RAR = some m.cls := findClass_of_methodNamed B.named
  have hlocks := B.notSynchronized
  have hA : ∀ q : Nat, s.heap.size ≤ q → va_A w s.heap.size q := fun _ h => Or.inr h
  have hB : bk G.1 vwCl (va_A w s.heap.size) [w] s.heap := bk_init hP0 hD0
  generalize va_A w s.heap.size = A at *
  have hS : va_S A s.heap s.heap [] := va_S.rf
  subst hσ
  have hB : bk G.1 vwCl A [[(a, .inl (G.2.1, n0, .inl f))]] s.heap := hB
  have hl := lv_entry ([.ref a, .int (nI N)]) (n := 3) (Nat.le_of_ble_eq_true rfl)
  rw [lg_entry_eq]
  generalize (lg_sl ([.ref a, .int (nI N)]) ++ List.replicate (3 - (lg_sl ([.ref a, .int (nI N)])).length) Slot.unset).toArray = ls at hl ⊢
  have hl : lv_has ls 3 [(0, .ref a), (1, .int (nI N))] := hl
  refine lv_iload_n hx hb d_AR_copyI_0 rfl (lv_at hl 1 rfl) ?_
  refine lv_aload_n hx hb d_AR_copyI_1 rfl (lv_at hl 0 rfl) ?_
  refine va_alen (v := nI n0) hx hb hK hB.1 0 0 rfl rfl rfl d_AR_copyI_2 ?_
  refine lv_icmp_ne (tgt := 14) hx hb d_AR_copyI_3 (by decide) (fun c1 => ?_) (fun c1 => absurd ((nI_eq (by omega) (by omega)).mp c1) (by omega))
  refine lv_iload_n hx hb d_AR_copyI_14 rfl (lv_at hl 1 rfl) ?_
  refine va_newa (atype := .int) (ty := .int) (a0 := (N, .inl (fun _ => 0))) (N' := N) hx hb (hts _ arr_int) rfl hK hB.1 hB.2 hS hA (fun cA => rfl) (nI_pos (by omega)) (nI_clamp (by omega)) (show N * 4 ≤ 536870912 by omega) (Nat.le_trans (by omega : 0 + 1 ≤ N) (Nat.le_refl _)) (Nat.le_trans (by omega : 0 + N ≤ N) (Nat.le_refl _)) d_AR_copyI_15 (fun q cA H hK2 hP hD hS => ?_)
  obtain rfl : cA = G.2.1 := ca_eq hK2 3 0 rfl rfl
  have hB : bk G.1 vwCl A [[(a, .inl (G.2.1, n0, .inl f))], [(q, .inl (G.2.1, N, .inl (fun _ => 0)))]] H := ⟨hP, hD⟩
  refine W.widen (k := N) (n := N) (by omega) (by omega) ?_
  refine lv_astore_n (lv' := [(2, .ref q), (0, .ref a), (1, .int (nI N))]) hx hb d_AR_copyI_17 rfl hl (by decide) rfl (fun ls hl => ?_)
  refine lv_aload_n hx hb d_AR_copyI_18 rfl (lv_at hl 1 rfl) ?_
  refine lv_iconst (v := 0) hx hb d_AR_copyI_19 (by decide) ?_
  refine lv_aload_n hx hb d_AR_copyI_20 rfl (lv_at hl 0 rfl) ?_
  refine lv_iconst (v := 0) hx hb d_AR_copyI_21 (by decide) ?_
  refine lv_aload_n hx hb d_AR_copyI_22 rfl (lv_at hl 1 rfl) ?_
  refine va_alen (v := nI n0) hx hb hK hB.1 0 0 rfl rfl rfl d_AR_copyI_23 ?_
  refine lv_iload_n hx hb d_AR_copyI_24 rfl (lv_at hl 2 rfl) ?_
  refine va_mmin hx hb (hml.trans hl.1.symm) hown (hts _ ml_AR_304) (hts _ sm_math_min) (hts _ ini_java_lang_Math) (hts _ k_math_min) (Nat.le_of_ble_eq_true rfl) (Nat.le_of_ble_eq_true rfl) (Nat.le_refl _) (Nat.le_refl _) d_AR_copyI_25 ?_
  rw [if_neg (nI_nlt (by omega) (by omega))]
  refine va_copyi hx hb (hml.trans hl.1.symm) hown (hts _ ml_AR_150) (hts _ nv_sys_copy) (hts _ sm_sys_copy) (hts _ ini_java_lang_System) hK hB.1 hB.2 hS 0 1 0 0 rfl rfl rfl rfl rfl (sp := 0) (dp := 0) (n := nI n0) (by decide) (by decide) (nI_pos (by omega)) (by rw [nI_clamp (by omega)]; simp) (by rw [nI_clamp (by omega)]; simp; omega) (fun _ _ => rfl) (Nat.le_of_ble_eq_true rfl) (Nat.le_of_ble_eq_true rfl) d_AR_copyI_28 (fun H locs hP hD hS => ?_)
  rw [nI_clamp (by omega)] at hP hD
  have hB : bk G.1 vwCl A [[(a, .inl (G.2.1, n0, .inl f))], [(q, .inl (G.2.1, N, .inl (va_cpy f (fun _ => 0) 0 0 n0)))]] H := ⟨hP, hD⟩
  refine lv_aload_n hx hb d_AR_copyI_31 rfl (lv_at hl 0 rfl) ?_
  exact W.aret (v := .ref q) hx hb hr (Or.inr ⟨_, rfl⟩) (Or.inr ⟨_, rfl⟩) (fun t ht hW => ⟨⟨[(a, .inl (G.2.1, n0, .inl f)), (q, .inl (G.2.1, N, .inl (va_cpy f (fun _ => 0) 0 0 n0)))], q, rfl, trivial, rfl, by rw [ht]; exact hB.1, hB.2⟩, hS.F ht⟩) hS.2.2 d_AR_copyI_32

set_option maxHeartbeats 4000000 in
set_option maxRecDepth 100000 in
theorem c_AR_copyJ (l : Launch) (G : pG) (a n0 N : Nat) (f : Nat → Int64) (H : Heap) (w : va_W) (hP0 : va_P G.1 vwCl w H) (hD0 : va_D (fun _ => True) w) (hσ : w = [(a, .inl (G.2.2.1, n0, .inr (.inl f)))]) (hN : n0 < N) (hN2 : N ≤ 33554432) : MWr l y_AR_copyJ w_AR_copyJ 1 60 N G [.ref a, .int (nI N)] H w (fun q u => u = [(a, .inl (G.2.2.1, n0, .inr (.inl f))), (q, .inl (G.2.2.1, N, .inr (.inl (va_cpy f (fun _ => 0) 0 0 n0))))]) := by
  refine Met.ofW (cc := b_AR_copyJ) (maxL := 3) (ret := (some (.array .long))) (by decide) rfl ?_
  intro p e s m args below meth c s₁ B hml hv
  obtain ⟨rfl, rfl, hK⟩ := hv
  have hx := B.exec
  have hb := B.bytes
  have hr := B.returns
  have hts0 := atoms_spec (ws := w_AR_copyJ) B.pre
  have hts := fun w (h : w ∈ lw_g) => hts0 w (List.mem_cons_of_mem _ h)
  have hown : s.vm.findClass RAR = some m.cls := findClass_of_methodNamed B.named
  have hlocks := B.notSynchronized
  have hA : ∀ q : Nat, s.heap.size ≤ q → va_A w s.heap.size q := fun _ h => Or.inr h
  have hB : bk G.1 vwCl (va_A w s.heap.size) [w] s.heap := bk_init hP0 hD0
  generalize va_A w s.heap.size = A at *
  have hS : va_S A s.heap s.heap [] := va_S.rf
  subst hσ
  have hB : bk G.1 vwCl A [[(a, .inl (G.2.2.1, n0, .inr (.inl f)))]] s.heap := hB
  have hl := lv_entry ([.ref a, .int (nI N)]) (n := 3) (Nat.le_of_ble_eq_true rfl)
  rw [lg_entry_eq]
  generalize (lg_sl ([.ref a, .int (nI N)]) ++ List.replicate (3 - (lg_sl ([.ref a, .int (nI N)])).length) Slot.unset).toArray = ls at hl ⊢
  have hl : lv_has ls 3 [(0, .ref a), (1, .int (nI N))] := hl
  refine lv_iload_n hx hb d_AR_copyJ_0 rfl (lv_at hl 1 rfl) ?_
  refine lv_aload_n hx hb d_AR_copyJ_1 rfl (lv_at hl 0 rfl) ?_
  refine va_alen (v := nI n0) hx hb hK hB.1 0 1 rfl rfl rfl d_AR_copyJ_2 ?_
  refine lv_icmp_ne (tgt := 14) hx hb d_AR_copyJ_3 (by decide) (fun c1 => ?_) (fun c1 => absurd ((nI_eq (by omega) (by omega)).mp c1) (by omega))
  refine lv_iload_n hx hb d_AR_copyJ_14 rfl (lv_at hl 1 rfl) ?_
  refine va_newa (atype := .long) (ty := .long) (a0 := (N, .inr (.inl (fun _ => 0)))) (N' := N) hx hb (hts _ arr_long) rfl hK hB.1 hB.2 hS hA (fun cA => rfl) (nI_pos (by omega)) (nI_clamp (by omega)) (show N * 8 ≤ 536870912 by omega) (Nat.le_trans (by omega : 0 + 1 ≤ N) (Nat.le_refl _)) (Nat.le_trans (by omega : 0 + N ≤ N) (Nat.le_refl _)) d_AR_copyJ_15 (fun q cA H hK2 hP hD hS => ?_)
  obtain rfl : cA = G.2.2.1 := ca_eqL hK2 3 1 rfl rfl
  have hB : bk G.1 vwCl A [[(a, .inl (G.2.2.1, n0, .inr (.inl f)))], [(q, .inl (G.2.2.1, N, .inr (.inl (fun _ => 0))))]] H := ⟨hP, hD⟩
  refine W.widen (k := N) (n := N) (by omega) (by omega) ?_
  refine lv_astore_n (lv' := [(2, .ref q), (0, .ref a), (1, .int (nI N))]) hx hb d_AR_copyJ_17 rfl hl (by decide) rfl (fun ls hl => ?_)
  refine lv_aload_n hx hb d_AR_copyJ_18 rfl (lv_at hl 1 rfl) ?_
  refine lv_iconst (v := 0) hx hb d_AR_copyJ_19 (by decide) ?_
  refine lv_aload_n hx hb d_AR_copyJ_20 rfl (lv_at hl 0 rfl) ?_
  refine lv_iconst (v := 0) hx hb d_AR_copyJ_21 (by decide) ?_
  refine lv_aload_n hx hb d_AR_copyJ_22 rfl (lv_at hl 1 rfl) ?_
  refine va_alen (v := nI n0) hx hb hK hB.1 0 1 rfl rfl rfl d_AR_copyJ_23 ?_
  refine lv_iload_n hx hb d_AR_copyJ_24 rfl (lv_at hl 2 rfl) ?_
  refine va_mmin hx hb (hml.trans hl.1.symm) hown (hts _ ml_AR_304) (hts _ sm_math_min) (hts _ ini_java_lang_Math) (hts _ k_math_min) (Nat.le_of_ble_eq_true rfl) (Nat.le_of_ble_eq_true rfl) (Nat.le_refl _) (Nat.le_refl _) d_AR_copyJ_25 ?_
  rw [if_neg (nI_nlt (by omega) (by omega))]
  refine va_copyl hx hb (hml.trans hl.1.symm) hown (hts _ ml_AR_150) (hts _ nv_sys_copy) (hts _ sm_sys_copy) (hts _ ini_java_lang_System) hK hB.1 hB.2 hS 0 1 1 1 rfl rfl rfl rfl rfl (sp := 0) (dp := 0) (n := nI n0) (by decide) (by decide) (nI_pos (by omega)) (by rw [nI_clamp (by omega)]; simp) (by rw [nI_clamp (by omega)]; simp; omega) (fun _ _ => rfl) (Nat.le_of_ble_eq_true rfl) (Nat.le_of_ble_eq_true rfl) d_AR_copyJ_28 (fun H locs hP hD hS => ?_)
  rw [nI_clamp (by omega)] at hP hD
  have hB : bk G.1 vwCl A [[(a, .inl (G.2.2.1, n0, .inr (.inl f)))], [(q, .inl (G.2.2.1, N, .inr (.inl (va_cpy f (fun _ => 0) 0 0 n0))))]] H := ⟨hP, hD⟩
  refine lv_aload_n hx hb d_AR_copyJ_31 rfl (lv_at hl 0 rfl) ?_
  exact W.aret (v := .ref q) hx hb hr (Or.inr ⟨_, rfl⟩) (Or.inr ⟨_, rfl⟩) (fun t ht hW => ⟨⟨[(a, .inl (G.2.2.1, n0, .inr (.inl f))), (q, .inl (G.2.2.1, N, .inr (.inl (va_cpy f (fun _ => 0) 0 0 n0))))], q, rfl, trivial, rfl, by rw [ht]; exact hB.1, hB.2⟩, hS.F ht⟩) hS.2.2 d_AR_copyJ_32

set_option maxHeartbeats 4000000 in
set_option maxRecDepth 100000 in
theorem c_AR_fill (l : Launch) (G : pG) (a N : Nat) (f : Nat → Int32) (v : Int32) (H : Heap) (w : va_W) (hP0 : va_P G.1 vwCl w H) (hD0 : va_D (fun _ => True) w) (hσ : w = [(a, .inl (G.2.1, N, .inl f))]) (hN : N < 2 ^ 31) : MWv l y_AR_fill w_AR_fill 0 0 0 G [.ref a, .int v] H w (fun u => u = [(a, .inl (G.2.1, N, .inl (fun _ => v)))]) := by
  refine Met.ofW (cc := b_AR_fill) (maxL := 4) (ret := none) (by decide) rfl ?_
  intro p e s m args below meth c s₁ B hml hv
  obtain ⟨rfl, rfl, hK⟩ := hv
  have hx := B.exec
  have hb := B.bytes
  have hr := B.returns
  have hts0 := atoms_spec (ws := w_AR_fill) B.pre
  have hts := fun w (h : w ∈ lw_g) => hts0 w (List.mem_cons_of_mem _ h)
  have hown : s.vm.findClass RAR = some m.cls := findClass_of_methodNamed B.named
  have hlocks := B.notSynchronized
  have hA : ∀ q : Nat, s.heap.size ≤ q → va_A w s.heap.size q := fun _ h => Or.inr h
  have hB : bk G.1 vwCl (va_A w s.heap.size) [w] s.heap := bk_init hP0 hD0
  generalize va_A w s.heap.size = A at *
  have hS : va_S A s.heap s.heap [] := va_S.rf
  subst hσ
  have hB : bk G.1 vwCl A [[(a, .inl (G.2.1, N, .inl f))]] s.heap := hB
  have hl := lv_entry ([.ref a, .int v]) (n := 4) (Nat.le_of_ble_eq_true rfl)
  rw [lg_entry_eq]
  generalize (lg_sl ([.ref a, .int v]) ++ List.replicate (4 - (lg_sl ([.ref a, .int v])).length) Slot.unset).toArray = ls at hl ⊢
  have hl : lv_has ls 4 [(0, .ref a), (1, .int v)] := hl
  refine lv_iconst (v := 0) hx hb d_AR_fill_0 (by decide) ?_
  refine lv_istore_n (lv' := [(2, .int 0), (0, .ref a), (1, .int v)]) hx hb d_AR_fill_1 rfl hl (by decide) rfl (fun ls hl => ?_)
  refine lv_aload_n hx hb d_AR_fill_2 rfl (lv_at hl 1 rfl) ?_
  refine va_alen (v := nI N) hx hb hK hB.1 0 0 rfl rfl rfl d_AR_fill_3 ?_
  refine lv_istore_n (lv' := [(3, .int (nI N)), (2, .int 0), (0, .ref a), (1, .int v)]) hx hb d_AR_fill_4 rfl hl (by decide) rfl (fun ls hl => ?_)
  refine lp_W (I := fun n H locs kc ls => ∃ (k : Nat) (g : Nat → Int32), bk G.1 vwCl A [[(a, .inl (G.2.1, N, .inl g))]] H ∧ va_S A s.heap H locs ∧ lv_has ls 4 [(0, .ref a), (1, .int v), (3, .int (nI N)), (2, .int (nI k))] ∧ kc = 0 ∧ k ≤ N ∧ (∀ i, i < k → g i = v) ∧ N - k < n) ?_ ?_ (N + 1) _ _ _ _ ⟨0, f, hB, hS, lv_sub hl [2, 3, 0, 1] rfl, rfl, Nat.zero_le _, fun i h => absurd h (Nat.not_lt_zero i), by omega⟩
  · intro n ih H locs kc ls ⟨k, g, hB, hS, hl, hkc, hk, hg, hm⟩
    subst hkc
    refine lv_iload_n hx hb d_AR_fill_5 rfl (lv_at hl 3 rfl) ?_
    refine lv_iload_n hx hb d_AR_fill_6 rfl (lv_at hl 2 rfl) ?_
    refine lv_icmp_ge (tgt := 20) hx hb d_AR_fill_7 (by decide) (fun c1 => ?_) (fun c1 => ?_)
    · have hkN : N ≤ k := (nI_leI hN (by omega)).mp c1
      have hB2 : bk G.1 vwCl A [[(a, .inl (G.2.1, N, .inl (fun _ => v)))]] H := by
        refine ⟨?_, ⟨fun i j p q hi hj e => ?_, fun i q hi => ?_⟩⟩
        · intro i q hi
          match i, hi with
          | 0, hi =>
            obtain rfl := Option.some.inj hi
            have h1 := hB.1 0 _ rfl
            have h2 : H[a]? = some (vp_cell G.2.1 (N, .inl g)) := h1
            show H[a]? = some (vp_cell G.2.1 (N, .inl (fun _ => v)))
            rw [h2, vp_cell_i, vp_cell_i]
            refine congrArg some ?_
            unfold arrV
            congr 1
            refine congrArg Array.ofFn (funext fun j => ?_)
            show Value.int (g j.val) = Value.int v
            rw [hg j.val (by have := j.isLt; omega)]
          | i + 1, hi => simp at hi
        · match i, j, hi, hj with
          | 0, 0, _, _ => rfl
          | i + 1, _, hi, _ => simp at hi
          | 0, j + 1, _, hj => simp at hj
        · match i, hi with
          | 0, hi =>
            obtain rfl := Option.some.inj hi
            exact (hB.2.2 0 (a, .inl (G.2.1, N, .inl g)) rfl : A a)
          | i + 1, hi => simp at hi
      exact W.vret hx hb hr (fun t ht hW => ⟨⟨[(a, .inl (G.2.1, N, .inl (fun _ => v)))], rfl, rfl, by rw [ht]; exact hB2.1, hB2.2⟩, hS.F ht⟩) hS.2.2 d_AR_fill_20
    · have hkN : k < N := by
        rcases Nat.lt_or_ge k N with h | h
        · exact h
        · exact absurd (nI_le h (by omega)) c1
      refine lv_aload_n hx hb d_AR_fill_10 rfl (lv_at hl 0 rfl) ?_
      refine lv_iload_n hx hb d_AR_fill_11 rfl (lv_at hl 3 rfl) ?_
      refine lv_iload_n hx hb d_AR_fill_12 rfl (lv_at hl 1 rfl) ?_
      refine va_iast hx hb hK hB.1 hB.2 hS 0 0 rfl rfl (vp_in_nI hkN hN) d_AR_fill_13 (fun H locs hP hD hS => ?_)
      rw [nI_clamp (by omega)] at hP hD
      refine lv_iinc (v := nI (k + 1)) (lv' := [(2, .int (nI (k + 1))), (0, .ref a), (1, .int v), (3, .int (nI N))]) hx hb d_AR_fill_14 hl (k := 3) rfl (by rw [nI_succ]; rfl) (by decide) rfl (fun ls hl => ?_)
      refine lv_goto (tgt := 5) hx hb d_AR_fill_17 (by decide) ?_
      refine ih _ _ _ _ ⟨k + 1, upd g k v, ⟨hP, hD⟩, hS, lv_sub hl [1, 2, 3, 0] rfl, rfl, by omega, fun i hi => ?_, by omega⟩
      rcases Nat.lt_or_ge i k with h | h
      · rw [pk_un (by omega)]; exact hg i h
      · obtain rfl : i = k := by omega
        exact pk_us
  · rintro H locs kc ls ⟨_, _, -, -, -, -, -, -, hm⟩; exact Nat.not_lt_zero _ hm
