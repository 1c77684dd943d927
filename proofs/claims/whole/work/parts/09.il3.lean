def A_IL_fillN (v : Int32) : Nat → tIL → tIL
  | 0, x => x
  | n + 1, x => A_IL_fillN v n (A_IL_add x v)
def K_IL_fillN (v : Int32) : Nat → tIL → Nat
  | 0, _ => 0
  | n + 1, x => K_IL_add x v + K_IL_fillN v n (A_IL_add x v)
def A_IL_fill (x : tIL) (n v : Int32) : tIL := A_IL_fillN v n.toNatClampNeg ([], x.2)
def K_IL_fill (x : tIL) (n v : Int32) : Nat := K_IL_fillN v n.toNatClampNeg ([], x.2)
def A_IL_turnL : Nat → Int32 → Int32 → tIL → tIL
  | 0, _, _, x => x
  | n + 1, lo, hi, x => if hi ≤ lo then x else A_IL_turnL n (lo + 1) (hi + (-1)) (A_IL_put (A_IL_put x lo (A_IL_at x hi)) hi (A_IL_at x lo))
def A_IL_turnRound (x : tIL) (first : Int32) : tIL := A_IL_turnL (((nI x.1.length - 1).toInt - first.toInt).toNat + 1) first (nI x.1.length - 1) x
theorem fl_in {n : Int32} {k : Nat} (h : ¬ n ≤ nI k) (hk : k < 2 ^ 31) : k < n.toNatClampNeg ∧ n = nI n.toNatClampNeg ∧ n.toNatClampNeg < 2 ^ 31 := by
  have h1 : ¬ n < 0 := fun h2 => by
    have a := Int32.lt_iff_toInt_lt.mp h2
    have b := nI_toInt hk
    have c : (0 : Int32).toInt = 0 := rfl
    exact h (Int32.le_iff_toInt_le.mpr (by omega))
  obtain ⟨j, hj, rfl⟩ := nI_of h1
  rw [nI_clamp hj]
  refine ⟨?_, rfl, hj⟩
  rcases Nat.lt_or_ge k j with h2 | h2
  · exact h2
  · exact absurd (nI_le h2 hk) h
theorem fl_out {n : Int32} {k : Nat} (h : n ≤ nI k) (hk : k < 2 ^ 31) : n.toNatClampNeg ≤ k := by
  by_cases h1 : n < 0
  · have a := Int32.lt_iff_toInt_lt.mp h1
    have c : (0 : Int32).toInt = 0 := rfl
    show n.toInt.toNat ≤ k
    omega
  · obtain ⟨j, hj, rfl⟩ := nI_of h1
    rw [nI_clamp hj]
    exact (nI_leI hj hk).mp h
theorem fl_lt (n : Int32) : n.toNatClampNeg < 2 ^ 31 := by
  have h := Int32.toInt_lt n
  show n.toInt.toNat < 2 ^ 31
  omega

set_option maxHeartbeats 4000000 in
set_option maxRecDepth 100000 in
theorem c_IL_fill (l : Launch) (G : pG) (h0 : Nat) (x : tIL) (n : Int32) (v : Int32) (H : Heap) (w : va_W) (hP0 : va_P G.1 vwCl w H) (hD0 : va_D (fun _ => True) w) (hσ : pIL G h0 x w) (res : tIL) (hr0 : A_IL_fill x n v = res) (Kt : Nat) (hk : K_IL_fill x n v = Kt) (hKb : Kt ≤ 16777216) : MWv l y_IL_fill w_IL_fill 3 103 Kt G [.ref h0, .int n, .int v] H w (pIL G h0 res) := by
  refine Met.ofW (cc := b_IL_fill) (maxL := 4) (ret := none) (by decide) rfl ?_
  intro p e s m args below meth c s₁ B hml hv
  obtain ⟨rfl, rfl, hK⟩ := hv
  have hx := B.exec
  have hb := B.bytes
  have hr := B.returns
  have hts0 := atoms_spec (ws := w_IL_fill) B.pre
  have hts := fun w (h : w ∈ lw_g) => hts0 w (List.mem_cons_of_mem _ h)
  have hown : s.vm.findClass RIL = some m.cls := findClass_of_methodNamed B.named
  have hlocks := B.notSynchronized
  have hA : ∀ q : Nat, s.heap.size ≤ q → va_A w s.heap.size q := fun _ h => Or.inr h
  have hB : bk G.1 vwCl (va_A w s.heap.size) [w] s.heap := bk_init hP0 hD0
  generalize va_A w s.heap.size = A at *
  have hS : va_S A s.heap s.heap [] := va_S.rf
  obtain ⟨q, f, rfl, hc, hf⟩ := hσ
  have hB := bk_many hB
  have hl := lv_entry ([.ref h0, .int n, .int v]) (n := 4) (Nat.le_of_ble_eq_true rfl)
  rw [lg_entry_eq]
  generalize (lg_sl ([.ref h0, .int n, .int v]) ++ List.replicate (4 - (lg_sl ([.ref h0, .int n, .int v])).length) Slot.unset).toArray = ls at hl ⊢
  have hl : lv_has ls 4 [(0, .ref h0), (1, .int n), (2, .int v)] := hl
  unfold A_IL_fill at hr0
  unfold K_IL_fill at hk
  refine lv_aload_n hx hb d_IL_fill_0 rfl (lv_at hl 0 rfl) ?_
  refine lv_iconst (v := 0) hx hb d_IL_fill_1 (by decide) ?_
  refine va_put (D := G.1) (ci := 0) (v := .int 0) (ty := .int) (C := RIL) (T := TIL) (N := 2) hx hb hts inIL tyIL tokIL nmIL hown hK hB.1 hB.2 hS 0 rfl rfl 1 (by decide) (hts _ fl_IL_15) (fun _ h9 => h9) rfl (by decide +kernel) rfl rfl (Nat.le_of_ble_eq_true rfl) d_IL_fill_2 (fun H locs hP hD hS => ?_)
  have hB : bk G.1 vwCl A [[(h0, .inr (0, [.ref q, .int 0]))], [(q, .inl (G.2.1, x.2, .inl f))]] H := ⟨hP, hD⟩
  refine lv_iconst (v := 0) hx hb d_IL_fill_5 (by decide) ?_
  refine lv_istore_n (lv' := [(3, .int 0), (0, .ref h0), (1, .int n), (2, .int v)]) hx hb d_IL_fill_6 rfl hl (by decide) rfl (fun ls hl => ?_)
  have hN := fl_lt n
  refine lp_W (I := fun i H locs kc ls => ∃ (k : Nat) (z : tIL) (w : va_W), pIL G h0 z w ∧ bk G.1 vwCl A [w] H ∧ va_S A s.heap H locs ∧ lv_has ls 4 [(0, .ref h0), (1, .int n), (2, .int v), (3, .int (nI k))] ∧ k ≤ n.toNatClampNeg ∧ A_IL_fillN v (n.toNatClampNeg - k) z = res ∧ kc + K_IL_fillN v (n.toNatClampNeg - k) z = Kt ∧ n.toNatClampNeg - k < i) ?_ ?_ (n.toNatClampNeg + 1) _ _ _ _ ⟨0, ([], x.2), _, ⟨q, f, rfl, ⟨Nat.zero_le _, hc.2⟩, fun i hi => absurd hi (Nat.not_lt_zero i)⟩, bk_one hB, hS, lv_sub hl [1, 2, 3, 0] rfl, Nat.zero_le _, hr0, (Nat.zero_add _).trans hk, by omega⟩
  · intro i ih H locs kc ls ⟨k, z, w, hz, hB, hS, hl, hkN, hr0, hk, hm⟩
    refine lv_iload_n hx hb d_IL_fill_7 rfl (lv_at hl 3 rfl) ?_
    refine lv_iload_n hx hb d_IL_fill_8 rfl (lv_at hl 1 rfl) ?_
    refine lv_icmp_ge (tgt := 23) hx hb d_IL_fill_9 (by decide) (fun c1 => ?_) (fun c1 => ?_)
    · have h1 := fl_out c1 (by omega)
      rw [show n.toNatClampNeg - k = 0 by omega] at hr0 hk
      have hr0 : z = res := hr0
      subst hr0
      refine W.widen (k := Kt) (n := Kt) (Nat.le.intro hk) (Nat.le.intro hk) ?_
      exact W.vret hx hb hr (fun t ht hW => ⟨⟨w, rfl, hz, by rw [ht]; exact (bk_get (k := 0) hB rfl), by have := hB.2; simpa using this⟩, hS.F ht⟩) hS.2.2 d_IL_fill_23
    · obtain ⟨h1, h2, h3⟩ := fl_in c1 (by omega)
      rw [show n.toNatClampNeg - k = (n.toNatClampNeg - (k + 1)) + 1 by omega] at hr0 hk
      rw [A_IL_fillN] at hr0
      rw [K_IL_fillN] at hk
      refine lv_aload_n hx hb d_IL_fill_12 rfl (lv_at hl 0 rfl) ?_
      refine lv_iload_n hx hb d_IL_fill_13 rfl (lv_at hl 2 rfl) ?_
      refine wrV (G := G) (k := 0) (As := [.int v]) (rest := []) (C := RIL) ⟨hx, hb, hml, hown, hts⟩ (c_IL_add l G h0 z v _ _ (bk_get (k := 0) hB rfl) (bk_own (k := 0) hB rfl) hz _ rfl _ rfl (bk_ub hk hKb)) (cwV 1 hts (gd_V ml_IL_25 im_IL_add sl_IL_add ini_IL k_IL_add) rfl rfl rfl (by decide +kernel) ⟨Nat.le_of_ble_eq_true rfl, Nat.le_of_ble_eq_true rfl⟩) hK (pIL_recv hK (bk_get (k := 0) hB rfl) hz) hS hA hB rfl hk ⟨rfl, rfl⟩ rfl hl.1 (Nat.le_of_ble_eq_true rfl) d_IL_fill_14 (fun u H locs kc hu hB hS hk => ?_)
      have hB : bk G.1 vwCl A [u] H := hB
      refine lv_iinc (v := nI (k + 1)) (lv' := [(3, .int (nI (k + 1))), (0, .ref h0), (1, .int n), (2, .int v)]) hx hb d_IL_fill_17 hl (k := 3) rfl (by rw [nI_succ]; rfl) (by decide) rfl (fun ls hl => ?_)
      refine lv_goto (tgt := 7) hx hb d_IL_fill_20 (by decide) ?_
      exact ih _ _ _ _ ⟨k + 1, _, u, hu, hB, hS, lv_sub hl [1, 2, 3, 0] rfl, by omega, hr0, hk, by omega⟩
  · rintro H locs kc ls ⟨_, _, _, -, -, -, -, -, -, -, hm⟩; exact Nat.not_lt_zero _ hm

theorem tr_dec {lo hi : Int32} {n : Nat} (c : ¬ hi ≤ lo) (hm : (hi.toInt - lo.toInt).toNat < n + 1) : ((hi + (-1)).toInt - (lo + 1).toInt).toNat < n := by
  have c1 : lo.toInt < hi.toInt := by
    rcases (show lo.toInt < hi.toInt ∨ hi.toInt ≤ lo.toInt by omega) with h | h
    · exact h
    · exact absurd (Int32.le_iff_toInt_le.mpr h) c
  have a1 := Int32.le_toInt lo
  have a2 := Int32.toInt_lt hi
  have e1 : (lo + 1).toInt = lo.toInt + 1 := by
    rw [Int32.toInt_add]
    rw [show (1 : Int32).toInt = 1 from rfl]
    apply Int.bmod_eq_of_le <;> omega
  have e2 : (hi + (-1)).toInt = hi.toInt - 1 := by
    rw [Int32.toInt_add]
    rw [show (-1 : Int32).toInt = -1 from rfl]
    rw [Int.bmod_eq_of_le] <;> omega
  omega

set_option maxHeartbeats 4000000 in
set_option maxRecDepth 100000 in
theorem c_IL_turnRound (l : Launch) (G : pG) (h0 : Nat) (x : tIL) (first : Int32) (H : Heap) (w : va_W) (hP0 : va_P G.1 vwCl w H) (hD0 : va_D (fun _ => True) w) (hσ : pIL G h0 x w) (res : tIL) (hr0 : A_IL_turnRound x first = res) : MWv l y_IL_turnRound w_IL_turnRound 1 22 0 G [.ref h0, .int first] H w (pIL G h0 res) := by
  refine Met.ofW (cc := b_IL_turnRound) (maxL := 5) (ret := none) (by decide) rfl ?_
  intro p e s m args below meth c s₁ B hml hv
  obtain ⟨rfl, rfl, hK⟩ := hv
  have hx := B.exec
  have hb := B.bytes
  have hr := B.returns
  have hts0 := atoms_spec (ws := w_IL_turnRound) B.pre
  have hts := fun w (h : w ∈ lw_g) => hts0 w (List.mem_cons_of_mem _ h)
  have hown : s.vm.findClass RIL = some m.cls := findClass_of_methodNamed B.named
  have hlocks := B.notSynchronized
  have hA : ∀ q : Nat, s.heap.size ≤ q → va_A w s.heap.size q := fun _ h => Or.inr h
  have hB : bk G.1 vwCl (va_A w s.heap.size) [w] s.heap := bk_init hP0 hD0
  generalize va_A w s.heap.size = A at *
  have hS : va_S A s.heap s.heap [] := va_S.rf
  have hx0 := hσ
  have hB0 := hB
  obtain ⟨q, f, rfl, hc, hf⟩ := hσ
  have hB := bk_many hB
  have hl := lv_entry ([.ref h0, .int first]) (n := 5) (Nat.le_of_ble_eq_true rfl)
  rw [lg_entry_eq]
  generalize (lg_sl ([.ref h0, .int first]) ++ List.replicate (5 - (lg_sl ([.ref h0, .int first])).length) Slot.unset).toArray = ls at hl ⊢
  have hl : lv_has ls 5 [(0, .ref h0), (1, .int first)] := hl
  unfold A_IL_turnRound at hr0
  refine lv_iload_n hx hb d_IL_turnRound_0 rfl (lv_at hl 1 rfl) ?_
  refine lv_istore_n (lv' := [(2, .int first), (0, .ref h0), (1, .int first)]) hx hb d_IL_turnRound_1 rfl hl (by decide) rfl (fun ls hl => ?_)
  refine lv_aload_n hx hb d_IL_turnRound_2 rfl (lv_at hl 1 rfl) ?_
  refine va_get (D := G.1) (ci := 0) (v := .int (nI x.1.length)) (C := RIL) (T := TIL) (N := 2) hx hb hts inIL hown hK hB.1 0 rfl rfl 1 (by decide) (hts _ fl_IL_15) (fun _ h9 => h9) rfl d_IL_turnRound_3 ?_
  refine lv_iconst (v := 1) hx hb d_IL_turnRound_6 (by decide) ?_
  refine lv_isub hx hb d_IL_turnRound_7 ?_
  refine lv_istore_n (lv' := [(3, .int (nI x.1.length - 1)), (2, .int first), (0, .ref h0), (1, .int first)]) hx hb d_IL_turnRound_8 rfl hl (by decide) rfl (fun ls hl => ?_)
  refine lp_W (I := fun i H locs kc ls => ∃ (lo hi : Int32) (z : tIL) (w : va_W), kc = 0 ∧ pIL G h0 z w ∧ bk G.1 vwCl A [w] H ∧ va_S A s.heap H locs ∧ lv_has ls 5 [(0, .ref h0), (2, .int lo), (3, .int hi)] ∧ A_IL_turnL i lo hi z = res ∧ (hi.toInt - lo.toInt).toNat < i) ?_ ?_ (((nI x.1.length - 1).toInt - first.toInt).toNat + 1) _ _ _ _ ⟨first, nI x.1.length - 1, x, _, rfl, hx0, hB0, hS, lv_sub hl [2, 1, 0] rfl, hr0, Nat.lt_succ_self _⟩
  · intro i ih H locs kc ls ⟨lo, hi, z, w, hkc, hz, hB, hS, hl, hr0, hm⟩
    subst hkc
    rw [A_IL_turnL] at hr0
    refine lv_iload_n hx hb d_IL_turnRound_9 rfl (lv_at hl 1 rfl) ?_
    refine lv_iload_n hx hb d_IL_turnRound_10 rfl (lv_at hl 2 rfl) ?_
    refine lv_icmp_ge (tgt := 47) hx hb d_IL_turnRound_11 (by decide) (fun c1 => ?_) (fun c1 => ?_)
    · have hr0 := ai_pos c1 hr0
      subst hr0
      exact W.vret hx hb hr (fun t ht hW => ⟨⟨w, rfl, hz, by rw [ht]; exact (bk_get (k := 0) hB rfl), by have := hB.2; simpa using this⟩, hS.F ht⟩) hS.2.2 d_IL_turnRound_47
    · have hr0 := ai_neg c1 hr0
      refine lv_aload_n hx hb d_IL_turnRound_14 rfl (lv_at hl 0 rfl) ?_
      refine lv_iload_n hx hb d_IL_turnRound_15 rfl (lv_at hl 1 rfl) ?_
      refine rdV (G := G) (As := [.int lo]) (rest := []) (C := RIL) ⟨hx, hb, hml, hown, hts⟩ (c_IL_at l G h0 z lo _ _ (bk_get (k := 0) hB rfl) hz _ rfl) (cwV 1 hts (gd_V ml_IL_29 im_IL_at sl_IL_at ini_IL k_IL_at) rfl rfl rfl (by decide +kernel) ⟨Nat.le_of_ble_eq_true rfl, Nat.le_of_ble_eq_true rfl⟩) hK (pIL_recv hK (bk_get (k := 0) hB rfl) hz) hS ⟨Nat.le_refl _, Nat.le_refl _⟩ rfl hl.1 (Nat.le_of_ble_eq_true rfl) d_IL_turnRound_16 (fun locs hS => ?_)
      refine lv_istore (lv' := [(4, .int (A_IL_at z lo)), (0, .ref h0), (2, .int lo), (3, .int hi)]) hx hb d_IL_turnRound_19 hl (by decide) rfl (fun ls hl => ?_)
      refine lv_aload_n hx hb d_IL_turnRound_21 rfl (lv_at hl 1 rfl) ?_
      refine lv_iload_n hx hb d_IL_turnRound_22 rfl (lv_at hl 2 rfl) ?_
      refine lv_aload_n hx hb d_IL_turnRound_23 rfl (lv_at hl 1 rfl) ?_
      refine lv_iload_n hx hb d_IL_turnRound_24 rfl (lv_at hl 3 rfl) ?_
      refine rdV (G := G) (As := [.int hi]) (rest := [.int lo, .ref h0]) (C := RIL) ⟨hx, hb, hml, hown, hts⟩ (c_IL_at l G h0 z hi _ _ (bk_get (k := 0) hB rfl) hz _ rfl) (cwV 1 hts (gd_V ml_IL_29 im_IL_at sl_IL_at ini_IL k_IL_at) rfl rfl rfl (by decide +kernel) ⟨Nat.le_of_ble_eq_true rfl, Nat.le_of_ble_eq_true rfl⟩) hK (pIL_recv hK (bk_get (k := 0) hB rfl) hz) hS ⟨Nat.le_refl _, Nat.le_refl _⟩ rfl hl.1 (Nat.le_of_ble_eq_true rfl) d_IL_turnRound_25 (fun locs hS => ?_)
      refine wrV0 (G := G) (k := 0) (As := [.int lo, .int (A_IL_at z hi)]) (rest := []) (C := RIL) (rem := 0) (Kt := 0) ⟨hx, hb, hml, hown, hts⟩ (c_IL_put l G h0 (z) lo (A_IL_at z hi) _ _ (bk_get (k := 0) hB rfl) (bk_own (k := 0) hB rfl) hz _ rfl) (cwV 2 hts (gd_V ml_IL_33 im_IL_put sl_IL_put ini_IL k_IL_put) rfl rfl rfl (by decide +kernel) ⟨Nat.le_of_ble_eq_true rfl, Nat.le_of_ble_eq_true rfl⟩) hK (pIL_recv hK (bk_get (k := 0) hB rfl) hz) hS hA hB rfl rfl ⟨rfl, rfl⟩ rfl hl.1 (Nat.le_of_ble_eq_true rfl) d_IL_turnRound_28 (fun u1 H locs hu1 hB hS => ?_)
      have hB : bk G.1 vwCl A [u1] H := hB
      refine lv_aload_n hx hb d_IL_turnRound_31 rfl (lv_at hl 1 rfl) ?_
      refine lv_iload_n hx hb d_IL_turnRound_32 rfl (lv_at hl 3 rfl) ?_
      refine lv_iload hx hb d_IL_turnRound_33 (lv_at hl 0 rfl) ?_
      refine wrV0 (G := G) (k := 0) (As := [.int hi, .int (A_IL_at z lo)]) (rest := []) (C := RIL) (rem := 0) (Kt := 0) ⟨hx, hb, hml, hown, hts⟩ (c_IL_put l G h0 (A_IL_put z lo (A_IL_at z hi)) hi (A_IL_at z lo) _ _ (bk_get (k := 0) hB rfl) (bk_own (k := 0) hB rfl) hu1 _ rfl) (cwV 2 hts (gd_V ml_IL_33 im_IL_put sl_IL_put ini_IL k_IL_put) rfl rfl rfl (by decide +kernel) ⟨Nat.le_of_ble_eq_true rfl, Nat.le_of_ble_eq_true rfl⟩) hK (pIL_recv hK (bk_get (k := 0) hB rfl) hu1) hS hA hB rfl rfl ⟨rfl, rfl⟩ rfl hl.1 (Nat.le_of_ble_eq_true rfl) d_IL_turnRound_35 (fun u2 H locs hu2 hB hS => ?_)
      have hB : bk G.1 vwCl A [u2] H := hB
      refine lv_iinc (v := lo + 1) (lv' := [(2, .int (lo + 1)), (4, .int (A_IL_at z lo)), (0, .ref h0), (3, .int hi)]) hx hb d_IL_turnRound_38 hl (k := 2) rfl rfl (by decide) rfl (fun ls hl => ?_)
      refine lv_iinc (v := hi + (-1)) (lv' := [(3, .int (hi + (-1))), (2, .int (lo + 1)), (4, .int (A_IL_at z lo)), (0, .ref h0)]) hx hb d_IL_turnRound_41 hl (k := 3) rfl rfl (by decide) rfl (fun ls hl => ?_)
      refine lv_goto (tgt := 9) hx hb d_IL_turnRound_44 (by decide) ?_
      exact ih _ _ _ _ ⟨lo + 1, hi + (-1), _, u2, rfl, hu2, hB, hS, lv_sub hl [3, 1, 0] rfl, hr0, tr_dec c1 hm⟩
  · rintro H locs kc ls ⟨_, _, _, _, -, -, -, -, -, -, hm⟩; exact Nat.not_lt_zero _ hm

set_option maxHeartbeats 4000000 in
set_option maxRecDepth 100000 in
theorem c_IL_init (l : Launch) (G : pG) (h0 : Nat) (H : Heap) (w : va_W) (hP0 : va_P G.1 vwCl w H) (hD0 : va_D (fun _ => True) w) (hσ : w = [(h0, .inr (0, [.null, .int 0]))]) : MWv l y_IL_init w_IL_init 1 12 16 G [.ref h0] H w (pIL G h0 ([], 16)) := by
  refine Met.ofW (cc := b_IL_init) (maxL := 1) (ret := none) (by decide) rfl ?_
  intro p e s m args below meth c s₁ B hml hv
  obtain ⟨rfl, rfl, hK⟩ := hv
  have hx := B.exec
  have hb := B.bytes
  have hr := B.returns
  have hts0 := atoms_spec (ws := w_IL_init) B.pre
  have hts := fun w (h : w ∈ lw_g) => hts0 w (List.mem_cons_of_mem _ h)
  have hown : s.vm.findClass RIL = some m.cls := findClass_of_methodNamed B.named
  have hlocks := B.notSynchronized
  have hA : ∀ q : Nat, s.heap.size ≤ q → va_A w s.heap.size q := fun _ h => Or.inr h
  have hB : bk G.1 vwCl (va_A w s.heap.size) [w] s.heap := bk_init hP0 hD0
  generalize va_A w s.heap.size = A at *
  have hS : va_S A s.heap s.heap [] := va_S.rf
  subst hσ
  have hB : bk G.1 vwCl A [[(h0, .inr (0, [.null, .int 0]))]] s.heap := hB
  have hin : meth.name = "<init>" := (name_of_methodNamed B.named B.method).1
  have hl := lv_entry ([.ref h0]) (n := 1) (Nat.le_of_ble_eq_true rfl)
  rw [lg_entry_eq]
  generalize (lg_sl ([.ref h0]) ++ List.replicate (1 - (lg_sl ([.ref h0])).length) Slot.unset).toArray = ls at hl ⊢
  have hl : lv_has ls 1 [(0, .ref h0)] := hl
  refine lv_aload_n hx hb d_IL_init_0 rfl (lv_at hl 0 rfl) ?_
  refine W.objInit hx hb hown (hts _ ml_IL_3) (hts _ im_obj_init) (hts _ k_obj_init) rfl (by rw [hml]; exact hl.1) rfl d_IL_init_1 (Nat.le_of_ble_eq_true rfl) (Nat.le_of_ble_eq_true rfl) ?_
  refine W.eq (g2 := F0 m 4 ls []) rfl ?_
  refine lv_aload_n hx hb d_IL_init_4 rfl (lv_at hl 0 rfl) ?_
  refine lv_bipush (v := 16) hx hb d_IL_init_5 (by decide) ?_
  refine va_newa (atype := .int) (ty := .int) (a0 := (16, .inl (fun _ => 0))) (N' := 16) hx hb (hts _ arr_int) rfl hK hB.1 hB.2 hS hA (fun cA => rfl) (by decide) (by decide) (by decide) (Nat.le_of_ble_eq_true rfl) (Nat.le_of_ble_eq_true rfl) d_IL_init_7 (fun q cA H hK2 hP hD hS => ?_)
  obtain rfl : cA = G.2.1 := ca_eq hK2 3 0 rfl rfl
  have hB : bk G.1 vwCl A [[(h0, .inr (0, [.null, .int 0]))], [(q, .inl (G.2.1, 16, .inl (fun _ => 0)))]] H := ⟨hP, hD⟩
  refine W.widen (k := 16) (n := 16) (by decide) (by decide) ?_
  refine va_put (D := G.1) (ci := 0) (v := .ref q) (ty := .array .int) (C := RIL) (T := TIL) (N := 2) hx hb hts inIL tyIL tokIL nmIL hown hK hB.1 hB.2 hS 0 rfl rfl 0 (by decide) (hts _ fl_IL_11) (fun _ h9 => h9) rfl (by decide +kernel) rfl rfl (Nat.le_of_ble_eq_true rfl) d_IL_init_9 (fun H locs hP hD hS => ?_)
  have hB : bk G.1 vwCl A [[(h0, .inr (0, [.ref q, .int 0]))], [(q, .inl (G.2.1, 16, .inl (fun _ => 0)))]] H := ⟨hP, hD⟩
  refine lv_aload_n hx hb d_IL_init_12 rfl (lv_at hl 0 rfl) ?_
  refine lv_iconst (v := 0) hx hb d_IL_init_13 (by decide) ?_
  refine va_put (D := G.1) (ci := 0) (v := .int 0) (ty := .int) (C := RIL) (T := TIL) (N := 2) hx hb hts inIL tyIL tokIL nmIL hown hK hB.1 hB.2 hS 0 rfl rfl 1 (by decide) (hts _ fl_IL_15) (fun _ h9 => h9) rfl (by decide +kernel) rfl rfl (Nat.le_of_ble_eq_true rfl) d_IL_init_14 (fun H locs hP hD hS => ?_)
  have hB : bk G.1 vwCl A [[(h0, .inr (0, [.ref q, .int 0]))], [(q, .inl (G.2.1, 16, .inl (fun _ => 0)))]] H := ⟨hP, hD⟩
  exact W.vret hx hb hr (fun t ht hW => ⟨⟨[[(h0, .inr (0, [.ref q, .int 0]))], [(q, .inl (G.2.1, 16, .inl (fun _ => 0)))]].flatten, rfl, ⟨q, fun _ => 0, rfl, by simp, fun i hi => absurd hi (Nat.not_lt_zero i)⟩, by rw [ht]; exact hB.1, hB.2⟩, hS.F ht⟩) hS.2.2 d_IL_init_17
