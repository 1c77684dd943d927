abbrev tLL : Type := tIL
def pLL (G : pG) (h0 : Nat) (ad : Nat → Nat) (σ : tLL) (w : va_W) : Prop := ∃ (w0 : va_W), w = [[(h0, .inr (1, [.ref (ad 0)]))], w0].flatten ∧ pIL G (ad 0) σ w0
theorem pLL_recv {G : pG} {s : State} {H : Heap} {h0 : Nat} {ad : Nat → Nat} {σ : tLL} {w : va_W} (hK : va_K G.1 vwCl (tyG G) s) (hP : va_P G.1 vwCl w H) (h : pLL G h0 ad σ w) : ∃ cell : Cell, H[h0]? = some cell ∧ cell.vm.isStatics = false ∧ s.vm.findClass RLL = some cell.cls := by
  obtain ⟨w0, rfl, -⟩ := h
  exact va_recv (q0 := 0) (ci := 1) hK hP rfl rfl

theorem up_dec {k b : Int32} {n : Nat} (c : ¬ b ≤ k) (hm : (b.toInt - k.toInt).toNat < n + 1) : (b.toInt - (k + 1).toInt).toNat < n := by
  have c1 : k.toInt < b.toInt := by
    rcases (show k.toInt < b.toInt ∨ b.toInt ≤ k.toInt by omega) with h | h
    · exact h
    · exact absurd (Int32.le_iff_toInt_le.mpr h) c
  have a1 := Int32.le_toInt k
  have a2 := Int32.toInt_lt b
  have e1 : (k + 1).toInt = k.toInt + 1 := by
    rw [Int32.toInt_add]
    rw [show (1 : Int32).toInt = 1 from rfl]
    apply Int.bmod_eq_of_le <;> omega
  omega

def A_LL_forget (σ : tLL) : tLL := A_IL_cut σ 0
set_option maxHeartbeats 4000000 in
set_option maxRecDepth 100000 in
theorem c_LL_forget (l : Launch) (G : pG) (h0 : Nat) (ad : Nat → Nat) (σ : tLL) (H : Heap) (w : va_W) (hP0 : va_P G.1 vwCl w H) (hD0 : va_D (fun _ => True) w) (hσ : pLL G h0 ad σ w) (res : tLL) (hr0 : A_LL_forget σ = res) : MWv l y_LL_forget w_LL_forget 1 21 0 G [.ref h0] H w (pLL G h0 ad res) := by
  refine Met.ofW (cc := b_LL_forget) (maxL := 1) (ret := none) (by decide) rfl ?_
  intro p e s m args below meth c s₁ B hml hv
  obtain ⟨rfl, rfl, hK⟩ := hv
  have hx := B.exec
  have hb := B.bytes
  have hr := B.returns
  have hts0 := atoms_spec (ws := w_LL_forget) B.pre
  have hts := fun w (h : w ∈ lw_g) => hts0 w (List.mem_cons_of_mem _ h)
  have hown : s.vm.findClass RLL = some m.cls := findClass_of_methodNamed B.named
  have hlocks := B.notSynchronized
  have hA : ∀ q : Nat, s.heap.size ≤ q → va_A w s.heap.size q := fun _ h => Or.inr h
  have hB : bk G.1 vwCl (va_A w s.heap.size) [w] s.heap := bk_init hP0 hD0
  generalize va_A w s.heap.size = A at *
  have hS : va_S A s.heap s.heap [] := va_S.rf
  obtain ⟨w1, rfl, h2⟩ := hσ
  have hB := bk_many hB
  have hk : 0 + 0 = 0 := rfl
  have hl := lv_entry ([.ref h0]) (n := 1) (Nat.le_of_ble_eq_true rfl)
  rw [lg_entry_eq]
  generalize (lg_sl ([.ref h0]) ++ List.replicate (1 - (lg_sl ([.ref h0])).length) Slot.unset).toArray = ls at hl ⊢
  have hl : lv_has ls 1 [(0, .ref h0)] := hl
  unfold A_LL_forget at hr0
  refine lv_aload_n hx hb d_LL_forget_0 rfl (lv_at hl 0 rfl) ?_
  refine va_get (D := G.1) (ci := 1) (v := .ref (ad 0)) (C := RLL) (T := TLL) (N := 1) hx hb hts inLL hown hK hB.1 0 rfl rfl 0 (by decide) (hts _ fl_LL_10) (fun _ h9 => h9) rfl d_LL_forget_1 ?_
  refine lv_iconst (v := 0) hx hb d_LL_forget_4 (by decide) ?_
  refine wrV0 (G := G) (k := 1) (As := [.int 0]) (rest := []) (C := RIL) ⟨hx, hb, hml, hown, hts⟩ (c_IL_cut l G (ad 0) σ 0 _ _ (bk_gP (k := 1) hB.1 rfl) (bk_own (k := 1) hB rfl) h2 _ rfl) (cwV 1 hts (gd_V ml_LL_16 im_IL_cut sl_IL_cut ini_IL k_IL_cut) rfl rmK_c rmK_s (by decide +kernel) ⟨Nat.le_of_ble_eq_true rfl, Nat.le_of_ble_eq_true rfl⟩) hK (pIL_recv hK (bk_gP (k := 1) hB.1 rfl) h2) hS hA hB rfl hk ⟨rfl, rfl⟩ rfl hl.1 (Nat.le_of_ble_eq_true rfl) d_LL_forget_5 (fun u3 H locs hu4 hB hS => ?_)
  have hB : bk G.1 vwCl A [[(h0, .inr (1, [.ref (ad 0)]))], u3] H := hB
  subst hr0
  refine W.widen (k := 0) (n := 0) (Nat.le_refl _) (Nat.le_refl _) ?_
  exact W.vret hx hb hr (fun t ht hW => ⟨⟨[[(h0, .inr (1, [.ref (ad 0)]))], u3].flatten, rfl, ⟨u3, rfl, hu4⟩, by rw [ht]; exact hB.1, hB.2⟩, hS.F ht⟩) hS.2.2 d_LL_forget_8

def A_LL_amount (σ : tLL) : Int32 := A_IL_length σ
set_option maxHeartbeats 4000000 in
set_option maxRecDepth 100000 in
theorem c_LL_amount (l : Launch) (G : pG) (h0 : Nat) (ad : Nat → Nat) (σ : tLL) (H : Heap) (w : va_W) (hP0 : va_P G.1 vwCl w H) (hσ : pLL G h0 ad σ w) (res : Int32) (hr0 : A_LL_amount σ = res) : MRi l y_LL_amount w_LL_amount 1 20 G [.ref h0] H res := by
  refine Met.ofW (cc := b_LL_amount) (maxL := 1) (ret := (some .int)) (by decide) rfl ?_
  intro p e s m args below meth c s₁ B hml hv
  obtain ⟨rfl, rfl, hK⟩ := hv
  have hx := B.exec
  have hb := B.bytes
  have hr := B.returns
  have hts0 := atoms_spec (ws := w_LL_amount) B.pre
  have hts := fun w (h : w ∈ lw_g) => hts0 w (List.mem_cons_of_mem _ h)
  have hown : s.vm.findClass RLL = some m.cls := findClass_of_methodNamed B.named
  have hlocks := B.notSynchronized
  have hσ0 := hσ
  obtain ⟨w1, rfl, h2⟩ := hσ
  have hP := hP0
  obtain ⟨A, hAe⟩ : ∃ A : Nat → Prop, A = fun _ => False := ⟨_, rfl⟩
  rw [← hAe]
  have hS : va_S A s.heap s.heap [] := va_S.rf
  have hl := lv_entry ([.ref h0]) (n := 1) (Nat.le_of_ble_eq_true rfl)
  rw [lg_entry_eq]
  generalize (lg_sl ([.ref h0]) ++ List.replicate (1 - (lg_sl ([.ref h0])).length) Slot.unset).toArray = ls at hl ⊢
  have hl : lv_has ls 1 [(0, .ref h0)] := hl
  unfold A_LL_amount at hr0
  refine lv_aload_n hx hb d_LL_amount_0 rfl (lv_at hl 0 rfl) ?_
  refine va_get (D := G.1) (ci := 1) (v := .ref (ad 0)) (C := RLL) (T := TLL) (N := 1) hx hb hts inLL hown hK hP 0 rfl rfl 0 (by decide) (hts _ fl_LL_10) (fun _ h9 => h9) rfl d_LL_amount_1 ?_
  refine rdV (G := G) (As := []) (rest := []) (C := RIL) ⟨hx, hb, hml, hown, hts⟩ (c_IL_length l G (ad 0) σ _ _ (bk_gP (k := 1) hP rfl) h2 _ rfl) (cwV 0 hts (gd_V ml_LL_20 im_IL_length sl_IL_length ini_IL k_IL_length) rfl rmK_c rmK_s (by decide +kernel) ⟨Nat.le_of_ble_eq_true rfl, Nat.le_of_ble_eq_true rfl⟩) hK (pIL_recv hK (bk_gP (k := 1) hP rfl) h2) hS ⟨Nat.le_refl _, Nat.le_refl _⟩ rfl hl.1 (Nat.le_of_ble_eq_true rfl) d_LL_amount_4 (fun locs hS => ?_)
  exact W.iret (v := (A_IL_length σ)) hx hb hr (fun t ht hW => ⟨⟨(A_IL_length σ), (), rfl, hr0, ht⟩, hS.F ht⟩) hS.2.2 d_LL_amount_7

def A_LL_letterAt (σ : tLL) (k : Int32) : Int32 := A_IL_at σ k
set_option maxHeartbeats 4000000 in
set_option maxRecDepth 100000 in
theorem c_LL_letterAt (l : Launch) (G : pG) (h0 : Nat) (ad : Nat → Nat) (σ : tLL) (k : Int32) (H : Heap) (w : va_W) (hP0 : va_P G.1 vwCl w H) (hσ : pLL G h0 ad σ w) (res : Int32) (hr0 : A_LL_letterAt σ k = res) : MRi l y_LL_letterAt w_LL_letterAt 1 21 G [.ref h0, .int k] H res := by
  refine Met.ofW (cc := b_LL_letterAt) (maxL := 2) (ret := (some .int)) (by decide) rfl ?_
  intro p e s m args below meth c s₁ B hml hv
  obtain ⟨rfl, rfl, hK⟩ := hv
  have hx := B.exec
  have hb := B.bytes
  have hr := B.returns
  have hts0 := atoms_spec (ws := w_LL_letterAt) B.pre
  have hts := fun w (h : w ∈ lw_g) => hts0 w (List.mem_cons_of_mem _ h)
  have hown : s.vm.findClass RLL = some m.cls := findClass_of_methodNamed B.named
  have hlocks := B.notSynchronized
  have hσ0 := hσ
  obtain ⟨w1, rfl, h2⟩ := hσ
  have hP := hP0
  obtain ⟨A, hAe⟩ : ∃ A : Nat → Prop, A = fun _ => False := ⟨_, rfl⟩
  rw [← hAe]
  have hS : va_S A s.heap s.heap [] := va_S.rf
  have hl := lv_entry ([.ref h0, .int k]) (n := 2) (Nat.le_of_ble_eq_true rfl)
  rw [lg_entry_eq]
  generalize (lg_sl ([.ref h0, .int k]) ++ List.replicate (2 - (lg_sl ([.ref h0, .int k])).length) Slot.unset).toArray = ls at hl ⊢
  have hl : lv_has ls 2 [(0, .ref h0), (1, .int k)] := hl
  unfold A_LL_letterAt at hr0
  refine lv_aload_n hx hb d_LL_letterAt_0 rfl (lv_at hl 0 rfl) ?_
  refine va_get (D := G.1) (ci := 1) (v := .ref (ad 0)) (C := RLL) (T := TLL) (N := 1) hx hb hts inLL hown hK hP 0 rfl rfl 0 (by decide) (hts _ fl_LL_10) (fun _ h9 => h9) rfl d_LL_letterAt_1 ?_
  refine lv_iload_n hx hb d_LL_letterAt_4 rfl (lv_at hl 1 rfl) ?_
  refine rdV (G := G) (As := [.int k]) (rest := []) (C := RIL) ⟨hx, hb, hml, hown, hts⟩ (c_IL_at l G (ad 0) σ k _ _ (bk_gP (k := 1) hP rfl) h2 _ rfl) (cwV 1 hts (gd_V ml_LL_24 im_IL_at sl_IL_at ini_IL k_IL_at) rfl rmK_c rmK_s (by decide +kernel) ⟨Nat.le_of_ble_eq_true rfl, Nat.le_of_ble_eq_true rfl⟩) hK (pIL_recv hK (bk_gP (k := 1) hP rfl) h2) hS ⟨Nat.le_refl _, Nat.le_refl _⟩ rfl hl.1 (Nat.le_of_ble_eq_true rfl) d_LL_letterAt_5 (fun locs hS => ?_)
  exact W.iret (v := (A_IL_at σ k)) hx hb hr (fun t ht hW => ⟨⟨(A_IL_at σ k), (), rfl, hr0, ht⟩, hS.F ht⟩) hS.2.2 d_LL_letterAt_8

def A_LL_addMark (σ : tLL) : tLL := A_IL_add σ 90
def K_LL_addMark (σ : tLL) : Nat := (K_IL_add σ 90) + 0
set_option maxHeartbeats 4000000 in
set_option maxRecDepth 100000 in
theorem c_LL_addMark (l : Launch) (G : pG) (h0 : Nat) (ad : Nat → Nat) (σ : tLL) (H : Heap) (w : va_W) (hP0 : va_P G.1 vwCl w H) (hD0 : va_D (fun _ => True) w) (hσ : pLL G h0 ad σ w) (res : tLL) (hr0 : A_LL_addMark σ = res) (Kt : Nat) (hk : K_LL_addMark σ = Kt) (hKb : Kt ≤ 16777216) : MWv l y_LL_addMark w_LL_addMark 3 103 Kt G [.ref h0] H w (pLL G h0 ad res) := by
  refine Met.ofW (cc := b_LL_addMark) (maxL := 1) (ret := none) (by decide) rfl ?_
  intro p e s m args below meth c s₁ B hml hv
  obtain ⟨rfl, rfl, hK⟩ := hv
  have hx := B.exec
  have hb := B.bytes
  have hr := B.returns
  have hts0 := atoms_spec (ws := w_LL_addMark) B.pre
  have hts := fun w (h : w ∈ lw_g) => hts0 w (List.mem_cons_of_mem _ h)
  have hown : s.vm.findClass RLL = some m.cls := findClass_of_methodNamed B.named
  have hlocks := B.notSynchronized
  have hA : ∀ q : Nat, s.heap.size ≤ q → va_A w s.heap.size q := fun _ h => Or.inr h
  have hB : bk G.1 vwCl (va_A w s.heap.size) [w] s.heap := bk_init hP0 hD0
  generalize va_A w s.heap.size = A at *
  have hS : va_S A s.heap s.heap [] := va_S.rf
  obtain ⟨w1, rfl, h2⟩ := hσ
  have hB := bk_many hB
  have hk : 0 + K_LL_addMark σ = Kt := (Nat.zero_add _).trans hk
  have hl := lv_entry ([.ref h0]) (n := 1) (Nat.le_of_ble_eq_true rfl)
  rw [lg_entry_eq]
  generalize (lg_sl ([.ref h0]) ++ List.replicate (1 - (lg_sl ([.ref h0])).length) Slot.unset).toArray = ls at hl ⊢
  have hl : lv_has ls 1 [(0, .ref h0)] := hl
  unfold A_LL_addMark at hr0
  unfold K_LL_addMark at hk
  refine lv_aload_n hx hb d_LL_addMark_0 rfl (lv_at hl 0 rfl) ?_
  refine va_get (D := G.1) (ci := 1) (v := .ref (ad 0)) (C := RLL) (T := TLL) (N := 1) hx hb hts inLL hown hK hB.1 0 rfl rfl 0 (by decide) (hts _ fl_LL_10) (fun _ h9 => h9) rfl d_LL_addMark_1 ?_
  refine lv_bipush (v := 90) hx hb d_LL_addMark_4 (by decide) ?_
  refine wrV (G := G) (k := 1) (As := [.int 90]) (rest := []) (C := RIL) ⟨hx, hb, hml, hown, hts⟩ (c_IL_add l G (ad 0) σ 90 _ _ (bk_gP (k := 1) hB.1 rfl) (bk_own (k := 1) hB rfl) h2 _ rfl _ rfl (bk_ub hk hKb)) (cwV 1 hts (gd_V ml_LL_28 im_IL_add sl_IL_add ini_IL k_IL_add) rfl rmK_c rmK_s (by decide +kernel) ⟨Nat.le_of_ble_eq_true rfl, Nat.le_of_ble_eq_true rfl⟩) hK (pIL_recv hK (bk_gP (k := 1) hB.1 rfl) h2) hS hA hB rfl hk ⟨rfl, rfl⟩ rfl hl.1 (Nat.le_of_ble_eq_true rfl) d_LL_addMark_6 (fun u3 H locs kc hu4 hB hS hk => ?_)
  have hB : bk G.1 vwCl A [[(h0, .inr (1, [.ref (ad 0)]))], u3] H := hB
  subst hr0
  refine W.widen (k := Kt) (n := Kt) (Nat.le.intro hk) (Nat.le.intro hk) ?_
  exact W.vret hx hb hr (fun t ht hW => ⟨⟨[[(h0, .inr (1, [.ref (ad 0)]))], u3].flatten, rfl, ⟨u3, rfl, hu4⟩, by rw [ht]; exact hB.1, hB.2⟩, hS.F ht⟩) hS.2.2 d_LL_addMark_9

def M_LL_addNumber_L34 (first : Int32) (left : Int32) (high : Int32) (τ : tLL) : Nat := ((14 : Int32).toInt - high.toInt).toNat
def A_LL_addNumber_L34 (first : Int32) : Nat → Int32 → Int32 → tLL → tLL
  | 0, _, _, τ => τ
  | n34 + 1, left, high, τ => if 14 ≤ high then (A_IL_turnRound τ first) else (if left ≤ 0 then (A_IL_turnRound τ first) else (A_LL_addNumber_L34 first n34 ((left - 1) / 5) (high + 1) (A_IL_add τ (85 + ((left - 1) - (left - 1) / 5 * 5)))))
def K_LL_addNumber_L34 (first : Int32) : Nat → Int32 → Int32 → tLL → Nat
  | 0, _, _, _ => 0
  | n34 + 1, left, high, τ => if 14 ≤ high then 0 else (if left ≤ 0 then 0 else ((K_IL_add τ (85 + ((left - 1) - (left - 1) / 5 * 5))) + (K_LL_addNumber_L34 first n34 ((left - 1) / 5) (high + 1) (A_IL_add τ (85 + ((left - 1) - (left - 1) / 5 * 5))))))
def A_LL_addNumber (σ : tLL) (number : Int32) : tLL := A_LL_addNumber_L34 (A_IL_length σ) (M_LL_addNumber_L34 (A_IL_length σ) ((number - 1) / 20) 0 (A_IL_add σ (65 + ((number - 1) - (number - 1) / 20 * 20))) + 1) ((number - 1) / 20) 0 (A_IL_add σ (65 + ((number - 1) - (number - 1) / 20 * 20)))
def K_LL_addNumber (σ : tLL) (number : Int32) : Nat := (K_IL_add σ (65 + ((number - 1) - (number - 1) / 20 * 20))) + (K_LL_addNumber_L34 (A_IL_length σ) (M_LL_addNumber_L34 (A_IL_length σ) ((number - 1) / 20) 0 (A_IL_add σ (65 + ((number - 1) - (number - 1) / 20 * 20))) + 1) ((number - 1) / 20) 0 (A_IL_add σ (65 + ((number - 1) - (number - 1) / 20 * 20))))
set_option maxHeartbeats 4000000 in
set_option maxRecDepth 100000 in
theorem c_LL_addNumber (l : Launch) (G : pG) (h0 : Nat) (ad : Nat → Nat) (σ : tLL) (number : Int32) (H : Heap) (w : va_W) (hP0 : va_P G.1 vwCl w H) (hD0 : va_D (fun _ => True) w) (hσ : pLL G h0 ad σ w) (res : tLL) (hr0 : A_LL_addNumber σ number = res) (Kt : Nat) (hk : K_LL_addNumber σ number = Kt) (hKb : Kt ≤ 16777216) : MWv l y_LL_addNumber w_LL_addNumber 3 103 Kt G [.ref h0, .int number] H w (pLL G h0 ad res) := by
  refine Met.ofW (cc := b_LL_addNumber) (maxL := 5) (ret := none) (by decide) rfl ?_
  intro p e s m args below meth c s₁ B hml hv
  obtain ⟨rfl, rfl, hK⟩ := hv
  have hx := B.exec
  have hb := B.bytes
  have hr := B.returns
  have hts0 := atoms_spec (ws := w_LL_addNumber) B.pre
  have hts := fun w (h : w ∈ lw_g) => hts0 w (List.mem_cons_of_mem _ h)
  have hown : s.vm.findClass RLL = some m.cls := findClass_of_methodNamed B.named
  have hlocks := B.notSynchronized
  have hA : ∀ q : Nat, s.heap.size ≤ q → va_A w s.heap.size q := fun _ h => Or.inr h
  have hB : bk G.1 vwCl (va_A w s.heap.size) [w] s.heap := bk_init hP0 hD0
  generalize va_A w s.heap.size = A at *
  have hS : va_S A s.heap s.heap [] := va_S.rf
  obtain ⟨w1, rfl, h2⟩ := hσ
  have hB := bk_many hB
  have hk : 0 + K_LL_addNumber σ number = Kt := (Nat.zero_add _).trans hk
  have hl := lv_entry ([.ref h0, .int number]) (n := 5) (Nat.le_of_ble_eq_true rfl)
  rw [lg_entry_eq]
  generalize (lg_sl ([.ref h0, .int number]) ++ List.replicate (5 - (lg_sl ([.ref h0, .int number])).length) Slot.unset).toArray = ls at hl ⊢
  have hl : lv_has ls 5 [(0, .ref h0), (1, .int number)] := hl
  unfold A_LL_addNumber at hr0
  unfold K_LL_addNumber at hk
  refine lv_aload_n hx hb d_LL_addNumber_0 rfl (lv_at hl 0 rfl) ?_
  refine va_get (D := G.1) (ci := 1) (v := .ref (ad 0)) (C := RLL) (T := TLL) (N := 1) hx hb hts inLL hown hK hB.1 0 rfl rfl 0 (by decide) (hts _ fl_LL_10) (fun _ h9 => h9) rfl d_LL_addNumber_1 ?_
  refine rdV (G := G) (As := []) (rest := []) (C := RIL) ⟨hx, hb, hml, hown, hts⟩ (c_IL_length l G (ad 0) σ _ _ (bk_gP (k := 1) hB.1 rfl) h2 _ rfl) (cwV 0 hts (gd_V ml_LL_20 im_IL_length sl_IL_length ini_IL k_IL_length) rfl rmK_c rmK_s (by decide +kernel) ⟨Nat.le_of_ble_eq_true rfl, Nat.le_of_ble_eq_true rfl⟩) hK (pIL_recv hK (bk_gP (k := 1) hB.1 rfl) h2) hS ⟨Nat.le.intro hk, Nat.le.intro hk⟩ rfl hl.1 (Nat.le_of_ble_eq_true rfl) d_LL_addNumber_4 (fun locs hS => ?_)
  refine lv_istore_n (lv' := [(2, .int (A_IL_length σ)), (0, .ref h0), (1, .int number)]) hx hb d_LL_addNumber_7 rfl hl (by decide) rfl (fun ls hl => ?_)
  refine lv_aload_n hx hb d_LL_addNumber_8 rfl (lv_at hl 1 rfl) ?_
  refine va_get (D := G.1) (ci := 1) (v := .ref (ad 0)) (C := RLL) (T := TLL) (N := 1) hx hb hts inLL hown hK hB.1 0 rfl rfl 0 (by decide) (hts _ fl_LL_10) (fun _ h9 => h9) rfl d_LL_addNumber_9 ?_
  refine lv_bipush (v := 65) hx hb d_LL_addNumber_12 (by decide) ?_
  refine lv_iload_n hx hb d_LL_addNumber_14 rfl (lv_at hl 2 rfl) ?_
  refine lv_iconst (v := 1) hx hb d_LL_addNumber_15 (by decide) ?_
  refine lv_isub hx hb d_LL_addNumber_16 ?_
  refine lv_bipush (v := 20) hx hb d_LL_addNumber_17 (by decide) ?_
  refine lv_irem hx hb d_LL_addNumber_19 (by decide) ?_
  refine lv_iadd hx hb d_LL_addNumber_20 ?_
  refine wrV (G := G) (k := 1) (As := [.int (65 + ((number - 1) - (number - 1) / 20 * 20))]) (rest := []) (C := RIL) ⟨hx, hb, hml, hown, hts⟩ (c_IL_add l G (ad 0) σ (65 + ((number - 1) - (number - 1) / 20 * 20)) _ _ (bk_gP (k := 1) hB.1 rfl) (bk_own (k := 1) hB rfl) h2 _ rfl _ rfl (bk_ub hk hKb)) (cwV 1 hts (gd_V ml_LL_28 im_IL_add sl_IL_add ini_IL k_IL_add) rfl rmK_c rmK_s (by decide +kernel) ⟨Nat.le_of_ble_eq_true rfl, Nat.le_of_ble_eq_true rfl⟩) hK (pIL_recv hK (bk_gP (k := 1) hB.1 rfl) h2) hS hA hB rfl hk ⟨rfl, rfl⟩ rfl hl.1 (Nat.le_of_ble_eq_true rfl) d_LL_addNumber_21 (fun u3 H locs kc hu4 hB hS hk => ?_)
  have hB : bk G.1 vwCl A [[(h0, .inr (1, [.ref (ad 0)]))], u3] H := hB
  refine lv_iload_n hx hb d_LL_addNumber_24 rfl (lv_at hl 2 rfl) ?_
  refine lv_iconst (v := 1) hx hb d_LL_addNumber_25 (by decide) ?_
  refine lv_isub hx hb d_LL_addNumber_26 ?_
  refine lv_bipush (v := 20) hx hb d_LL_addNumber_27 (by decide) ?_
  refine lv_idiv hx hb d_LL_addNumber_29 (by decide) ?_
  refine lv_istore_n (lv' := [(3, .int ((number - 1) / 20)), (2, .int (A_IL_length σ)), (0, .ref h0), (1, .int number)]) hx hb d_LL_addNumber_30 rfl hl (by decide) rfl (fun ls hl => ?_)
  refine lv_iconst (v := 0) hx hb d_LL_addNumber_31 (by decide) ?_
  refine lv_istore (lv' := [(4, .int 0), (3, .int ((number - 1) / 20)), (2, .int (A_IL_length σ)), (0, .ref h0), (1, .int number)]) hx hb d_LL_addNumber_32 hl (by decide) rfl (fun ls hl => ?_)
  refine lp_W (I := fun n34 H locs kc ls => ∃ (left : Int32) (high : Int32) (τ : tLL) (w : va_W), pLL G h0 ad τ w ∧ bk G.1 vwCl A [w] H ∧ va_S A s.heap H locs ∧ lv_has ls 5 [(0, .ref h0), (2, .int (A_IL_length σ)), (3, .int left), (4, .int high)] ∧ A_LL_addNumber_L34 (A_IL_length σ) n34 left high τ = res ∧ kc + K_LL_addNumber_L34 (A_IL_length σ) n34 left high τ = Kt ∧ M_LL_addNumber_L34 (A_IL_length σ) left high τ < n34) ?_ ?_ (M_LL_addNumber_L34 (A_IL_length σ) ((number - 1) / 20) 0 (A_IL_add σ (65 + ((number - 1) - (number - 1) / 20 * 20))) + 1) _ _ _ _ ⟨((number - 1) / 20), 0, (A_IL_add σ (65 + ((number - 1) - (number - 1) / 20 * 20))), _, ⟨u3, rfl, hu4⟩, bk_one hB, hS, lv_sub hl [3, 2, 1, 0] rfl, hr0, hk, Nat.lt_succ_self _⟩
  · intro n34 ih34 H locs kc ls ⟨left, high, τ, w, hτ, hB, hS, hl, hr0, hk, hm34⟩
    obtain ⟨w5, rfl, h6⟩ := hτ
    have hB := bk_many hB
    rw [A_LL_addNumber_L34] at hr0
    rw [K_LL_addNumber_L34] at hk
    refine lv_iload hx hb d_LL_addNumber_34 (lv_at hl 3 rfl) ?_
    refine lv_bipush (v := 14) hx hb d_LL_addNumber_36 (by decide) ?_
    refine lv_icmp_ge (tgt := 72) hx hb d_LL_addNumber_38 (by decide) (fun c7 => ?_) (fun c7 => ?_)
    · have hr0 := ai_pos c7 hr0
      have hk := ki_pos c7 hk
      refine lv_aload_n hx hb d_LL_addNumber_72 rfl (lv_at hl 0 rfl) ?_
      refine va_get (D := G.1) (ci := 1) (v := .ref (ad 0)) (C := RLL) (T := TLL) (N := 1) hx hb hts inLL hown hK hB.1 0 rfl rfl 0 (by decide) (hts _ fl_LL_10) (fun _ h9 => h9) rfl d_LL_addNumber_73 ?_
      refine lv_iload_n hx hb d_LL_addNumber_76 rfl (lv_at hl 1 rfl) ?_
      refine wrV0 (G := G) (k := 1) (As := [.int (A_IL_length σ)]) (rest := []) (C := RIL) ⟨hx, hb, hml, hown, hts⟩ (c_IL_turnRound l G (ad 0) τ (A_IL_length σ) _ _ (bk_gP (k := 1) hB.1 rfl) (bk_own (k := 1) hB rfl) h6 _ rfl) (cwV 1 hts (gd_V ml_LL_31 im_IL_turnRound sl_IL_turnRound ini_IL k_IL_turnRound) rfl rmK_c rmK_s (by decide +kernel) ⟨Nat.le_of_ble_eq_true rfl, Nat.le_of_ble_eq_true rfl⟩) hK (pIL_recv hK (bk_gP (k := 1) hB.1 rfl) h6) hS hA hB rfl hk ⟨rfl, rfl⟩ rfl hl.1 (Nat.le_of_ble_eq_true rfl) d_LL_addNumber_77 (fun u8 H locs hu9 hB hS => ?_)
      have hB : bk G.1 vwCl A [[(h0, .inr (1, [.ref (ad 0)]))], u8] H := hB
      subst hr0
      refine W.widen (k := Kt) (n := Kt) (Nat.le.intro hk) (Nat.le.intro hk) ?_
      exact W.vret hx hb hr (fun t ht hW => ⟨⟨[[(h0, .inr (1, [.ref (ad 0)]))], u8].flatten, rfl, ⟨u8, rfl, hu9⟩, by rw [ht]; exact hB.1, hB.2⟩, hS.F ht⟩) hS.2.2 d_LL_addNumber_80
    · have hr0 := ai_neg c7 hr0
      have hk := ki_neg c7 hk
      refine lv_iload_n hx hb d_LL_addNumber_41 rfl (lv_at hl 2 rfl) ?_
      refine lv_if_le (tgt := 72) hx hb d_LL_addNumber_42 (by decide) (fun c10 => ?_) (fun c10 => ?_)
      · have hr0 := ai_pos c10 hr0
        have hk := ki_pos c10 hk
        refine lv_aload_n hx hb d_LL_addNumber_72 rfl (lv_at hl 0 rfl) ?_
        refine va_get (D := G.1) (ci := 1) (v := .ref (ad 0)) (C := RLL) (T := TLL) (N := 1) hx hb hts inLL hown hK hB.1 0 rfl rfl 0 (by decide) (hts _ fl_LL_10) (fun _ h9 => h9) rfl d_LL_addNumber_73 ?_
        refine lv_iload_n hx hb d_LL_addNumber_76 rfl (lv_at hl 1 rfl) ?_
        refine wrV0 (G := G) (k := 1) (As := [.int (A_IL_length σ)]) (rest := []) (C := RIL) ⟨hx, hb, hml, hown, hts⟩ (c_IL_turnRound l G (ad 0) τ (A_IL_length σ) _ _ (bk_gP (k := 1) hB.1 rfl) (bk_own (k := 1) hB rfl) h6 _ rfl) (cwV 1 hts (gd_V ml_LL_31 im_IL_turnRound sl_IL_turnRound ini_IL k_IL_turnRound) rfl rmK_c rmK_s (by decide +kernel) ⟨Nat.le_of_ble_eq_true rfl, Nat.le_of_ble_eq_true rfl⟩) hK (pIL_recv hK (bk_gP (k := 1) hB.1 rfl) h6) hS hA hB rfl hk ⟨rfl, rfl⟩ rfl hl.1 (Nat.le_of_ble_eq_true rfl) d_LL_addNumber_77 (fun u11 H locs hu12 hB hS => ?_)
        have hB : bk G.1 vwCl A [[(h0, .inr (1, [.ref (ad 0)]))], u11] H := hB
        subst hr0
        refine W.widen (k := Kt) (n := Kt) (Nat.le.intro hk) (Nat.le.intro hk) ?_
        exact W.vret hx hb hr (fun t ht hW => ⟨⟨[[(h0, .inr (1, [.ref (ad 0)]))], u11].flatten, rfl, ⟨u11, rfl, hu12⟩, by rw [ht]; exact hB.1, hB.2⟩, hS.F ht⟩) hS.2.2 d_LL_addNumber_80
      · have hr0 := ai_neg c10 hr0
        have hk := ki_neg c10 hk
        refine lv_aload_n hx hb d_LL_addNumber_45 rfl (lv_at hl 0 rfl) ?_
        refine va_get (D := G.1) (ci := 1) (v := .ref (ad 0)) (C := RLL) (T := TLL) (N := 1) hx hb hts inLL hown hK hB.1 0 rfl rfl 0 (by decide) (hts _ fl_LL_10) (fun _ h9 => h9) rfl d_LL_addNumber_46 ?_
        refine lv_bipush (v := 85) hx hb d_LL_addNumber_49 (by decide) ?_
        refine lv_iload_n hx hb d_LL_addNumber_51 rfl (lv_at hl 2 rfl) ?_
        refine lv_iconst (v := 1) hx hb d_LL_addNumber_52 (by decide) ?_
        refine lv_isub hx hb d_LL_addNumber_53 ?_
        refine lv_iconst (v := 5) hx hb d_LL_addNumber_54 (by decide) ?_
        refine lv_irem hx hb d_LL_addNumber_55 (by decide) ?_
        refine lv_iadd hx hb d_LL_addNumber_56 ?_
        refine wrV (G := G) (k := 1) (As := [.int (85 + ((left - 1) - (left - 1) / 5 * 5))]) (rest := []) (C := RIL) ⟨hx, hb, hml, hown, hts⟩ (c_IL_add l G (ad 0) τ (85 + ((left - 1) - (left - 1) / 5 * 5)) _ _ (bk_gP (k := 1) hB.1 rfl) (bk_own (k := 1) hB rfl) h6 _ rfl _ rfl (bk_ub hk hKb)) (cwV 1 hts (gd_V ml_LL_28 im_IL_add sl_IL_add ini_IL k_IL_add) rfl rmK_c rmK_s (by decide +kernel) ⟨Nat.le_of_ble_eq_true rfl, Nat.le_of_ble_eq_true rfl⟩) hK (pIL_recv hK (bk_gP (k := 1) hB.1 rfl) h6) hS hA hB rfl hk ⟨rfl, rfl⟩ rfl hl.1 (Nat.le_of_ble_eq_true rfl) d_LL_addNumber_57 (fun u13 H locs kc hu14 hB hS hk => ?_)
        have hB : bk G.1 vwCl A [[(h0, .inr (1, [.ref (ad 0)]))], u13] H := hB
        refine lv_iload_n hx hb d_LL_addNumber_60 rfl (lv_at hl 2 rfl) ?_
        refine lv_iconst (v := 1) hx hb d_LL_addNumber_61 (by decide) ?_
        refine lv_isub hx hb d_LL_addNumber_62 ?_
        refine lv_iconst (v := 5) hx hb d_LL_addNumber_63 (by decide) ?_
        refine lv_idiv hx hb d_LL_addNumber_64 (by decide) ?_
        refine lv_istore_n (lv' := [(3, .int ((left - 1) / 5)), (0, .ref h0), (2, .int (A_IL_length σ)), (4, .int high)]) hx hb d_LL_addNumber_65 rfl hl (by decide) rfl (fun ls hl => ?_)
        refine lv_iinc (v := high + 1) (lv' := [(4, .int (high + 1)), (3, .int ((left - 1) / 5)), (0, .ref h0), (2, .int (A_IL_length σ))]) hx hb d_LL_addNumber_66 hl (k := 3) rfl rfl (by decide) rfl (fun ls hl => ?_)
        refine lv_goto (tgt := 34) hx hb d_LL_addNumber_69 (by decide) ?_
        exact ih34 _ _ _ _ ⟨((left - 1) / 5), (high + 1), (A_IL_add τ (85 + ((left - 1) - (left - 1) / 5 * 5))), _, ⟨u13, rfl, hu14⟩, bk_one hB, hS, lv_sub hl [2, 3, 1, 0] rfl, hr0, hk, up_dec c7 hm34⟩
  · rintro H locs kc ls ⟨_, _, _, _, -, -, -, -, -, -, hz⟩; exact Nat.not_lt_zero _ hz
