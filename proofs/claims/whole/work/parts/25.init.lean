theorem bk_push {D : va_G} {cl : List vw_C} {A : Nat → Prop} {bs : List va_W} {x : Nat × va_E} {H : Heap} (h : va_P D cl (bs.flatten ++ [x]) H ∧ va_D A (bs.flatten ++ [x])) : bk D cl A (bs ++ [[x]]) H := by
  unfold bk
  rw [List.flatten_append]
  simpa using h
theorem bk_perm {D : va_G} {cl : List vw_C} {A : Nat → Prop} {bs bs' : List va_W} {H : Heap} (h : bk D cl A bs H) (hp : bs.Perm bs') : bk D cl A bs' H := by
  obtain ⟨hP, hD⟩ := h
  have hf : bs.flatten.Perm bs'.flatten := hp.flatten
  rw [bk_mem] at hP
  rw [bk_nd] at hD
  exact ⟨bk_mem.mpr fun q hq => hP q (hf.mem_iff.mpr hq), bk_nd.mpr ⟨(hf.map Prod.fst).nodup_iff.mp hD.1, fun q hq => hD.2 q (hf.mem_iff.mpr hq)⟩⟩
theorem bk_rot {D : va_G} {cl : List vw_C} {A : Nat → Prop} {b0 a b : va_W} {xs : List va_W} {H : Heap} (h : bk D cl A (b0 :: (xs ++ [a, b])) H) : bk D cl A (b0 :: a :: b :: xs) H :=
  bk_perm h (List.Perm.cons b0 (List.perm_append_comm (l₁ := xs) (l₂ := [a, b])))

def iLL : tLL := ([], 16)
set_option maxHeartbeats 4000000 in
set_option maxRecDepth 100000 in
theorem c_LL_init (l : Launch) (G : pG) (h0 : Nat) (H : Heap) (w : va_W) (hP0 : va_P G.1 vwCl w H) (hD0 : va_D (fun _ => True) w) (hσ : w = [(h0, .inr (1, [.null]))]) : MWv l y_LL_init w_LL_init 2 32 18 G [.ref h0] H w (fun u => ∃ (ad : Nat → Nat), pLL G h0 ad iLL u) := by
  refine Met.ofW (cc := b_LL_init) (maxL := 1) (ret := none) (by decide) rfl ?_
  intro p e s m args below meth c s₁ B hml hv
  obtain ⟨rfl, rfl, hK⟩ := hv
  have hx := B.exec
  have hb := B.bytes
  have hr := B.returns
  have hts0 := atoms_spec (ws := w_LL_init) B.pre
  have hts := fun w (h : w ∈ lw_g) => hts0 w (List.mem_cons_of_mem _ h)
  have hown : s.vm.findClass RLL = some m.cls := findClass_of_methodNamed B.named
  have hlocks := B.notSynchronized
  have hA : ∀ q : Nat, s.heap.size ≤ q → va_A w s.heap.size q := fun _ h => Or.inr h
  have hB : bk G.1 vwCl (va_A w s.heap.size) [w] s.heap := bk_init hP0 hD0
  generalize va_A w s.heap.size = A at *
  have hS : va_S A s.heap s.heap [] := va_S.rf
  subst hσ
  have hB : bk G.1 vwCl A [[(h0, .inr (1, [.null]))]] s.heap := hB
  have hin : meth.name = "<init>" := (name_of_methodNamed B.named B.method).1
  have hl := lv_entry ([.ref h0]) (n := 1) (Nat.le_of_ble_eq_true rfl)
  rw [lg_entry_eq]
  generalize (lg_sl ([.ref h0]) ++ List.replicate (1 - (lg_sl ([.ref h0])).length) Slot.unset).toArray = ls at hl ⊢
  have hl : lv_has ls 1 [(0, .ref h0)] := hl
  refine lv_aload_n hx hb d_LL_init_0 rfl (lv_at hl 0 rfl) ?_
  refine W.objInit hx hb hown (hts _ ml_LL_1) (hts _ im_obj_init) (hts _ k_obj_init) rfl (by rw [hml]; exact hl.1) rfl d_LL_init_1 (Nat.le_of_ble_eq_true rfl) (Nat.le_of_ble_eq_true rfl) ?_
  refine W.eq (g2 := F0 m 4 ls []) rfl ?_
  refine lv_aload_n hx hb d_LL_init_4 rfl (lv_at hl 0 rfl) ?_
  refine va_new (ci := 0) (fs := [.null, .int 0]) (C := RIL) (T := TIL) (N := 2) hx hb hts inIL tyIL tokIL hown (hts _ cl_LL_7) (hts _ ist_IL) (hts _ ini_IL) hK hB.1 hB.2 hS hA rfl (fun j hj => by rcases (show j = 0 ∨ j = 1 by omega) with rfl | rfl <;> rfl) (Nat.le_of_ble_eq_true rfl) (Nat.le_of_ble_eq_true rfl) d_LL_init_5 (fun q1 H hP hD hS => ?_)
  have hB : bk G.1 vwCl A [[(h0, .inr (1, [.null]))], [(q1, .inr (0, [.null, .int 0]))]] H := bk_push ⟨hP, hD⟩
  refine W.widen (k := 2) (n := 2) (by decide) (by decide) ?_
  refine lv_dup hx hb d_LL_init_8 rfl ?_
  refine wrI (G := G) (k := 1) (As := []) (rest := [.ref q1, .ref h0]) (kc := 2) (K := 16) (rem := 0) (Kt := 18) ⟨hx, hb, hml, hown, hts⟩ (c_IL_init l G q1 _ _ (bk_gP (k := 1) hB.1 rfl) (bk_own (k := 1) hB rfl) rfl) (cwI 0 hts (gd_c k_IL_init) rfl rmK_c rmK_s (hts _ ini_IL) (hts _ ml_LL_9) (hts _ im_IL_init) rfl (by decide +kernel) ⟨Nat.le_of_ble_eq_true rfl, Nat.le_of_ble_eq_true rfl⟩) hK hS hA hB rfl rfl ⟨rfl, rfl⟩ rfl hl.1 (Nat.le_of_ble_eq_true rfl) d_LL_init_9 (fun u2 H locs kc hu3 hB hS hk => ?_)
  obtain rfl : kc = 18 := by omega
  have hB : bk G.1 vwCl A [[(h0, .inr (1, [.null]))], u2] H := hB
  refine va_putF (D := G.1) (ci := 1) (v := .ref q1) (ty := .object "ProofPacker$IntList") (C := RLL) (T := TLL) (N := 1) hx hb hts inLL tyLL tokLL nmLL hown hK hB.1 hB.2 hS 0 rfl rfl 0 (by decide) (hts _ fl_LL_10) (fun _ h9 => h9) rfl hin rfl (by decide +kernel) rfl rfl (Nat.le_of_ble_eq_true rfl) d_LL_init_12 (fun H locs hP hD hS => ?_)
  have hB : bk G.1 vwCl A [[(h0, .inr (1, [.ref q1]))], u2] H := ⟨hP, hD⟩
  exact W.vret hx hb hr (fun t ht hW => ⟨⟨[[(h0, .inr (1, [.ref q1]))], u2].flatten, rfl, ⟨(fun i => [q1].getD i 0), u2, rfl, hu3⟩, by rw [ht]; exact hB.1, hB.2⟩, hS.F ht⟩) hS.2.2 d_LL_init_15

def iST : tST := (([], 16), ([], 16), 0)
set_option maxHeartbeats 4000000 in
set_option maxRecDepth 100000 in
theorem c_ST_init (l : Launch) (G : pG) (h0 : Nat) (H : Heap) (w : va_W) (hP0 : va_P G.1 vwCl w H) (hD0 : va_D (fun _ => True) w) (hσ : w = [(h0, .inr (3, [.null, .null, .int 0]))]) : MWv l y_ST_init w_ST_init 2 32 36 G [.ref h0] H w (fun u => ∃ (ad : Nat → Nat), pST G h0 ad iST u) := by
  refine Met.ofW (cc := b_ST_init) (maxL := 1) (ret := none) (by decide) rfl ?_
  intro p e s m args below meth c s₁ B hml hv
  obtain ⟨rfl, rfl, hK⟩ := hv
  have hx := B.exec
  have hb := B.bytes
  have hr := B.returns
  have hts0 := atoms_spec (ws := w_ST_init) B.pre
  have hts := fun w (h : w ∈ lw_g) => hts0 w (List.mem_cons_of_mem _ h)
  have hown : s.vm.findClass RST = some m.cls := findClass_of_methodNamed B.named
  have hlocks := B.notSynchronized
  have hA : ∀ q : Nat, s.heap.size ≤ q → va_A w s.heap.size q := fun _ h => Or.inr h
  have hB : bk G.1 vwCl (va_A w s.heap.size) [w] s.heap := bk_init hP0 hD0
  generalize va_A w s.heap.size = A at *
  have hS : va_S A s.heap s.heap [] := va_S.rf
  subst hσ
  have hB : bk G.1 vwCl A [[(h0, .inr (3, [.null, .null, .int 0]))]] s.heap := hB
  have hin : meth.name = "<init>" := (name_of_methodNamed B.named B.method).1
  have hl := lv_entry ([.ref h0]) (n := 1) (Nat.le_of_ble_eq_true rfl)
  rw [lg_entry_eq]
  generalize (lg_sl ([.ref h0]) ++ List.replicate (1 - (lg_sl ([.ref h0])).length) Slot.unset).toArray = ls at hl ⊢
  have hl : lv_has ls 1 [(0, .ref h0)] := hl
  refine lv_aload_n hx hb d_ST_init_0 rfl (lv_at hl 0 rfl) ?_
  refine W.objInit hx hb hown (hts _ ml_ST_3) (hts _ im_obj_init) (hts _ k_obj_init) rfl (by rw [hml]; exact hl.1) rfl d_ST_init_1 (Nat.le_of_ble_eq_true rfl) (Nat.le_of_ble_eq_true rfl) ?_
  refine W.eq (g2 := F0 m 4 ls []) rfl ?_
  refine lv_aload_n hx hb d_ST_init_4 rfl (lv_at hl 0 rfl) ?_
  refine va_new (ci := 0) (fs := [.null, .int 0]) (C := RIL) (T := TIL) (N := 2) hx hb hts inIL tyIL tokIL hown (hts _ cl_ST_9) (hts _ ist_IL) (hts _ ini_IL) hK hB.1 hB.2 hS hA rfl (fun j hj => by rcases (show j = 0 ∨ j = 1 by omega) with rfl | rfl <;> rfl) (Nat.le_of_ble_eq_true rfl) (Nat.le_of_ble_eq_true rfl) d_ST_init_5 (fun q1 H hP hD hS => ?_)
  have hB : bk G.1 vwCl A [[(h0, .inr (3, [.null, .null, .int 0]))], [(q1, .inr (0, [.null, .int 0]))]] H := bk_push ⟨hP, hD⟩
  refine W.widen (k := 2) (n := 2) (by decide) (by decide) ?_
  refine lv_dup hx hb d_ST_init_8 rfl ?_
  refine wrI (G := G) (k := 1) (As := []) (rest := [.ref q1, .ref h0]) (kc := 2) (K := 16) (rem := 18) (Kt := 36) ⟨hx, hb, hml, hown, hts⟩ (c_IL_init l G q1 _ _ (bk_gP (k := 1) hB.1 rfl) (bk_own (k := 1) hB rfl) rfl) (cwI 0 hts (gd_c k_IL_init) rfl rmK_c rmK_s (hts _ ini_IL) (hts _ ml_ST_11) (hts _ im_IL_init) rfl (by decide +kernel) ⟨Nat.le_of_ble_eq_true rfl, Nat.le_of_ble_eq_true rfl⟩) hK hS hA hB rfl rfl ⟨rfl, rfl⟩ rfl hl.1 (Nat.le_of_ble_eq_true rfl) d_ST_init_9 (fun u2 H locs kc hu3 hB hS hk => ?_)
  obtain rfl : kc = 18 := by omega
  have hB : bk G.1 vwCl A [[(h0, .inr (3, [.null, .null, .int 0]))], u2] H := hB
  refine va_putF (D := G.1) (ci := 3) (v := .ref q1) (ty := .object "ProofPacker$IntList") (C := RST) (T := TST) (N := 3) hx hb hts inST tyST tokST nmST hown hK hB.1 hB.2 hS 0 rfl rfl 0 (by decide) (hts _ fl_ST_12) (fun _ h9 => h9) rfl hin rfl (by decide +kernel) rfl rfl (Nat.le_of_ble_eq_true rfl) d_ST_init_12 (fun H locs hP hD hS => ?_)
  have hB : bk G.1 vwCl A [[(h0, .inr (3, [.ref q1, .null, .int 0]))], u2] H := ⟨hP, hD⟩
  refine lv_aload_n hx hb d_ST_init_15 rfl (lv_at hl 0 rfl) ?_
  refine va_new (ci := 0) (fs := [.null, .int 0]) (C := RIL) (T := TIL) (N := 2) hx hb hts inIL tyIL tokIL hown (hts _ cl_ST_9) (hts _ ist_IL) (hts _ ini_IL) hK hB.1 hB.2 hS hA rfl (fun j hj => by rcases (show j = 0 ∨ j = 1 by omega) with rfl | rfl <;> rfl) (Nat.le_of_ble_eq_true rfl) (Nat.le_of_ble_eq_true rfl) d_ST_init_16 (fun q4 H hP hD hS => ?_)
  have hB : bk G.1 vwCl A [[(h0, .inr (3, [.ref q1, .null, .int 0]))], u2, [(q4, .inr (0, [.null, .int 0]))]] H := bk_push ⟨hP, hD⟩
  refine W.widen (k := 20) (n := 20) (by decide) (by decide) ?_
  refine lv_dup hx hb d_ST_init_19 rfl ?_
  refine wrI (G := G) (k := 2) (As := []) (rest := [.ref q4, .ref h0]) (kc := 20) (K := 16) (rem := 0) (Kt := 36) ⟨hx, hb, hml, hown, hts⟩ (c_IL_init l G q4 _ _ (bk_gP (k := 2) hB.1 rfl) (bk_own (k := 2) hB rfl) rfl) (cwI 0 hts (gd_c k_IL_init) rfl rmK_c rmK_s (hts _ ini_IL) (hts _ ml_ST_11) (hts _ im_IL_init) rfl (by decide +kernel) ⟨Nat.le_of_ble_eq_true rfl, Nat.le_of_ble_eq_true rfl⟩) hK hS hA hB rfl rfl ⟨rfl, rfl⟩ rfl hl.1 (Nat.le_of_ble_eq_true rfl) d_ST_init_20 (fun u5 H locs kc hu6 hB hS hk => ?_)
  obtain rfl : kc = 36 := by omega
  have hB : bk G.1 vwCl A [[(h0, .inr (3, [.ref q1, .null, .int 0]))], u2, u5] H := hB
  refine va_putF (D := G.1) (ci := 3) (v := .ref q4) (ty := .object "ProofPacker$IntList") (C := RST) (T := TST) (N := 3) hx hb hts inST tyST tokST nmST hown hK hB.1 hB.2 hS 0 rfl rfl 1 (by decide) (hts _ fl_ST_18) (fun _ h9 => h9) rfl hin rfl (by decide +kernel) rfl rfl (Nat.le_of_ble_eq_true rfl) d_ST_init_23 (fun H locs hP hD hS => ?_)
  have hB : bk G.1 vwCl A [[(h0, .inr (3, [.ref q1, .ref q4, .int 0]))], u2, u5] H := ⟨hP, hD⟩
  refine lv_aload_n hx hb d_ST_init_26 rfl (lv_at hl 0 rfl) ?_
  refine lv_iconst (v := 0) hx hb d_ST_init_27 (by decide) ?_
  refine va_put (D := G.1) (ci := 3) (v := .int 0) (ty := .int) (C := RST) (T := TST) (N := 3) hx hb hts inST tyST tokST nmST hown hK hB.1 hB.2 hS 0 rfl rfl 2 (by decide) (hts _ fl_ST_21) (fun _ h9 => h9) rfl (by decide +kernel) rfl rfl (Nat.le_of_ble_eq_true rfl) d_ST_init_28 (fun H locs hP hD hS => ?_)
  have hB : bk G.1 vwCl A [[(h0, .inr (3, [.ref q1, .ref q4, .int 0]))], u2, u5] H := ⟨hP, hD⟩
  exact W.vret hx hb hr (fun t ht hW => ⟨⟨[[(h0, .inr (3, [.ref q1, .ref q4, .int 0]))], u2, u5].flatten, rfl, ⟨(fun i => [q1, q4].getD i 0), u2, u5, rfl, hu3, hu6⟩, by rw [ht]; exact hB.1, hB.2⟩, hS.F ht⟩) hS.2.2 d_ST_init_31

def iRW : tRW := (([], 16), ([0], 16), ([], 16), ([], 16), ([], 16), ([], 16), ([], 16), (fun _ => (-1)), ((fun _ => 0), 16))
set_option maxHeartbeats 4000000 in
set_option maxRecDepth 100000 in
theorem c_RW_init (l : Launch) (G : pG) (h0 : Nat) (H : Heap) (w : va_W) (hP0 : va_P G.1 vwCl w H) (hD0 : va_D (fun _ => True) w) (hσ : w = [(h0, .inr (2, [.null, .null, .null, .null, .null, .null, .null, .null, .null]))]) : MWv l y_RW_init w_RW_init 3 103 654 G [.ref h0] H w (fun u => ∃ (ad : Nat → Nat), pRW G h0 ad iRW u) := by
  refine Met.ofW (cc := b_RW_init) (maxL := 1) (ret := none) (by decide) rfl ?_
  intro p e s m args below meth c s₁ B hml hv
  obtain ⟨rfl, rfl, hK⟩ := hv
  have hx := B.exec
  have hb := B.bytes
  have hr := B.returns
  have hts0 := atoms_spec (ws := w_RW_init) B.pre
  have hts := fun w (h : w ∈ lw_g) => hts0 w (List.mem_cons_of_mem _ h)
  have hown : s.vm.findClass RRW = some m.cls := findClass_of_methodNamed B.named
  have hlocks := B.notSynchronized
  have hA : ∀ q : Nat, s.heap.size ≤ q → va_A w s.heap.size q := fun _ h => Or.inr h
  have hB : bk G.1 vwCl (va_A w s.heap.size) [w] s.heap := bk_init hP0 hD0
  generalize va_A w s.heap.size = A at *
  have hS : va_S A s.heap s.heap [] := va_S.rf
  subst hσ
  have hB : bk G.1 vwCl A [[(h0, .inr (2, [.null, .null, .null, .null, .null, .null, .null, .null, .null]))]] s.heap := hB
  have hin : meth.name = "<init>" := (name_of_methodNamed B.named B.method).1
  have hl := lv_entry ([.ref h0]) (n := 1) (Nat.le_of_ble_eq_true rfl)
  rw [lg_entry_eq]
  generalize (lg_sl ([.ref h0]) ++ List.replicate (1 - (lg_sl ([.ref h0])).length) Slot.unset).toArray = ls at hl ⊢
  have hl : lv_has ls 1 [(0, .ref h0)] := hl
  refine lv_aload_n hx hb d_RW_init_0 rfl (lv_at hl 0 rfl) ?_
  refine W.objInit hx hb hown (hts _ ml_RW_3) (hts _ im_obj_init) (hts _ k_obj_init) rfl (by rw [hml]; exact hl.1) rfl d_RW_init_1 (Nat.le_of_ble_eq_true rfl) (Nat.le_of_ble_eq_true rfl) ?_
  refine W.eq (g2 := F0 m 4 ls []) rfl ?_
  refine lv_aload_n hx hb d_RW_init_4 rfl (lv_at hl 0 rfl) ?_
  refine va_new (ci := 0) (fs := [.null, .int 0]) (C := RIL) (T := TIL) (N := 2) hx hb hts inIL tyIL tokIL hown (hts _ cl_RW_9) (hts _ ist_IL) (hts _ ini_IL) hK hB.1 hB.2 hS hA rfl (fun j hj => by rcases (show j = 0 ∨ j = 1 by omega) with rfl | rfl <;> rfl) (Nat.le_of_ble_eq_true rfl) (Nat.le_of_ble_eq_true rfl) d_RW_init_5 (fun q1 H hP hD hS => ?_)
  have hB : bk G.1 vwCl A [[(h0, .inr (2, [.null, .null, .null, .null, .null, .null, .null, .null, .null]))], [(q1, .inr (0, [.null, .int 0]))]] H := bk_push ⟨hP, hD⟩
  refine W.widen (k := 2) (n := 2) (by decide) (by decide) ?_
  refine lv_dup hx hb d_RW_init_8 rfl ?_
  refine wrI (G := G) (k := 1) (As := []) (rest := [.ref q1, .ref h0]) (kc := 2) (K := 16) (rem := 636) (Kt := 654) ⟨hx, hb, hml, hown, hts⟩ (c_IL_init l G q1 _ _ (bk_gP (k := 1) hB.1 rfl) (bk_own (k := 1) hB rfl) rfl) (cwI 0 hts (gd_c k_IL_init) rfl rmK_c rmK_s (hts _ ini_IL) (hts _ ml_RW_11) (hts _ im_IL_init) rfl (by decide +kernel) ⟨Nat.le_of_ble_eq_true rfl, Nat.le_of_ble_eq_true rfl⟩) hK hS hA hB rfl rfl ⟨rfl, rfl⟩ rfl hl.1 (Nat.le_of_ble_eq_true rfl) d_RW_init_9 (fun u2 H locs kc hu3 hB hS hk => ?_)
  obtain rfl : kc = 18 := by omega
  have hB : bk G.1 vwCl A [[(h0, .inr (2, [.null, .null, .null, .null, .null, .null, .null, .null, .null]))], u2] H := hB
  refine va_putF (D := G.1) (ci := 2) (v := .ref q1) (ty := .object "ProofPacker$IntList") (C := RRW) (T := TRW) (N := 9) hx hb hts inRW tyRW tokRW nmRW hown hK hB.1 hB.2 hS 0 rfl rfl 0 (by decide) (hts _ fl_RW_12) (fun _ h9 => h9) rfl hin rfl (by decide +kernel) rfl rfl (Nat.le_of_ble_eq_true rfl) d_RW_init_12 (fun H locs hP hD hS => ?_)
  have hB : bk G.1 vwCl A [[(h0, .inr (2, [.ref q1, .null, .null, .null, .null, .null, .null, .null, .null]))], u2] H := ⟨hP, hD⟩
  refine lv_aload_n hx hb d_RW_init_15 rfl (lv_at hl 0 rfl) ?_
  refine va_new (ci := 0) (fs := [.null, .int 0]) (C := RIL) (T := TIL) (N := 2) hx hb hts inIL tyIL tokIL hown (hts _ cl_RW_9) (hts _ ist_IL) (hts _ ini_IL) hK hB.1 hB.2 hS hA rfl (fun j hj => by rcases (show j = 0 ∨ j = 1 by omega) with rfl | rfl <;> rfl) (Nat.le_of_ble_eq_true rfl) (Nat.le_of_ble_eq_true rfl) d_RW_init_16 (fun q4 H hP hD hS => ?_)
  have hB : bk G.1 vwCl A [[(h0, .inr (2, [.ref q1, .null, .null, .null, .null, .null, .null, .null, .null]))], u2, [(q4, .inr (0, [.null, .int 0]))]] H := bk_push ⟨hP, hD⟩
  refine W.widen (k := 20) (n := 20) (by decide) (by decide) ?_
  refine lv_dup hx hb d_RW_init_19 rfl ?_
  refine wrI (G := G) (k := 2) (As := []) (rest := [.ref q4, .ref h0]) (kc := 20) (K := 16) (rem := 618) (Kt := 654) ⟨hx, hb, hml, hown, hts⟩ (c_IL_init l G q4 _ _ (bk_gP (k := 2) hB.1 rfl) (bk_own (k := 2) hB rfl) rfl) (cwI 0 hts (gd_c k_IL_init) rfl rmK_c rmK_s (hts _ ini_IL) (hts _ ml_RW_11) (hts _ im_IL_init) rfl (by decide +kernel) ⟨Nat.le_of_ble_eq_true rfl, Nat.le_of_ble_eq_true rfl⟩) hK hS hA hB rfl rfl ⟨rfl, rfl⟩ rfl hl.1 (Nat.le_of_ble_eq_true rfl) d_RW_init_20 (fun u5 H locs kc hu6 hB hS hk => ?_)
  obtain rfl : kc = 36 := by omega
  have hB : bk G.1 vwCl A [[(h0, .inr (2, [.ref q1, .null, .null, .null, .null, .null, .null, .null, .null]))], u2, u5] H := hB
  refine va_putF (D := G.1) (ci := 2) (v := .ref q4) (ty := .object "ProofPacker$IntList") (C := RRW) (T := TRW) (N := 9) hx hb hts inRW tyRW tokRW nmRW hown hK hB.1 hB.2 hS 0 rfl rfl 1 (by decide) (hts _ fl_RW_18) (fun _ h9 => h9) rfl hin rfl (by decide +kernel) rfl rfl (Nat.le_of_ble_eq_true rfl) d_RW_init_23 (fun H locs hP hD hS => ?_)
  have hB : bk G.1 vwCl A [[(h0, .inr (2, [.ref q1, .ref q4, .null, .null, .null, .null, .null, .null, .null]))], u2, u5] H := ⟨hP, hD⟩
  refine lv_aload_n hx hb d_RW_init_26 rfl (lv_at hl 0 rfl) ?_
  refine va_get (D := G.1) (ci := 2) (v := .ref q4) (C := RRW) (T := TRW) (N := 9) hx hb hts inRW hown hK hB.1 0 rfl rfl 1 (by decide) (hts _ fl_RW_18) (fun _ h9 => h9) rfl d_RW_init_27 ?_
  refine lv_iconst (v := 0) hx hb d_RW_init_30 (by decide) ?_
  refine wrV (G := G) (k := 2) (As := [.int 0]) (rest := []) (C := RIL) (kc := 36) (K := 0) (rem := 618) (Kt := 654) ⟨hx, hb, hml, hown, hts⟩ (c_IL_add l G q4 ([], 16) 0 _ _ (bk_gP (k := 2) hB.1 rfl) (bk_own (k := 2) hB rfl) hu6 ([0], 16) rfl 0 rfl (by decide)) (cwV 1 hts (gd_V ml_RW_21 im_IL_add sl_IL_add ini_IL k_IL_add) rfl rmK_c rmK_s (by decide +kernel) ⟨Nat.le_of_ble_eq_true rfl, Nat.le_of_ble_eq_true rfl⟩) hK (pIL_recv hK (bk_gP (k := 2) hB.1 rfl) hu6) hS hA hB rfl rfl ⟨rfl, rfl⟩ rfl hl.1 (Nat.le_of_ble_eq_true rfl) d_RW_init_31 (fun u7 H locs kc hu8 hB hS hk => ?_)
  obtain rfl : kc = 36 := by omega
  have hB : bk G.1 vwCl A [[(h0, .inr (2, [.ref q1, .ref q4, .null, .null, .null, .null, .null, .null, .null]))], u2, u7] H := hB
  refine lv_aload_n hx hb d_RW_init_34 rfl (lv_at hl 0 rfl) ?_
  refine va_new (ci := 0) (fs := [.null, .int 0]) (C := RIL) (T := TIL) (N := 2) hx hb hts inIL tyIL tokIL hown (hts _ cl_RW_9) (hts _ ist_IL) (hts _ ini_IL) hK hB.1 hB.2 hS hA rfl (fun j hj => by rcases (show j = 0 ∨ j = 1 by omega) with rfl | rfl <;> rfl) (Nat.le_of_ble_eq_true rfl) (Nat.le_of_ble_eq_true rfl) d_RW_init_35 (fun q9 H hP hD hS => ?_)
  have hB : bk G.1 vwCl A [[(h0, .inr (2, [.ref q1, .ref q4, .null, .null, .null, .null, .null, .null, .null]))], u2, u7, [(q9, .inr (0, [.null, .int 0]))]] H := bk_push ⟨hP, hD⟩
  refine W.widen (k := 38) (n := 38) (by decide) (by decide) ?_
  refine lv_dup hx hb d_RW_init_38 rfl ?_
  refine wrI (G := G) (k := 3) (As := []) (rest := [.ref q9, .ref h0]) (kc := 38) (K := 16) (rem := 600) (Kt := 654) ⟨hx, hb, hml, hown, hts⟩ (c_IL_init l G q9 _ _ (bk_gP (k := 3) hB.1 rfl) (bk_own (k := 3) hB rfl) rfl) (cwI 0 hts (gd_c k_IL_init) rfl rmK_c rmK_s (hts _ ini_IL) (hts _ ml_RW_11) (hts _ im_IL_init) rfl (by decide +kernel) ⟨Nat.le_of_ble_eq_true rfl, Nat.le_of_ble_eq_true rfl⟩) hK hS hA hB rfl rfl ⟨rfl, rfl⟩ rfl hl.1 (Nat.le_of_ble_eq_true rfl) d_RW_init_39 (fun u10 H locs kc hu11 hB hS hk => ?_)
  obtain rfl : kc = 54 := by omega
  have hB : bk G.1 vwCl A [[(h0, .inr (2, [.ref q1, .ref q4, .null, .null, .null, .null, .null, .null, .null]))], u2, u7, u10] H := hB
  refine va_putF (D := G.1) (ci := 2) (v := .ref q9) (ty := .object "ProofPacker$IntList") (C := RRW) (T := TRW) (N := 9) hx hb hts inRW tyRW tokRW nmRW hown hK hB.1 hB.2 hS 0 rfl rfl 2 (by decide) (hts _ fl_RW_25) (fun _ h9 => h9) rfl hin rfl (by decide +kernel) rfl rfl (Nat.le_of_ble_eq_true rfl) d_RW_init_42 (fun H locs hP hD hS => ?_)
  have hB : bk G.1 vwCl A [[(h0, .inr (2, [.ref q1, .ref q4, .ref q9, .null, .null, .null, .null, .null, .null]))], u2, u7, u10] H := ⟨hP, hD⟩
  refine lv_aload_n hx hb d_RW_init_45 rfl (lv_at hl 0 rfl) ?_
  refine va_new (ci := 0) (fs := [.null, .int 0]) (C := RIL) (T := TIL) (N := 2) hx hb hts inIL tyIL tokIL hown (hts _ cl_RW_9) (hts _ ist_IL) (hts _ ini_IL) hK hB.1 hB.2 hS hA rfl (fun j hj => by rcases (show j = 0 ∨ j = 1 by omega) with rfl | rfl <;> rfl) (Nat.le_of_ble_eq_true rfl) (Nat.le_of_ble_eq_true rfl) d_RW_init_46 (fun q12 H hP hD hS => ?_)
  have hB : bk G.1 vwCl A [[(h0, .inr (2, [.ref q1, .ref q4, .ref q9, .null, .null, .null, .null, .null, .null]))], u2, u7, u10, [(q12, .inr (0, [.null, .int 0]))]] H := bk_push ⟨hP, hD⟩
  refine W.widen (k := 56) (n := 56) (by decide) (by decide) ?_
  refine lv_dup hx hb d_RW_init_49 rfl ?_
  refine wrI (G := G) (k := 4) (As := []) (rest := [.ref q12, .ref h0]) (kc := 56) (K := 16) (rem := 582) (Kt := 654) ⟨hx, hb, hml, hown, hts⟩ (c_IL_init l G q12 _ _ (bk_gP (k := 4) hB.1 rfl) (bk_own (k := 4) hB rfl) rfl) (cwI 0 hts (gd_c k_IL_init) rfl rmK_c rmK_s (hts _ ini_IL) (hts _ ml_RW_11) (hts _ im_IL_init) rfl (by decide +kernel) ⟨Nat.le_of_ble_eq_true rfl, Nat.le_of_ble_eq_true rfl⟩) hK hS hA hB rfl rfl ⟨rfl, rfl⟩ rfl hl.1 (Nat.le_of_ble_eq_true rfl) d_RW_init_50 (fun u13 H locs kc hu14 hB hS hk => ?_)
  obtain rfl : kc = 72 := by omega
  have hB : bk G.1 vwCl A [[(h0, .inr (2, [.ref q1, .ref q4, .ref q9, .null, .null, .null, .null, .null, .null]))], u2, u7, u10, u13] H := hB
  refine va_putF (D := G.1) (ci := 2) (v := .ref q12) (ty := .object "ProofPacker$IntList") (C := RRW) (T := TRW) (N := 9) hx hb hts inRW tyRW tokRW nmRW hown hK hB.1 hB.2 hS 0 rfl rfl 3 (by decide) (hts _ fl_RW_28) (fun _ h9 => h9) rfl hin rfl (by decide +kernel) rfl rfl (Nat.le_of_ble_eq_true rfl) d_RW_init_53 (fun H locs hP hD hS => ?_)
  have hB : bk G.1 vwCl A [[(h0, .inr (2, [.ref q1, .ref q4, .ref q9, .ref q12, .null, .null, .null, .null, .null]))], u2, u7, u10, u13] H := ⟨hP, hD⟩
  refine lv_aload_n hx hb d_RW_init_56 rfl (lv_at hl 0 rfl) ?_
  refine va_new (ci := 0) (fs := [.null, .int 0]) (C := RIL) (T := TIL) (N := 2) hx hb hts inIL tyIL tokIL hown (hts _ cl_RW_9) (hts _ ist_IL) (hts _ ini_IL) hK hB.1 hB.2 hS hA rfl (fun j hj => by rcases (show j = 0 ∨ j = 1 by omega) with rfl | rfl <;> rfl) (Nat.le_of_ble_eq_true rfl) (Nat.le_of_ble_eq_true rfl) d_RW_init_57 (fun q15 H hP hD hS => ?_)
  have hB : bk G.1 vwCl A [[(h0, .inr (2, [.ref q1, .ref q4, .ref q9, .ref q12, .null, .null, .null, .null, .null]))], u2, u7, u10, u13, [(q15, .inr (0, [.null, .int 0]))]] H := bk_push ⟨hP, hD⟩
  refine W.widen (k := 74) (n := 74) (by decide) (by decide) ?_
  refine lv_dup hx hb d_RW_init_60 rfl ?_
  refine wrI (G := G) (k := 5) (As := []) (rest := [.ref q15, .ref h0]) (kc := 74) (K := 16) (rem := 564) (Kt := 654) ⟨hx, hb, hml, hown, hts⟩ (c_IL_init l G q15 _ _ (bk_gP (k := 5) hB.1 rfl) (bk_own (k := 5) hB rfl) rfl) (cwI 0 hts (gd_c k_IL_init) rfl rmK_c rmK_s (hts _ ini_IL) (hts _ ml_RW_11) (hts _ im_IL_init) rfl (by decide +kernel) ⟨Nat.le_of_ble_eq_true rfl, Nat.le_of_ble_eq_true rfl⟩) hK hS hA hB rfl rfl ⟨rfl, rfl⟩ rfl hl.1 (Nat.le_of_ble_eq_true rfl) d_RW_init_61 (fun u16 H locs kc hu17 hB hS hk => ?_)
  obtain rfl : kc = 90 := by omega
  have hB : bk G.1 vwCl A [[(h0, .inr (2, [.ref q1, .ref q4, .ref q9, .ref q12, .null, .null, .null, .null, .null]))], u2, u7, u10, u13, u16] H := hB
  refine va_putF (D := G.1) (ci := 2) (v := .ref q15) (ty := .object "ProofPacker$IntList") (C := RRW) (T := TRW) (N := 9) hx hb hts inRW tyRW tokRW nmRW hown hK hB.1 hB.2 hS 0 rfl rfl 4 (by decide) (hts _ fl_RW_31) (fun _ h9 => h9) rfl hin rfl (by decide +kernel) rfl rfl (Nat.le_of_ble_eq_true rfl) d_RW_init_64 (fun H locs hP hD hS => ?_)
  have hB : bk G.1 vwCl A [[(h0, .inr (2, [.ref q1, .ref q4, .ref q9, .ref q12, .ref q15, .null, .null, .null, .null]))], u2, u7, u10, u13, u16] H := ⟨hP, hD⟩
  refine lv_aload_n hx hb d_RW_init_67 rfl (lv_at hl 0 rfl) ?_
  refine va_new (ci := 0) (fs := [.null, .int 0]) (C := RIL) (T := TIL) (N := 2) hx hb hts inIL tyIL tokIL hown (hts _ cl_RW_9) (hts _ ist_IL) (hts _ ini_IL) hK hB.1 hB.2 hS hA rfl (fun j hj => by rcases (show j = 0 ∨ j = 1 by omega) with rfl | rfl <;> rfl) (Nat.le_of_ble_eq_true rfl) (Nat.le_of_ble_eq_true rfl) d_RW_init_68 (fun q18 H hP hD hS => ?_)
  have hB : bk G.1 vwCl A [[(h0, .inr (2, [.ref q1, .ref q4, .ref q9, .ref q12, .ref q15, .null, .null, .null, .null]))], u2, u7, u10, u13, u16, [(q18, .inr (0, [.null, .int 0]))]] H := bk_push ⟨hP, hD⟩
  refine W.widen (k := 92) (n := 92) (by decide) (by decide) ?_
  refine lv_dup hx hb d_RW_init_71 rfl ?_
  refine wrI (G := G) (k := 6) (As := []) (rest := [.ref q18, .ref h0]) (kc := 92) (K := 16) (rem := 546) (Kt := 654) ⟨hx, hb, hml, hown, hts⟩ (c_IL_init l G q18 _ _ (bk_gP (k := 6) hB.1 rfl) (bk_own (k := 6) hB rfl) rfl) (cwI 0 hts (gd_c k_IL_init) rfl rmK_c rmK_s (hts _ ini_IL) (hts _ ml_RW_11) (hts _ im_IL_init) rfl (by decide +kernel) ⟨Nat.le_of_ble_eq_true rfl, Nat.le_of_ble_eq_true rfl⟩) hK hS hA hB rfl rfl ⟨rfl, rfl⟩ rfl hl.1 (Nat.le_of_ble_eq_true rfl) d_RW_init_72 (fun u19 H locs kc hu20 hB hS hk => ?_)
  obtain rfl : kc = 108 := by omega
  have hB : bk G.1 vwCl A [[(h0, .inr (2, [.ref q1, .ref q4, .ref q9, .ref q12, .ref q15, .null, .null, .null, .null]))], u2, u7, u10, u13, u16, u19] H := hB
  refine va_putF (D := G.1) (ci := 2) (v := .ref q18) (ty := .object "ProofPacker$IntList") (C := RRW) (T := TRW) (N := 9) hx hb hts inRW tyRW tokRW nmRW hown hK hB.1 hB.2 hS 0 rfl rfl 5 (by decide) (hts _ fl_RW_34) (fun _ h9 => h9) rfl hin rfl (by decide +kernel) rfl rfl (Nat.le_of_ble_eq_true rfl) d_RW_init_75 (fun H locs hP hD hS => ?_)
  have hB : bk G.1 vwCl A [[(h0, .inr (2, [.ref q1, .ref q4, .ref q9, .ref q12, .ref q15, .ref q18, .null, .null, .null]))], u2, u7, u10, u13, u16, u19] H := ⟨hP, hD⟩
  refine lv_aload_n hx hb d_RW_init_78 rfl (lv_at hl 0 rfl) ?_
  refine va_new (ci := 0) (fs := [.null, .int 0]) (C := RIL) (T := TIL) (N := 2) hx hb hts inIL tyIL tokIL hown (hts _ cl_RW_9) (hts _ ist_IL) (hts _ ini_IL) hK hB.1 hB.2 hS hA rfl (fun j hj => by rcases (show j = 0 ∨ j = 1 by omega) with rfl | rfl <;> rfl) (Nat.le_of_ble_eq_true rfl) (Nat.le_of_ble_eq_true rfl) d_RW_init_79 (fun q21 H hP hD hS => ?_)
  have hB : bk G.1 vwCl A [[(h0, .inr (2, [.ref q1, .ref q4, .ref q9, .ref q12, .ref q15, .ref q18, .null, .null, .null]))], u2, u7, u10, u13, u16, u19, [(q21, .inr (0, [.null, .int 0]))]] H := bk_push ⟨hP, hD⟩
  refine W.widen (k := 110) (n := 110) (by decide) (by decide) ?_
  refine lv_dup hx hb d_RW_init_82 rfl ?_
  refine wrI (G := G) (k := 7) (As := []) (rest := [.ref q21, .ref h0]) (kc := 110) (K := 16) (rem := 528) (Kt := 654) ⟨hx, hb, hml, hown, hts⟩ (c_IL_init l G q21 _ _ (bk_gP (k := 7) hB.1 rfl) (bk_own (k := 7) hB rfl) rfl) (cwI 0 hts (gd_c k_IL_init) rfl rmK_c rmK_s (hts _ ini_IL) (hts _ ml_RW_11) (hts _ im_IL_init) rfl (by decide +kernel) ⟨Nat.le_of_ble_eq_true rfl, Nat.le_of_ble_eq_true rfl⟩) hK hS hA hB rfl rfl ⟨rfl, rfl⟩ rfl hl.1 (Nat.le_of_ble_eq_true rfl) d_RW_init_83 (fun u22 H locs kc hu23 hB hS hk => ?_)
  obtain rfl : kc = 126 := by omega
  have hB : bk G.1 vwCl A [[(h0, .inr (2, [.ref q1, .ref q4, .ref q9, .ref q12, .ref q15, .ref q18, .null, .null, .null]))], u2, u7, u10, u13, u16, u19, u22] H := hB
  refine va_putF (D := G.1) (ci := 2) (v := .ref q21) (ty := .object "ProofPacker$IntList") (C := RRW) (T := TRW) (N := 9) hx hb hts inRW tyRW tokRW nmRW hown hK hB.1 hB.2 hS 0 rfl rfl 6 (by decide) (hts _ fl_RW_37) (fun _ h9 => h9) rfl hin rfl (by decide +kernel) rfl rfl (Nat.le_of_ble_eq_true rfl) d_RW_init_86 (fun H locs hP hD hS => ?_)
  have hB : bk G.1 vwCl A [[(h0, .inr (2, [.ref q1, .ref q4, .ref q9, .ref q12, .ref q15, .ref q18, .ref q21, .null, .null]))], u2, u7, u10, u13, u16, u19, u22] H := ⟨hP, hD⟩
  refine lv_aload_n hx hb d_RW_init_89 rfl (lv_at hl 0 rfl) ?_
  refine lv_sipush (v := 512) hx hb d_RW_init_90 (by decide) ?_
  refine va_newa (atype := .int) (ty := .int) (a0 := (512, .inl (fun _ => 0))) (N' := 512) hx hb (hts _ arr_int) rfl hK hB.1 hB.2 hS hA (fun cA => rfl) (by decide) (by decide) (by decide) (Nat.le_of_ble_eq_true rfl) (Nat.le_of_ble_eq_true rfl) d_RW_init_93 (fun q24 cA H hK2 hP hD hS => ?_)
  obtain rfl : cA = G.2.1 := ca_eq hK2 3 0 rfl rfl
  have hB : bk G.1 vwCl A [[(h0, .inr (2, [.ref q1, .ref q4, .ref q9, .ref q12, .ref q15, .ref q18, .ref q21, .null, .null]))], u2, u7, u10, u13, u16, u19, u22, [(q24, .inl (G.2.1, 512, .inl (fun _ => 0)))]] H := bk_push ⟨hP, hD⟩
  refine W.widen (k := 638) (n := 638) (by decide) (by decide) ?_
  refine va_putF (D := G.1) (ci := 2) (v := .ref q24) (ty := .array .int) (C := RRW) (T := TRW) (N := 9) hx hb hts inRW tyRW tokRW nmRW hown hK hB.1 hB.2 hS 0 rfl rfl 7 (by decide) (hts _ fl_RW_40) (fun _ h9 => h9) rfl hin rfl (by decide +kernel) rfl rfl (Nat.le_of_ble_eq_true rfl) d_RW_init_95 (fun H locs hP hD hS => ?_)
  have hB : bk G.1 vwCl A [[(h0, .inr (2, [.ref q1, .ref q4, .ref q9, .ref q12, .ref q15, .ref q18, .ref q21, .ref q24, .null]))], u2, u7, u10, u13, u16, u19, u22, [(q24, .inl (G.2.1, 512, .inl (fun _ => 0)))]] H := ⟨hP, hD⟩
  refine lv_aload_n hx hb d_RW_init_98 rfl (lv_at hl 0 rfl) ?_
  refine va_get (D := G.1) (ci := 2) (v := .ref q24) (C := RRW) (T := TRW) (N := 9) hx hb hts inRW hown hK hB.1 0 rfl rfl 7 (by decide) (hts _ fl_RW_40) (fun _ h9 => h9) rfl d_RW_init_99 ?_
  refine lv_iconst (v := (-1)) hx hb d_RW_init_102 (by decide) ?_
  refine wrS0 (G := G) (k := 8) (As := [.ref q24, .int (-1)]) (rest := []) (kc := 638) (rem := 16) (Kt := 654) ⟨hx, hb, hml, hown, hts⟩ (c_AR_fill l G q24 512 (fun _ => 0) (-1) _ _ (bk_gP (k := 8) hB.1 rfl) (bk_own (k := 8) hB rfl) rfl (by decide)) (va_cwS 2 hts (gd_S ml_RW_44 sm_AR_fill ini_AR k_AR_fill) rfl rfl rfl (by decide +kernel) ⟨Nat.le_of_ble_eq_true rfl, Nat.le_of_ble_eq_true rfl⟩) hK hS hA hB rfl rfl ⟨rfl, rfl⟩ rfl hl.1 (Nat.le_of_ble_eq_true rfl) d_RW_init_103 (fun u25 H locs hu26 hB hS => ?_)
  subst hu26
  have hB : bk G.1 vwCl A [[(h0, .inr (2, [.ref q1, .ref q4, .ref q9, .ref q12, .ref q15, .ref q18, .ref q21, .ref q24, .null]))], u2, u7, u10, u13, u16, u19, u22, [(q24, .inl (G.2.1, 512, .inl (fun _ => (-1))))]] H := hB
  refine lv_aload_n hx hb d_RW_init_106 rfl (lv_at hl 0 rfl) ?_
  refine lv_bipush (v := 16) hx hb d_RW_init_107 (by decide) ?_
  refine va_newa (atype := .long) (ty := .long) (a0 := (16, .inr (.inl (fun _ => 0)))) (N' := 16) hx hb (hts _ arr_long) rfl hK hB.1 hB.2 hS hA (fun cA => rfl) (by decide) (by decide) (by decide) (Nat.le_of_ble_eq_true rfl) (Nat.le_of_ble_eq_true rfl) d_RW_init_109 (fun q27 cA H hK2 hP hD hS => ?_)
  obtain rfl : cA = G.2.2.1 := ca_eqL hK2 3 1 rfl rfl
  have hB : bk G.1 vwCl A [[(h0, .inr (2, [.ref q1, .ref q4, .ref q9, .ref q12, .ref q15, .ref q18, .ref q21, .ref q24, .null]))], u2, u7, u10, u13, u16, u19, u22, [(q24, .inl (G.2.1, 512, .inl (fun _ => (-1))))], [(q27, .inl (G.2.2.1, 16, .inr (.inl (fun _ => 0))))]] H := bk_push ⟨hP, hD⟩
  refine W.widen (k := 654) (n := 654) (by decide) (by decide) ?_
  refine va_put (D := G.1) (ci := 2) (v := .ref q27) (ty := .array .long) (C := RRW) (T := TRW) (N := 9) hx hb hts inRW tyRW tokRW nmRW hown hK hB.1 hB.2 hS 0 rfl rfl 8 (by decide) (hts _ fl_RW_50) (fun _ h9 => h9) rfl (by decide +kernel) rfl rfl (Nat.le_of_ble_eq_true rfl) d_RW_init_111 (fun H locs hP hD hS => ?_)
  have hB : bk G.1 vwCl A [[(h0, .inr (2, [.ref q1, .ref q4, .ref q9, .ref q12, .ref q15, .ref q18, .ref q21, .ref q24, .ref q27]))], u2, u7, u10, u13, u16, u19, u22, [(q24, .inl (G.2.1, 512, .inl (fun _ => (-1))))], [(q27, .inl (G.2.2.1, 16, .inr (.inl (fun _ => 0))))]] H := ⟨hP, hD⟩
  have hB : bk G.1 vwCl A [[(h0, .inr (2, [.ref q1, .ref q4, .ref q9, .ref q12, .ref q15, .ref q18, .ref q21, .ref q24, .ref q27]))], [(q24, .inl (G.2.1, 512, .inl (fun _ => (-1))))], [(q27, .inl (G.2.2.1, 16, .inr (.inl (fun _ => 0))))], u2, u7, u10, u13, u16, u19, u22] H := bk_rot (xs := [u2, u7, u10, u13, u16, u19, u22]) hB
  exact W.vret hx hb hr (fun t ht hW => ⟨⟨[[(h0, .inr (2, [.ref q1, .ref q4, .ref q9, .ref q12, .ref q15, .ref q18, .ref q21, .ref q24, .ref q27]))], [(q24, .inl (G.2.1, 512, .inl (fun _ => (-1))))], [(q27, .inl (G.2.2.1, 16, .inr (.inl (fun _ => 0))))], u2, u7, u10, u13, u16, u19, u22].flatten, rfl, ⟨(fun i => [q1, q4, q9, q12, q15, q18, q21].getD i 0), q24, q27, u2, u7, u10, u13, u16, u19, u22, rfl, hu3, hu8, hu11, hu14, hu17, hu20, hu23, by decide⟩, by rw [ht]; exact hB.1, hB.2⟩, hS.F ht⟩) hS.2.2 d_RW_init_114

def iTL : tTL := (([], 16), ([], 16), ([], 16), iLL, (-1), 0, ([], 16), ([], 16), ([], 16), ([], 16), ([], 16), ([], 16))
set_option maxHeartbeats 4000000 in
set_option maxRecDepth 100000 in
theorem c_TL_init (l : Launch) (G : pG) (h0 : Nat) (bS bR : Nat) (H : Heap) (w : va_W) (hP0 : va_P G.1 vwCl w H) (hD0 : va_D (fun _ => True) w) (hσ : w = [(h0, .inr (4, [.null, .null, .null, .null, .null, .null, .int 0, .int 0, .null, .null, .null, .null, .null, .null]))]) : MWv l y_TL_init w_TL_init 3 52 181 G [.ref h0, .ref bS, .ref bR] H w (fun u => ∃ (ad : Nat → Nat) (adL : Nat → Nat), pTL G h0 bS bR ad adL iTL u) := by
  refine Met.ofW (cc := b_TL_init) (maxL := 3) (ret := none) (by decide) rfl ?_
  intro p e s m args below meth c s₁ B hml hv
  obtain ⟨rfl, rfl, hK⟩ := hv
  have hx := B.exec
  have hb := B.bytes
  have hr := B.returns
  have hts0 := atoms_spec (ws := w_TL_init) B.pre
  have hts := fun w (h : w ∈ lw_g) => hts0 w (List.mem_cons_of_mem _ h)
  have hown : s.vm.findClass RTL = some m.cls := findClass_of_methodNamed B.named
  have hlocks := B.notSynchronized
  have hA : ∀ q : Nat, s.heap.size ≤ q → va_A w s.heap.size q := fun _ h => Or.inr h
  have hB : bk G.1 vwCl (va_A w s.heap.size) [w] s.heap := bk_init hP0 hD0
  generalize va_A w s.heap.size = A at *
  have hS : va_S A s.heap s.heap [] := va_S.rf
  subst hσ
  have hB : bk G.1 vwCl A [[(h0, .inr (4, [.null, .null, .null, .null, .null, .null, .int 0, .int 0, .null, .null, .null, .null, .null, .null]))]] s.heap := hB
  have hin : meth.name = "<init>" := (name_of_methodNamed B.named B.method).1
  have hl := lv_entry ([.ref h0, .ref bS, .ref bR]) (n := 3) (Nat.le_of_ble_eq_true rfl)
  rw [lg_entry_eq]
  generalize (lg_sl ([.ref h0, .ref bS, .ref bR]) ++ List.replicate (3 - (lg_sl ([.ref h0, .ref bS, .ref bR])).length) Slot.unset).toArray = ls at hl ⊢
  have hl : lv_has ls 3 [(0, .ref h0), (1, .ref bS), (2, .ref bR)] := hl
  refine lv_aload_n hx hb d_TL_init_0 rfl (lv_at hl 0 rfl) ?_
  refine W.objInit hx hb hown (hts _ ml_TL_3) (hts _ im_obj_init) (hts _ k_obj_init) rfl (by rw [hml]; exact hl.1) rfl d_TL_init_1 (Nat.le_of_ble_eq_true rfl) (Nat.le_of_ble_eq_true rfl) ?_
  refine W.eq (g2 := F0 m 4 ls []) rfl ?_
  refine lv_aload_n hx hb d_TL_init_4 rfl (lv_at hl 0 rfl) ?_
  refine lv_aload_n hx hb d_TL_init_5 rfl (lv_at hl 1 rfl) ?_
  refine va_putF (D := G.1) (ci := 4) (v := .ref bS) (ty := .object "ProofPacker$Statements") (C := RTL) (T := TTL) (N := 14) hx hb hts inTL tyTL tokTL nmTL hown hK hB.1 hB.2 hS 0 rfl rfl 0 (by decide) (hts _ fl_TL_9) (fun _ h9 => h9) rfl hin rfl (by decide +kernel) rfl rfl (Nat.le_of_ble_eq_true rfl) d_TL_init_6 (fun H locs hP hD hS => ?_)
  have hB : bk G.1 vwCl A [[(h0, .inr (4, [.ref bS, .null, .null, .null, .null, .null, .int 0, .int 0, .null, .null, .null, .null, .null, .null]))]] H := ⟨hP, hD⟩
  refine lv_aload_n hx hb d_TL_init_9 rfl (lv_at hl 0 rfl) ?_
  refine lv_aload_n hx hb d_TL_init_10 rfl (lv_at hl 2 rfl) ?_
  refine va_putF (D := G.1) (ci := 4) (v := .ref bR) (ty := .object "ProofPacker$Rows") (C := RTL) (T := TTL) (N := 14) hx hb hts inTL tyTL tokTL nmTL hown hK hB.1 hB.2 hS 0 rfl rfl 1 (by decide) (hts _ fl_TL_15) (fun _ h9 => h9) rfl hin rfl (by decide +kernel) rfl rfl (Nat.le_of_ble_eq_true rfl) d_TL_init_11 (fun H locs hP hD hS => ?_)
  have hB : bk G.1 vwCl A [[(h0, .inr (4, [.ref bS, .ref bR, .null, .null, .null, .null, .int 0, .int 0, .null, .null, .null, .null, .null, .null]))]] H := ⟨hP, hD⟩
  refine lv_aload_n hx hb d_TL_init_14 rfl (lv_at hl 0 rfl) ?_
  refine va_new (ci := 0) (fs := [.null, .int 0]) (C := RIL) (T := TIL) (N := 2) hx hb hts inIL tyIL tokIL hown (hts _ cl_TL_19) (hts _ ist_IL) (hts _ ini_IL) hK hB.1 hB.2 hS hA rfl (fun j hj => by rcases (show j = 0 ∨ j = 1 by omega) with rfl | rfl <;> rfl) (Nat.le_of_ble_eq_true rfl) (Nat.le_of_ble_eq_true rfl) d_TL_init_15 (fun q1 H hP hD hS => ?_)
  have hB : bk G.1 vwCl A [[(h0, .inr (4, [.ref bS, .ref bR, .null, .null, .null, .null, .int 0, .int 0, .null, .null, .null, .null, .null, .null]))], [(q1, .inr (0, [.null, .int 0]))]] H := bk_push ⟨hP, hD⟩
  refine W.widen (k := 2) (n := 2) (by decide) (by decide) ?_
  refine lv_dup hx hb d_TL_init_18 rfl ?_
  refine wrI (G := G) (k := 1) (As := []) (rest := [.ref q1, .ref h0]) (kc := 2) (K := 16) (rem := 163) (Kt := 181) ⟨hx, hb, hml, hown, hts⟩ (c_IL_init l G q1 _ _ (bk_gP (k := 1) hB.1 rfl) (bk_own (k := 1) hB rfl) rfl) (cwI 0 hts (gd_c k_IL_init) rfl rmK_c rmK_s (hts _ ini_IL) (hts _ ml_TL_21) (hts _ im_IL_init) rfl (by decide +kernel) ⟨Nat.le_of_ble_eq_true rfl, Nat.le_of_ble_eq_true rfl⟩) hK hS hA hB rfl rfl ⟨rfl, rfl⟩ rfl hl.1 (Nat.le_of_ble_eq_true rfl) d_TL_init_19 (fun u2 H locs kc hu3 hB hS hk => ?_)
  obtain rfl : kc = 18 := by omega
  have hB : bk G.1 vwCl A [[(h0, .inr (4, [.ref bS, .ref bR, .null, .null, .null, .null, .int 0, .int 0, .null, .null, .null, .null, .null, .null]))], u2] H := hB
  refine va_putF (D := G.1) (ci := 4) (v := .ref q1) (ty := .object "ProofPacker$IntList") (C := RTL) (T := TTL) (N := 14) hx hb hts inTL tyTL tokTL nmTL hown hK hB.1 hB.2 hS 0 rfl rfl 2 (by decide) (hts _ fl_TL_22) (fun _ h9 => h9) rfl hin rfl (by decide +kernel) rfl rfl (Nat.le_of_ble_eq_true rfl) d_TL_init_22 (fun H locs hP hD hS => ?_)
  have hB : bk G.1 vwCl A [[(h0, .inr (4, [.ref bS, .ref bR, .ref q1, .null, .null, .null, .int 0, .int 0, .null, .null, .null, .null, .null, .null]))], u2] H := ⟨hP, hD⟩
  refine lv_aload_n hx hb d_TL_init_25 rfl (lv_at hl 0 rfl) ?_
  refine va_new (ci := 0) (fs := [.null, .int 0]) (C := RIL) (T := TIL) (N := 2) hx hb hts inIL tyIL tokIL hown (hts _ cl_TL_19) (hts _ ist_IL) (hts _ ini_IL) hK hB.1 hB.2 hS hA rfl (fun j hj => by rcases (show j = 0 ∨ j = 1 by omega) with rfl | rfl <;> rfl) (Nat.le_of_ble_eq_true rfl) (Nat.le_of_ble_eq_true rfl) d_TL_init_26 (fun q4 H hP hD hS => ?_)
  have hB : bk G.1 vwCl A [[(h0, .inr (4, [.ref bS, .ref bR, .ref q1, .null, .null, .null, .int 0, .int 0, .null, .null, .null, .null, .null, .null]))], u2, [(q4, .inr (0, [.null, .int 0]))]] H := bk_push ⟨hP, hD⟩
  refine W.widen (k := 20) (n := 20) (by decide) (by decide) ?_
  refine lv_dup hx hb d_TL_init_29 rfl ?_
  refine wrI (G := G) (k := 2) (As := []) (rest := [.ref q4, .ref h0]) (kc := 20) (K := 16) (rem := 145) (Kt := 181) ⟨hx, hb, hml, hown, hts⟩ (c_IL_init l G q4 _ _ (bk_gP (k := 2) hB.1 rfl) (bk_own (k := 2) hB rfl) rfl) (cwI 0 hts (gd_c k_IL_init) rfl rmK_c rmK_s (hts _ ini_IL) (hts _ ml_TL_21) (hts _ im_IL_init) rfl (by decide +kernel) ⟨Nat.le_of_ble_eq_true rfl, Nat.le_of_ble_eq_true rfl⟩) hK hS hA hB rfl rfl ⟨rfl, rfl⟩ rfl hl.1 (Nat.le_of_ble_eq_true rfl) d_TL_init_30 (fun u5 H locs kc hu6 hB hS hk => ?_)
  obtain rfl : kc = 36 := by omega
  have hB : bk G.1 vwCl A [[(h0, .inr (4, [.ref bS, .ref bR, .ref q1, .null, .null, .null, .int 0, .int 0, .null, .null, .null, .null, .null, .null]))], u2, u5] H := hB
  refine va_putF (D := G.1) (ci := 4) (v := .ref q4) (ty := .object "ProofPacker$IntList") (C := RTL) (T := TTL) (N := 14) hx hb hts inTL tyTL tokTL nmTL hown hK hB.1 hB.2 hS 0 rfl rfl 3 (by decide) (hts _ fl_TL_26) (fun _ h9 => h9) rfl hin rfl (by decide +kernel) rfl rfl (Nat.le_of_ble_eq_true rfl) d_TL_init_33 (fun H locs hP hD hS => ?_)
  have hB : bk G.1 vwCl A [[(h0, .inr (4, [.ref bS, .ref bR, .ref q1, .ref q4, .null, .null, .int 0, .int 0, .null, .null, .null, .null, .null, .null]))], u2, u5] H := ⟨hP, hD⟩
  refine lv_aload_n hx hb d_TL_init_36 rfl (lv_at hl 0 rfl) ?_
  refine va_new (ci := 0) (fs := [.null, .int 0]) (C := RIL) (T := TIL) (N := 2) hx hb hts inIL tyIL tokIL hown (hts _ cl_TL_19) (hts _ ist_IL) (hts _ ini_IL) hK hB.1 hB.2 hS hA rfl (fun j hj => by rcases (show j = 0 ∨ j = 1 by omega) with rfl | rfl <;> rfl) (Nat.le_of_ble_eq_true rfl) (Nat.le_of_ble_eq_true rfl) d_TL_init_37 (fun q7 H hP hD hS => ?_)
  have hB : bk G.1 vwCl A [[(h0, .inr (4, [.ref bS, .ref bR, .ref q1, .ref q4, .null, .null, .int 0, .int 0, .null, .null, .null, .null, .null, .null]))], u2, u5, [(q7, .inr (0, [.null, .int 0]))]] H := bk_push ⟨hP, hD⟩
  refine W.widen (k := 38) (n := 38) (by decide) (by decide) ?_
  refine lv_dup hx hb d_TL_init_40 rfl ?_
  refine wrI (G := G) (k := 3) (As := []) (rest := [.ref q7, .ref h0]) (kc := 38) (K := 16) (rem := 127) (Kt := 181) ⟨hx, hb, hml, hown, hts⟩ (c_IL_init l G q7 _ _ (bk_gP (k := 3) hB.1 rfl) (bk_own (k := 3) hB rfl) rfl) (cwI 0 hts (gd_c k_IL_init) rfl rmK_c rmK_s (hts _ ini_IL) (hts _ ml_TL_21) (hts _ im_IL_init) rfl (by decide +kernel) ⟨Nat.le_of_ble_eq_true rfl, Nat.le_of_ble_eq_true rfl⟩) hK hS hA hB rfl rfl ⟨rfl, rfl⟩ rfl hl.1 (Nat.le_of_ble_eq_true rfl) d_TL_init_41 (fun u8 H locs kc hu9 hB hS hk => ?_)
  obtain rfl : kc = 54 := by omega
  have hB : bk G.1 vwCl A [[(h0, .inr (4, [.ref bS, .ref bR, .ref q1, .ref q4, .null, .null, .int 0, .int 0, .null, .null, .null, .null, .null, .null]))], u2, u5, u8] H := hB
  refine va_putF (D := G.1) (ci := 4) (v := .ref q7) (ty := .object "ProofPacker$IntList") (C := RTL) (T := TTL) (N := 14) hx hb hts inTL tyTL tokTL nmTL hown hK hB.1 hB.2 hS 0 rfl rfl 4 (by decide) (hts _ fl_TL_29) (fun _ h9 => h9) rfl hin rfl (by decide +kernel) rfl rfl (Nat.le_of_ble_eq_true rfl) d_TL_init_44 (fun H locs hP hD hS => ?_)
  have hB : bk G.1 vwCl A [[(h0, .inr (4, [.ref bS, .ref bR, .ref q1, .ref q4, .ref q7, .null, .int 0, .int 0, .null, .null, .null, .null, .null, .null]))], u2, u5, u8] H := ⟨hP, hD⟩
  refine lv_aload_n hx hb d_TL_init_47 rfl (lv_at hl 0 rfl) ?_
  refine va_new (ci := 1) (fs := [.null]) (C := RLL) (T := TLL) (N := 1) hx hb hts inLL tyLL tokLL hown (hts _ cl_TL_32) (hts _ ist_LL) (hts _ ini_LL) hK hB.1 hB.2 hS hA rfl (fun j hj => by rcases (show j = 0 by omega) with rfl <;> rfl) (Nat.le_of_ble_eq_true rfl) (Nat.le_of_ble_eq_true rfl) d_TL_init_48 (fun q10 H hP hD hS => ?_)
  have hB : bk G.1 vwCl A [[(h0, .inr (4, [.ref bS, .ref bR, .ref q1, .ref q4, .ref q7, .null, .int 0, .int 0, .null, .null, .null, .null, .null, .null]))], u2, u5, u8, [(q10, .inr (1, [.null]))]] H := bk_push ⟨hP, hD⟩
  refine W.widen (k := 55) (n := 55) (by decide) (by decide) ?_
  refine lv_dup hx hb d_TL_init_51 rfl ?_
  refine wrI (G := G) (k := 4) (As := []) (rest := [.ref q10, .ref h0]) (kc := 55) (K := 18) (rem := 108) (Kt := 181) ⟨hx, hb, hml, hown, hts⟩ (c_LL_init l G q10 _ _ (bk_gP (k := 4) hB.1 rfl) (bk_own (k := 4) hB rfl) rfl) (cwI 0 hts (gd_c k_LL_init) rfl rmK_c rmK_s (hts _ ini_LL) (hts _ ml_TL_34) (hts _ im_LL_init) rfl (by decide +kernel) ⟨Nat.le_of_ble_eq_true rfl, Nat.le_of_ble_eq_true rfl⟩) hK hS hA hB rfl rfl ⟨rfl, rfl⟩ rfl hl.1 (Nat.le_of_ble_eq_true rfl) d_TL_init_52 (fun u11 H locs kc hu12 hB hS hk => ?_)
  obtain rfl : kc = 73 := by omega
  obtain ⟨ad13, hu12⟩ := hu12
  have hB : bk G.1 vwCl A [[(h0, .inr (4, [.ref bS, .ref bR, .ref q1, .ref q4, .ref q7, .null, .int 0, .int 0, .null, .null, .null, .null, .null, .null]))], u2, u5, u8, u11] H := hB
  refine va_putF (D := G.1) (ci := 4) (v := .ref q10) (ty := .object "ProofPacker$LetterList") (C := RTL) (T := TTL) (N := 14) hx hb hts inTL tyTL tokTL nmTL hown hK hB.1 hB.2 hS 0 rfl rfl 5 (by decide) (hts _ fl_TL_35) (fun _ h9 => h9) rfl hin rfl (by decide +kernel) rfl rfl (Nat.le_of_ble_eq_true rfl) d_TL_init_55 (fun H locs hP hD hS => ?_)
  have hB : bk G.1 vwCl A [[(h0, .inr (4, [.ref bS, .ref bR, .ref q1, .ref q4, .ref q7, .ref q10, .int 0, .int 0, .null, .null, .null, .null, .null, .null]))], u2, u5, u8, u11] H := ⟨hP, hD⟩
  refine lv_aload_n hx hb d_TL_init_58 rfl (lv_at hl 0 rfl) ?_
  refine lv_iconst (v := (-1)) hx hb d_TL_init_59 (by decide) ?_
  refine va_put (D := G.1) (ci := 4) (v := .int (-1)) (ty := .int) (C := RTL) (T := TTL) (N := 14) hx hb hts inTL tyTL tokTL nmTL hown hK hB.1 hB.2 hS 0 rfl rfl 6 (by decide) (hts _ fl_TL_39) (fun _ h9 => h9) rfl (by decide +kernel) rfl rfl (Nat.le_of_ble_eq_true rfl) d_TL_init_60 (fun H locs hP hD hS => ?_)
  have hB : bk G.1 vwCl A [[(h0, .inr (4, [.ref bS, .ref bR, .ref q1, .ref q4, .ref q7, .ref q10, .int (-1), .int 0, .null, .null, .null, .null, .null, .null]))], u2, u5, u8, u11] H := ⟨hP, hD⟩
  refine lv_aload_n hx hb d_TL_init_63 rfl (lv_at hl 0 rfl) ?_
  refine lv_iconst (v := 0) hx hb d_TL_init_64 (by decide) ?_
  refine va_put (D := G.1) (ci := 4) (v := .int 0) (ty := .int) (C := RTL) (T := TTL) (N := 14) hx hb hts inTL tyTL tokTL nmTL hown hK hB.1 hB.2 hS 0 rfl rfl 7 (by decide) (hts _ fl_TL_43) (fun _ h9 => h9) rfl (by decide +kernel) rfl rfl (Nat.le_of_ble_eq_true rfl) d_TL_init_65 (fun H locs hP hD hS => ?_)
  have hB : bk G.1 vwCl A [[(h0, .inr (4, [.ref bS, .ref bR, .ref q1, .ref q4, .ref q7, .ref q10, .int (-1), .int 0, .null, .null, .null, .null, .null, .null]))], u2, u5, u8, u11] H := ⟨hP, hD⟩
  refine lv_aload_n hx hb d_TL_init_68 rfl (lv_at hl 0 rfl) ?_
  refine va_new (ci := 0) (fs := [.null, .int 0]) (C := RIL) (T := TIL) (N := 2) hx hb hts inIL tyIL tokIL hown (hts _ cl_TL_19) (hts _ ist_IL) (hts _ ini_IL) hK hB.1 hB.2 hS hA rfl (fun j hj => by rcases (show j = 0 ∨ j = 1 by omega) with rfl | rfl <;> rfl) (Nat.le_of_ble_eq_true rfl) (Nat.le_of_ble_eq_true rfl) d_TL_init_69 (fun q14 H hP hD hS => ?_)
  have hB : bk G.1 vwCl A [[(h0, .inr (4, [.ref bS, .ref bR, .ref q1, .ref q4, .ref q7, .ref q10, .int (-1), .int 0, .null, .null, .null, .null, .null, .null]))], u2, u5, u8, u11, [(q14, .inr (0, [.null, .int 0]))]] H := bk_push ⟨hP, hD⟩
  refine W.widen (k := 75) (n := 75) (by decide) (by decide) ?_
  refine lv_dup hx hb d_TL_init_72 rfl ?_
  refine wrI (G := G) (k := 5) (As := []) (rest := [.ref q14, .ref h0]) (kc := 75) (K := 16) (rem := 90) (Kt := 181) ⟨hx, hb, hml, hown, hts⟩ (c_IL_init l G q14 _ _ (bk_gP (k := 5) hB.1 rfl) (bk_own (k := 5) hB rfl) rfl) (cwI 0 hts (gd_c k_IL_init) rfl rmK_c rmK_s (hts _ ini_IL) (hts _ ml_TL_21) (hts _ im_IL_init) rfl (by decide +kernel) ⟨Nat.le_of_ble_eq_true rfl, Nat.le_of_ble_eq_true rfl⟩) hK hS hA hB rfl rfl ⟨rfl, rfl⟩ rfl hl.1 (Nat.le_of_ble_eq_true rfl) d_TL_init_73 (fun u15 H locs kc hu16 hB hS hk => ?_)
  obtain rfl : kc = 91 := by omega
  have hB : bk G.1 vwCl A [[(h0, .inr (4, [.ref bS, .ref bR, .ref q1, .ref q4, .ref q7, .ref q10, .int (-1), .int 0, .null, .null, .null, .null, .null, .null]))], u2, u5, u8, u11, u15] H := hB
  refine va_putF (D := G.1) (ci := 4) (v := .ref q14) (ty := .object "ProofPacker$IntList") (C := RTL) (T := TTL) (N := 14) hx hb hts inTL tyTL tokTL nmTL hown hK hB.1 hB.2 hS 0 rfl rfl 8 (by decide) (hts _ fl_TL_46) (fun _ h9 => h9) rfl hin rfl (by decide +kernel) rfl rfl (Nat.le_of_ble_eq_true rfl) d_TL_init_76 (fun H locs hP hD hS => ?_)
  have hB : bk G.1 vwCl A [[(h0, .inr (4, [.ref bS, .ref bR, .ref q1, .ref q4, .ref q7, .ref q10, .int (-1), .int 0, .ref q14, .null, .null, .null, .null, .null]))], u2, u5, u8, u11, u15] H := ⟨hP, hD⟩
  refine lv_aload_n hx hb d_TL_init_79 rfl (lv_at hl 0 rfl) ?_
  refine va_new (ci := 0) (fs := [.null, .int 0]) (C := RIL) (T := TIL) (N := 2) hx hb hts inIL tyIL tokIL hown (hts _ cl_TL_19) (hts _ ist_IL) (hts _ ini_IL) hK hB.1 hB.2 hS hA rfl (fun j hj => by rcases (show j = 0 ∨ j = 1 by omega) with rfl | rfl <;> rfl) (Nat.le_of_ble_eq_true rfl) (Nat.le_of_ble_eq_true rfl) d_TL_init_80 (fun q17 H hP hD hS => ?_)
  have hB : bk G.1 vwCl A [[(h0, .inr (4, [.ref bS, .ref bR, .ref q1, .ref q4, .ref q7, .ref q10, .int (-1), .int 0, .ref q14, .null, .null, .null, .null, .null]))], u2, u5, u8, u11, u15, [(q17, .inr (0, [.null, .int 0]))]] H := bk_push ⟨hP, hD⟩
  refine W.widen (k := 93) (n := 93) (by decide) (by decide) ?_
  refine lv_dup hx hb d_TL_init_83 rfl ?_
  refine wrI (G := G) (k := 6) (As := []) (rest := [.ref q17, .ref h0]) (kc := 93) (K := 16) (rem := 72) (Kt := 181) ⟨hx, hb, hml, hown, hts⟩ (c_IL_init l G q17 _ _ (bk_gP (k := 6) hB.1 rfl) (bk_own (k := 6) hB rfl) rfl) (cwI 0 hts (gd_c k_IL_init) rfl rmK_c rmK_s (hts _ ini_IL) (hts _ ml_TL_21) (hts _ im_IL_init) rfl (by decide +kernel) ⟨Nat.le_of_ble_eq_true rfl, Nat.le_of_ble_eq_true rfl⟩) hK hS hA hB rfl rfl ⟨rfl, rfl⟩ rfl hl.1 (Nat.le_of_ble_eq_true rfl) d_TL_init_84 (fun u18 H locs kc hu19 hB hS hk => ?_)
  obtain rfl : kc = 109 := by omega
  have hB : bk G.1 vwCl A [[(h0, .inr (4, [.ref bS, .ref bR, .ref q1, .ref q4, .ref q7, .ref q10, .int (-1), .int 0, .ref q14, .null, .null, .null, .null, .null]))], u2, u5, u8, u11, u15, u18] H := hB
  refine va_putF (D := G.1) (ci := 4) (v := .ref q17) (ty := .object "ProofPacker$IntList") (C := RTL) (T := TTL) (N := 14) hx hb hts inTL tyTL tokTL nmTL hown hK hB.1 hB.2 hS 0 rfl rfl 9 (by decide) (hts _ fl_TL_49) (fun _ h9 => h9) rfl hin rfl (by decide +kernel) rfl rfl (Nat.le_of_ble_eq_true rfl) d_TL_init_87 (fun H locs hP hD hS => ?_)
  have hB : bk G.1 vwCl A [[(h0, .inr (4, [.ref bS, .ref bR, .ref q1, .ref q4, .ref q7, .ref q10, .int (-1), .int 0, .ref q14, .ref q17, .null, .null, .null, .null]))], u2, u5, u8, u11, u15, u18] H := ⟨hP, hD⟩
  refine lv_aload_n hx hb d_TL_init_90 rfl (lv_at hl 0 rfl) ?_
  refine va_new (ci := 0) (fs := [.null, .int 0]) (C := RIL) (T := TIL) (N := 2) hx hb hts inIL tyIL tokIL hown (hts _ cl_TL_19) (hts _ ist_IL) (hts _ ini_IL) hK hB.1 hB.2 hS hA rfl (fun j hj => by rcases (show j = 0 ∨ j = 1 by omega) with rfl | rfl <;> rfl) (Nat.le_of_ble_eq_true rfl) (Nat.le_of_ble_eq_true rfl) d_TL_init_91 (fun q20 H hP hD hS => ?_)
  have hB : bk G.1 vwCl A [[(h0, .inr (4, [.ref bS, .ref bR, .ref q1, .ref q4, .ref q7, .ref q10, .int (-1), .int 0, .ref q14, .ref q17, .null, .null, .null, .null]))], u2, u5, u8, u11, u15, u18, [(q20, .inr (0, [.null, .int 0]))]] H := bk_push ⟨hP, hD⟩
  refine W.widen (k := 111) (n := 111) (by decide) (by decide) ?_
  refine lv_dup hx hb d_TL_init_94 rfl ?_
  refine wrI (G := G) (k := 7) (As := []) (rest := [.ref q20, .ref h0]) (kc := 111) (K := 16) (rem := 54) (Kt := 181) ⟨hx, hb, hml, hown, hts⟩ (c_IL_init l G q20 _ _ (bk_gP (k := 7) hB.1 rfl) (bk_own (k := 7) hB rfl) rfl) (cwI 0 hts (gd_c k_IL_init) rfl rmK_c rmK_s (hts _ ini_IL) (hts _ ml_TL_21) (hts _ im_IL_init) rfl (by decide +kernel) ⟨Nat.le_of_ble_eq_true rfl, Nat.le_of_ble_eq_true rfl⟩) hK hS hA hB rfl rfl ⟨rfl, rfl⟩ rfl hl.1 (Nat.le_of_ble_eq_true rfl) d_TL_init_95 (fun u21 H locs kc hu22 hB hS hk => ?_)
  obtain rfl : kc = 127 := by omega
  have hB : bk G.1 vwCl A [[(h0, .inr (4, [.ref bS, .ref bR, .ref q1, .ref q4, .ref q7, .ref q10, .int (-1), .int 0, .ref q14, .ref q17, .null, .null, .null, .null]))], u2, u5, u8, u11, u15, u18, u21] H := hB
  refine va_putF (D := G.1) (ci := 4) (v := .ref q20) (ty := .object "ProofPacker$IntList") (C := RTL) (T := TTL) (N := 14) hx hb hts inTL tyTL tokTL nmTL hown hK hB.1 hB.2 hS 0 rfl rfl 10 (by decide) (hts _ fl_TL_52) (fun _ h9 => h9) rfl hin rfl (by decide +kernel) rfl rfl (Nat.le_of_ble_eq_true rfl) d_TL_init_98 (fun H locs hP hD hS => ?_)
  have hB : bk G.1 vwCl A [[(h0, .inr (4, [.ref bS, .ref bR, .ref q1, .ref q4, .ref q7, .ref q10, .int (-1), .int 0, .ref q14, .ref q17, .ref q20, .null, .null, .null]))], u2, u5, u8, u11, u15, u18, u21] H := ⟨hP, hD⟩
  refine lv_aload_n hx hb d_TL_init_101 rfl (lv_at hl 0 rfl) ?_
  refine va_new (ci := 0) (fs := [.null, .int 0]) (C := RIL) (T := TIL) (N := 2) hx hb hts inIL tyIL tokIL hown (hts _ cl_TL_19) (hts _ ist_IL) (hts _ ini_IL) hK hB.1 hB.2 hS hA rfl (fun j hj => by rcases (show j = 0 ∨ j = 1 by omega) with rfl | rfl <;> rfl) (Nat.le_of_ble_eq_true rfl) (Nat.le_of_ble_eq_true rfl) d_TL_init_102 (fun q23 H hP hD hS => ?_)
  have hB : bk G.1 vwCl A [[(h0, .inr (4, [.ref bS, .ref bR, .ref q1, .ref q4, .ref q7, .ref q10, .int (-1), .int 0, .ref q14, .ref q17, .ref q20, .null, .null, .null]))], u2, u5, u8, u11, u15, u18, u21, [(q23, .inr (0, [.null, .int 0]))]] H := bk_push ⟨hP, hD⟩
  refine W.widen (k := 129) (n := 129) (by decide) (by decide) ?_
  refine lv_dup hx hb d_TL_init_105 rfl ?_
  refine wrI (G := G) (k := 8) (As := []) (rest := [.ref q23, .ref h0]) (kc := 129) (K := 16) (rem := 36) (Kt := 181) ⟨hx, hb, hml, hown, hts⟩ (c_IL_init l G q23 _ _ (bk_gP (k := 8) hB.1 rfl) (bk_own (k := 8) hB rfl) rfl) (cwI 0 hts (gd_c k_IL_init) rfl rmK_c rmK_s (hts _ ini_IL) (hts _ ml_TL_21) (hts _ im_IL_init) rfl (by decide +kernel) ⟨Nat.le_of_ble_eq_true rfl, Nat.le_of_ble_eq_true rfl⟩) hK hS hA hB rfl rfl ⟨rfl, rfl⟩ rfl hl.1 (Nat.le_of_ble_eq_true rfl) d_TL_init_106 (fun u24 H locs kc hu25 hB hS hk => ?_)
  obtain rfl : kc = 145 := by omega
  have hB : bk G.1 vwCl A [[(h0, .inr (4, [.ref bS, .ref bR, .ref q1, .ref q4, .ref q7, .ref q10, .int (-1), .int 0, .ref q14, .ref q17, .ref q20, .null, .null, .null]))], u2, u5, u8, u11, u15, u18, u21, u24] H := hB
  refine va_putF (D := G.1) (ci := 4) (v := .ref q23) (ty := .object "ProofPacker$IntList") (C := RTL) (T := TTL) (N := 14) hx hb hts inTL tyTL tokTL nmTL hown hK hB.1 hB.2 hS 0 rfl rfl 11 (by decide) (hts _ fl_TL_55) (fun _ h9 => h9) rfl hin rfl (by decide +kernel) rfl rfl (Nat.le_of_ble_eq_true rfl) d_TL_init_109 (fun H locs hP hD hS => ?_)
  have hB : bk G.1 vwCl A [[(h0, .inr (4, [.ref bS, .ref bR, .ref q1, .ref q4, .ref q7, .ref q10, .int (-1), .int 0, .ref q14, .ref q17, .ref q20, .ref q23, .null, .null]))], u2, u5, u8, u11, u15, u18, u21, u24] H := ⟨hP, hD⟩
  refine lv_aload_n hx hb d_TL_init_112 rfl (lv_at hl 0 rfl) ?_
  refine va_new (ci := 0) (fs := [.null, .int 0]) (C := RIL) (T := TIL) (N := 2) hx hb hts inIL tyIL tokIL hown (hts _ cl_TL_19) (hts _ ist_IL) (hts _ ini_IL) hK hB.1 hB.2 hS hA rfl (fun j hj => by rcases (show j = 0 ∨ j = 1 by omega) with rfl | rfl <;> rfl) (Nat.le_of_ble_eq_true rfl) (Nat.le_of_ble_eq_true rfl) d_TL_init_113 (fun q26 H hP hD hS => ?_)
  have hB : bk G.1 vwCl A [[(h0, .inr (4, [.ref bS, .ref bR, .ref q1, .ref q4, .ref q7, .ref q10, .int (-1), .int 0, .ref q14, .ref q17, .ref q20, .ref q23, .null, .null]))], u2, u5, u8, u11, u15, u18, u21, u24, [(q26, .inr (0, [.null, .int 0]))]] H := bk_push ⟨hP, hD⟩
  refine W.widen (k := 147) (n := 147) (by decide) (by decide) ?_
  refine lv_dup hx hb d_TL_init_116 rfl ?_
  refine wrI (G := G) (k := 9) (As := []) (rest := [.ref q26, .ref h0]) (kc := 147) (K := 16) (rem := 18) (Kt := 181) ⟨hx, hb, hml, hown, hts⟩ (c_IL_init l G q26 _ _ (bk_gP (k := 9) hB.1 rfl) (bk_own (k := 9) hB rfl) rfl) (cwI 0 hts (gd_c k_IL_init) rfl rmK_c rmK_s (hts _ ini_IL) (hts _ ml_TL_21) (hts _ im_IL_init) rfl (by decide +kernel) ⟨Nat.le_of_ble_eq_true rfl, Nat.le_of_ble_eq_true rfl⟩) hK hS hA hB rfl rfl ⟨rfl, rfl⟩ rfl hl.1 (Nat.le_of_ble_eq_true rfl) d_TL_init_117 (fun u27 H locs kc hu28 hB hS hk => ?_)
  obtain rfl : kc = 163 := by omega
  have hB : bk G.1 vwCl A [[(h0, .inr (4, [.ref bS, .ref bR, .ref q1, .ref q4, .ref q7, .ref q10, .int (-1), .int 0, .ref q14, .ref q17, .ref q20, .ref q23, .null, .null]))], u2, u5, u8, u11, u15, u18, u21, u24, u27] H := hB
  refine va_putF (D := G.1) (ci := 4) (v := .ref q26) (ty := .object "ProofPacker$IntList") (C := RTL) (T := TTL) (N := 14) hx hb hts inTL tyTL tokTL nmTL hown hK hB.1 hB.2 hS 0 rfl rfl 12 (by decide) (hts _ fl_TL_58) (fun _ h9 => h9) rfl hin rfl (by decide +kernel) rfl rfl (Nat.le_of_ble_eq_true rfl) d_TL_init_120 (fun H locs hP hD hS => ?_)
  have hB : bk G.1 vwCl A [[(h0, .inr (4, [.ref bS, .ref bR, .ref q1, .ref q4, .ref q7, .ref q10, .int (-1), .int 0, .ref q14, .ref q17, .ref q20, .ref q23, .ref q26, .null]))], u2, u5, u8, u11, u15, u18, u21, u24, u27] H := ⟨hP, hD⟩
  refine lv_aload_n hx hb d_TL_init_123 rfl (lv_at hl 0 rfl) ?_
  refine va_new (ci := 0) (fs := [.null, .int 0]) (C := RIL) (T := TIL) (N := 2) hx hb hts inIL tyIL tokIL hown (hts _ cl_TL_19) (hts _ ist_IL) (hts _ ini_IL) hK hB.1 hB.2 hS hA rfl (fun j hj => by rcases (show j = 0 ∨ j = 1 by omega) with rfl | rfl <;> rfl) (Nat.le_of_ble_eq_true rfl) (Nat.le_of_ble_eq_true rfl) d_TL_init_124 (fun q29 H hP hD hS => ?_)
  have hB : bk G.1 vwCl A [[(h0, .inr (4, [.ref bS, .ref bR, .ref q1, .ref q4, .ref q7, .ref q10, .int (-1), .int 0, .ref q14, .ref q17, .ref q20, .ref q23, .ref q26, .null]))], u2, u5, u8, u11, u15, u18, u21, u24, u27, [(q29, .inr (0, [.null, .int 0]))]] H := bk_push ⟨hP, hD⟩
  refine W.widen (k := 165) (n := 165) (by decide) (by decide) ?_
  refine lv_dup hx hb d_TL_init_127 rfl ?_
  refine wrI (G := G) (k := 10) (As := []) (rest := [.ref q29, .ref h0]) (kc := 165) (K := 16) (rem := 0) (Kt := 181) ⟨hx, hb, hml, hown, hts⟩ (c_IL_init l G q29 _ _ (bk_gP (k := 10) hB.1 rfl) (bk_own (k := 10) hB rfl) rfl) (cwI 0 hts (gd_c k_IL_init) rfl rmK_c rmK_s (hts _ ini_IL) (hts _ ml_TL_21) (hts _ im_IL_init) rfl (by decide +kernel) ⟨Nat.le_of_ble_eq_true rfl, Nat.le_of_ble_eq_true rfl⟩) hK hS hA hB rfl rfl ⟨rfl, rfl⟩ rfl hl.1 (Nat.le_of_ble_eq_true rfl) d_TL_init_128 (fun u30 H locs kc hu31 hB hS hk => ?_)
  obtain rfl : kc = 181 := by omega
  have hB : bk G.1 vwCl A [[(h0, .inr (4, [.ref bS, .ref bR, .ref q1, .ref q4, .ref q7, .ref q10, .int (-1), .int 0, .ref q14, .ref q17, .ref q20, .ref q23, .ref q26, .null]))], u2, u5, u8, u11, u15, u18, u21, u24, u27, u30] H := hB
  refine va_putF (D := G.1) (ci := 4) (v := .ref q29) (ty := .object "ProofPacker$IntList") (C := RTL) (T := TTL) (N := 14) hx hb hts inTL tyTL tokTL nmTL hown hK hB.1 hB.2 hS 0 rfl rfl 13 (by decide) (hts _ fl_TL_61) (fun _ h9 => h9) rfl hin rfl (by decide +kernel) rfl rfl (Nat.le_of_ble_eq_true rfl) d_TL_init_131 (fun H locs hP hD hS => ?_)
  have hB : bk G.1 vwCl A [[(h0, .inr (4, [.ref bS, .ref bR, .ref q1, .ref q4, .ref q7, .ref q10, .int (-1), .int 0, .ref q14, .ref q17, .ref q20, .ref q23, .ref q26, .ref q29]))], u2, u5, u8, u11, u15, u18, u21, u24, u27, u30] H := ⟨hP, hD⟩
  exact W.vret hx hb hr (fun t ht hW => ⟨⟨[[(h0, .inr (4, [.ref bS, .ref bR, .ref q1, .ref q4, .ref q7, .ref q10, .int (-1), .int 0, .ref q14, .ref q17, .ref q20, .ref q23, .ref q26, .ref q29]))], u2, u5, u8, u11, u15, u18, u21, u24, u27, u30].flatten, rfl, ⟨(fun i => [q1, q4, q7, q10, q14, q17, q20, q23, q26, q29].getD i 0), ad13, u2, u5, u8, u11, u15, u18, u21, u24, u27, u30, rfl, hu3, hu6, hu9, hu12, hu16, hu19, hu22, hu25, hu28, hu31⟩, by rw [ht]; exact hB.1, hB.2⟩, hS.F ht⟩) hS.2.2 d_TL_init_134

def iPP : tPP := (iST, iRW, iTL, ([], 16), 0)
set_option maxHeartbeats 4000000 in
set_option maxRecDepth 100000 in
theorem c_PP_init (l : Launch) (G : pG) (h0 : Nat) (H : Heap) (w : va_W) (hP0 : va_P G.1 vwCl w H) (hD0 : va_D (fun _ => True) w) (hσ : w = [(h0, .inr (5, [.null, .null, .null, .null, .int 0]))]) : MWv l y_PP_init w_PP_init 4 123 915 G [.ref h0] H w (fun u => ∃ (ad : Nat → Nat) (adS : Nat → Nat) (adR : Nat → Nat) (adT : Nat → Nat) (adL : Nat → Nat), pPP G h0 ad adS adR adT adL iPP u) := by
  refine Met.ofW (cc := b_PP_init) (maxL := 1) (ret := none) (by decide) rfl ?_
  intro p e s m args below meth c s₁ B hml hv
  obtain ⟨rfl, rfl, hK⟩ := hv
  have hx := B.exec
  have hb := B.bytes
  have hr := B.returns
  have hts0 := atoms_spec (ws := w_PP_init) B.pre
  have hts := fun w (h : w ∈ lw_g) => hts0 w (List.mem_cons_of_mem _ h)
  have hown : s.vm.findClass RPP = some m.cls := findClass_of_methodNamed B.named
  have hlocks := B.notSynchronized
  have hA : ∀ q : Nat, s.heap.size ≤ q → va_A w s.heap.size q := fun _ h => Or.inr h
  have hB : bk G.1 vwCl (va_A w s.heap.size) [w] s.heap := bk_init hP0 hD0
  generalize va_A w s.heap.size = A at *
  have hS : va_S A s.heap s.heap [] := va_S.rf
  subst hσ
  have hB : bk G.1 vwCl A [[(h0, .inr (5, [.null, .null, .null, .null, .int 0]))]] s.heap := hB
  have hin : meth.name = "<init>" := (name_of_methodNamed B.named B.method).1
  have hl := lv_entry ([.ref h0]) (n := 1) (Nat.le_of_ble_eq_true rfl)
  rw [lg_entry_eq]
  generalize (lg_sl ([.ref h0]) ++ List.replicate (1 - (lg_sl ([.ref h0])).length) Slot.unset).toArray = ls at hl ⊢
  have hl : lv_has ls 1 [(0, .ref h0)] := hl
  refine lv_aload_n hx hb d_PP_init_0 rfl (lv_at hl 0 rfl) ?_
  refine W.objInit hx hb hown (hts _ ml_PP_1) (hts _ im_obj_init) (hts _ k_obj_init) rfl (by rw [hml]; exact hl.1) rfl d_PP_init_1 (Nat.le_of_ble_eq_true rfl) (Nat.le_of_ble_eq_true rfl) ?_
  refine W.eq (g2 := F0 m 4 ls []) rfl ?_
  refine lv_aload_n hx hb d_PP_init_4 rfl (lv_at hl 0 rfl) ?_
  refine va_new (ci := 3) (fs := [.null, .null, .int 0]) (C := RST) (T := TST) (N := 3) hx hb hts inST tyST tokST hown (hts _ cl_PP_7) (hts _ ist_ST) (hts _ ini_ST) hK hB.1 hB.2 hS hA rfl (fun j hj => by rcases (show j = 0 ∨ j = 1 ∨ j = 2 by omega) with rfl | rfl | rfl <;> rfl) (Nat.le_of_ble_eq_true rfl) (Nat.le_of_ble_eq_true rfl) d_PP_init_5 (fun q1 H hP hD hS => ?_)
  have hB : bk G.1 vwCl A [[(h0, .inr (5, [.null, .null, .null, .null, .int 0]))], [(q1, .inr (3, [.null, .null, .int 0]))]] H := bk_push ⟨hP, hD⟩
  refine W.widen (k := 3) (n := 3) (by decide) (by decide) ?_
  refine lv_dup hx hb d_PP_init_8 rfl ?_
  refine wrI (G := G) (k := 1) (As := []) (rest := [.ref q1, .ref h0]) (kc := 3) (K := 36) (rem := 876) (Kt := 915) ⟨hx, hb, hml, hown, hts⟩ (c_ST_init l G q1 _ _ (bk_gP (k := 1) hB.1 rfl) (bk_own (k := 1) hB rfl) rfl) (cwI 0 hts (gd_c k_ST_init) rfl rmK_c rmK_s (hts _ ini_ST) (hts _ ml_PP_9) (hts _ im_ST_init) rfl (by decide +kernel) ⟨Nat.le_of_ble_eq_true rfl, Nat.le_of_ble_eq_true rfl⟩) hK hS hA hB rfl rfl ⟨rfl, rfl⟩ rfl hl.1 (Nat.le_of_ble_eq_true rfl) d_PP_init_9 (fun u2 H locs kc hu3 hB hS hk => ?_)
  obtain rfl : kc = 39 := by omega
  obtain ⟨ad4, hu3⟩ := hu3
  have hB : bk G.1 vwCl A [[(h0, .inr (5, [.null, .null, .null, .null, .int 0]))], u2] H := hB
  refine va_putF (D := G.1) (ci := 5) (v := .ref q1) (ty := .object "ProofPacker$Statements") (C := RPP) (T := TPP) (N := 5) hx hb hts inPP tyPP tokPP nmPP hown hK hB.1 hB.2 hS 0 rfl rfl 0 (by decide) (hts _ fl_PP_10) (fun _ h9 => h9) rfl hin rfl (by decide +kernel) rfl rfl (Nat.le_of_ble_eq_true rfl) d_PP_init_12 (fun H locs hP hD hS => ?_)
  have hB : bk G.1 vwCl A [[(h0, .inr (5, [.ref q1, .null, .null, .null, .int 0]))], u2] H := ⟨hP, hD⟩
  refine lv_aload_n hx hb d_PP_init_15 rfl (lv_at hl 0 rfl) ?_
  refine va_new (ci := 2) (fs := [.null, .null, .null, .null, .null, .null, .null, .null, .null]) (C := RRW) (T := TRW) (N := 9) hx hb hts inRW tyRW tokRW hown (hts _ cl_PP_16) (hts _ ist_RW) (hts _ ini_RW) hK hB.1 hB.2 hS hA rfl (fun j hj => by rcases (show j = 0 ∨ j = 1 ∨ j = 2 ∨ j = 3 ∨ j = 4 ∨ j = 5 ∨ j = 6 ∨ j = 7 ∨ j = 8 by omega) with rfl | rfl | rfl | rfl | rfl | rfl | rfl | rfl | rfl <;> rfl) (Nat.le_of_ble_eq_true rfl) (Nat.le_of_ble_eq_true rfl) d_PP_init_16 (fun q5 H hP hD hS => ?_)
  have hB : bk G.1 vwCl A [[(h0, .inr (5, [.ref q1, .null, .null, .null, .int 0]))], u2, [(q5, .inr (2, [.null, .null, .null, .null, .null, .null, .null, .null, .null]))]] H := bk_push ⟨hP, hD⟩
  refine W.widen (k := 48) (n := 48) (by decide) (by decide) ?_
  refine lv_dup hx hb d_PP_init_19 rfl ?_
  refine wrI (G := G) (k := 2) (As := []) (rest := [.ref q5, .ref h0]) (kc := 48) (K := 654) (rem := 213) (Kt := 915) ⟨hx, hb, hml, hown, hts⟩ (c_RW_init l G q5 _ _ (bk_gP (k := 2) hB.1 rfl) (bk_own (k := 2) hB rfl) rfl) (cwI 0 hts (gd_c k_RW_init) rfl rmK_c rmK_s (hts _ ini_RW) (hts _ ml_PP_18) (hts _ im_RW_init) rfl (by decide +kernel) ⟨Nat.le_of_ble_eq_true rfl, Nat.le_of_ble_eq_true rfl⟩) hK hS hA hB rfl rfl ⟨rfl, rfl⟩ rfl hl.1 (Nat.le_of_ble_eq_true rfl) d_PP_init_20 (fun u6 H locs kc hu7 hB hS hk => ?_)
  obtain rfl : kc = 702 := by omega
  obtain ⟨ad8, hu7⟩ := hu7
  have hB : bk G.1 vwCl A [[(h0, .inr (5, [.ref q1, .null, .null, .null, .int 0]))], u2, u6] H := hB
  refine va_putF (D := G.1) (ci := 5) (v := .ref q5) (ty := .object "ProofPacker$Rows") (C := RPP) (T := TPP) (N := 5) hx hb hts inPP tyPP tokPP nmPP hown hK hB.1 hB.2 hS 0 rfl rfl 1 (by decide) (hts _ fl_PP_19) (fun _ h9 => h9) rfl hin rfl (by decide +kernel) rfl rfl (Nat.le_of_ble_eq_true rfl) d_PP_init_23 (fun H locs hP hD hS => ?_)
  have hB : bk G.1 vwCl A [[(h0, .inr (5, [.ref q1, .ref q5, .null, .null, .int 0]))], u2, u6] H := ⟨hP, hD⟩
  refine lv_aload_n hx hb d_PP_init_26 rfl (lv_at hl 0 rfl) ?_
  refine va_new (ci := 4) (fs := [.null, .null, .null, .null, .null, .null, .int 0, .int 0, .null, .null, .null, .null, .null, .null]) (C := RTL) (T := TTL) (N := 14) hx hb hts inTL tyTL tokTL hown (hts _ cl_PP_23) (hts _ ist_TL) (hts _ ini_TL) hK hB.1 hB.2 hS hA rfl (fun j hj => by rcases (show j = 0 ∨ j = 1 ∨ j = 2 ∨ j = 3 ∨ j = 4 ∨ j = 5 ∨ j = 6 ∨ j = 7 ∨ j = 8 ∨ j = 9 ∨ j = 10 ∨ j = 11 ∨ j = 12 ∨ j = 13 by omega) with rfl | rfl | rfl | rfl | rfl | rfl | rfl | rfl | rfl | rfl | rfl | rfl | rfl | rfl <;> rfl) (Nat.le_of_ble_eq_true rfl) (Nat.le_of_ble_eq_true rfl) d_PP_init_27 (fun q9 H hP hD hS => ?_)
  have hB : bk G.1 vwCl A [[(h0, .inr (5, [.ref q1, .ref q5, .null, .null, .int 0]))], u2, u6, [(q9, .inr (4, [.null, .null, .null, .null, .null, .null, .int 0, .int 0, .null, .null, .null, .null, .null, .null]))]] H := bk_push ⟨hP, hD⟩
  refine W.widen (k := 716) (n := 716) (by decide) (by decide) ?_
  refine lv_dup hx hb d_PP_init_30 rfl ?_
  refine lv_aload_n hx hb d_PP_init_31 rfl (lv_at hl 0 rfl) ?_
  refine va_get (D := G.1) (ci := 5) (v := .ref q1) (C := RPP) (T := TPP) (N := 5) hx hb hts inPP hown hK hB.1 0 rfl rfl 0 (by decide) (hts _ fl_PP_10) (fun _ h9 => h9) rfl d_PP_init_32 ?_
  refine lv_aload_n hx hb d_PP_init_35 rfl (lv_at hl 0 rfl) ?_
  refine va_get (D := G.1) (ci := 5) (v := .ref q5) (C := RPP) (T := TPP) (N := 5) hx hb hts inPP hown hK hB.1 0 rfl rfl 1 (by decide) (hts _ fl_PP_19) (fun _ h9 => h9) rfl d_PP_init_36 ?_
  refine wrI (G := G) (k := 3) (As := [.ref q1, .ref q5]) (rest := [.ref q9, .ref h0]) (kc := 716) (K := 181) (rem := 18) (Kt := 915) ⟨hx, hb, hml, hown, hts⟩ (c_TL_init l G q9 q1 q5 _ _ (bk_gP (k := 3) hB.1 rfl) (bk_own (k := 3) hB rfl) rfl) (cwI 2 hts (gd_c k_TL_init) rfl rmK_c rmK_s (hts _ ini_TL) (hts _ ml_PP_25) (hts _ im_TL_init) rfl (by decide +kernel) ⟨Nat.le_of_ble_eq_true rfl, Nat.le_of_ble_eq_true rfl⟩) hK hS hA hB rfl rfl ⟨rfl, rfl⟩ rfl hl.1 (Nat.le_of_ble_eq_true rfl) d_PP_init_39 (fun u10 H locs kc hu11 hB hS hk => ?_)
  obtain rfl : kc = 897 := by omega
  obtain ⟨ad12, ad13, hu11⟩ := hu11
  have hB : bk G.1 vwCl A [[(h0, .inr (5, [.ref q1, .ref q5, .null, .null, .int 0]))], u2, u6, u10] H := hB
  refine va_putF (D := G.1) (ci := 5) (v := .ref q9) (ty := .object "ProofPacker$Telling") (C := RPP) (T := TPP) (N := 5) hx hb hts inPP tyPP tokPP nmPP hown hK hB.1 hB.2 hS 0 rfl rfl 2 (by decide) (hts _ fl_PP_28) (fun _ h9 => h9) rfl hin rfl (by decide +kernel) rfl rfl (Nat.le_of_ble_eq_true rfl) d_PP_init_42 (fun H locs hP hD hS => ?_)
  have hB : bk G.1 vwCl A [[(h0, .inr (5, [.ref q1, .ref q5, .ref q9, .null, .int 0]))], u2, u6, u10] H := ⟨hP, hD⟩
  refine lv_aload_n hx hb d_PP_init_45 rfl (lv_at hl 0 rfl) ?_
  refine va_new (ci := 0) (fs := [.null, .int 0]) (C := RIL) (T := TIL) (N := 2) hx hb hts inIL tyIL tokIL hown (hts _ cl_PP_32) (hts _ ist_IL) (hts _ ini_IL) hK hB.1 hB.2 hS hA rfl (fun j hj => by rcases (show j = 0 ∨ j = 1 by omega) with rfl | rfl <;> rfl) (Nat.le_of_ble_eq_true rfl) (Nat.le_of_ble_eq_true rfl) d_PP_init_46 (fun q14 H hP hD hS => ?_)
  have hB : bk G.1 vwCl A [[(h0, .inr (5, [.ref q1, .ref q5, .ref q9, .null, .int 0]))], u2, u6, u10, [(q14, .inr (0, [.null, .int 0]))]] H := bk_push ⟨hP, hD⟩
  refine W.widen (k := 899) (n := 899) (by decide) (by decide) ?_
  refine lv_dup hx hb d_PP_init_49 rfl ?_
  refine wrI (G := G) (k := 4) (As := []) (rest := [.ref q14, .ref h0]) (kc := 899) (K := 16) (rem := 0) (Kt := 915) ⟨hx, hb, hml, hown, hts⟩ (c_IL_init l G q14 _ _ (bk_gP (k := 4) hB.1 rfl) (bk_own (k := 4) hB rfl) rfl) (cwI 0 hts (gd_c k_IL_init) rfl rmK_c rmK_s (hts _ ini_IL) (hts _ ml_PP_34) (hts _ im_IL_init) rfl (by decide +kernel) ⟨Nat.le_of_ble_eq_true rfl, Nat.le_of_ble_eq_true rfl⟩) hK hS hA hB rfl rfl ⟨rfl, rfl⟩ rfl hl.1 (Nat.le_of_ble_eq_true rfl) d_PP_init_50 (fun u15 H locs kc hu16 hB hS hk => ?_)
  obtain rfl : kc = 915 := by omega
  have hB : bk G.1 vwCl A [[(h0, .inr (5, [.ref q1, .ref q5, .ref q9, .null, .int 0]))], u2, u6, u10, u15] H := hB
  refine va_putF (D := G.1) (ci := 5) (v := .ref q14) (ty := .object "ProofPacker$IntList") (C := RPP) (T := TPP) (N := 5) hx hb hts inPP tyPP tokPP nmPP hown hK hB.1 hB.2 hS 0 rfl rfl 3 (by decide) (hts _ fl_PP_35) (fun _ h9 => h9) rfl hin rfl (by decide +kernel) rfl rfl (Nat.le_of_ble_eq_true rfl) d_PP_init_53 (fun H locs hP hD hS => ?_)
  have hB : bk G.1 vwCl A [[(h0, .inr (5, [.ref q1, .ref q5, .ref q9, .ref q14, .int 0]))], u2, u6, u10, u15] H := ⟨hP, hD⟩
  refine lv_aload_n hx hb d_PP_init_56 rfl (lv_at hl 0 rfl) ?_
  refine lv_iconst (v := 0) hx hb d_PP_init_57 (by decide) ?_
  refine va_put (D := G.1) (ci := 5) (v := .int 0) (ty := .int) (C := RPP) (T := TPP) (N := 5) hx hb hts inPP tyPP tokPP nmPP hown hK hB.1 hB.2 hS 0 rfl rfl 4 (by decide) (hts _ fl_PP_39) (fun _ h9 => h9) rfl (by decide +kernel) rfl rfl (Nat.le_of_ble_eq_true rfl) d_PP_init_58 (fun H locs hP hD hS => ?_)
  have hB : bk G.1 vwCl A [[(h0, .inr (5, [.ref q1, .ref q5, .ref q9, .ref q14, .int 0]))], u2, u6, u10, u15] H := ⟨hP, hD⟩
  exact W.vret hx hb hr (fun t ht hW => ⟨⟨[[(h0, .inr (5, [.ref q1, .ref q5, .ref q9, .ref q14, .int 0]))], u2, u6, u10, u15].flatten, rfl, ⟨(fun i => [q1, q5, q9, q14].getD i 0), ad4, ad8, ad12, ad13, u2, u6, u10, u15, rfl, hu3, hu7, hu11, hu16⟩, by rw [ht]; exact hB.1, hB.2⟩, hS.F ht⟩) hS.2.2 d_PP_init_61
