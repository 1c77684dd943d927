theorem ac_known {s : State} {args : Array Value} {ty : FieldType} (h : (Cond.arrayClass ty).before args s = true) (hn : ∀ C, ty ≠ .object C) : ∃ cA : ClassId, ArrOfT s cA ty ∧ va_RA s cA ty := by
  obtain ⟨cA, kA, comp, hfind, hk, hkind⟩ := Cond.arrayClass_spec h
  refine ⟨cA, fun n z => ⟨fun k h => (by cases h), kA, hk, comp, hkind⟩, ?_⟩
  cases ty with
  | object C => exact absurd rfl (hn C)
  | _ => exact hfind

set_option maxHeartbeats 4000000 in
set_option maxRecDepth 100000 in
/-- THE LAW, from its entry, over what level B owes -/
theorem whole_open {p : Program} {e : Env} {s : State} {m : MethodId} {below : List Frame} {meth : Method} {c : Code} (l : Launch) {b L : Nat} {xs : Nat → Int32} (hL : L ≤ 1536) (C0 : lw_At p s m meth c b L xs) (Rel : Nat → tPP → tMD → Prop) (U : tPP → Nat) (hOK : LawOK Rel U) : W p l e room_1 s m #[Value.ref b] below meth c s.heap [] 0 0 (lw_Z below #[Value.ref b] s) (entryFrame m ([Value.ref b] : List Value).toArray 4) := by
  obtain ⟨hx, hb, hr, hml, hown, hts0, hX, hbl, hlocks, hgv⟩ := id C0
  have hts := fun w (h : w ∈ lw_g) => hts0 w (lw_gt h)
  have hown : s.vm.findClass RLW = some m.cls := hown
  have hA : ∀ q : Nat, s.heap.size ≤ q → (fun q : Nat => s.heap.size ≤ q) q := fun _ h => h
  obtain ⟨c0, iS0, hKn0⟩ := u_known (C := RIL) (T := TIL) (N := 2) (n := 2) hts inIL (hts _ ist_IL)
  obtain ⟨c1, iS1, hKn1⟩ := u_known (C := RLL) (T := TLL) (N := 1) (n := 1) hts inLL (hts _ ist_LL)
  obtain ⟨c2, iS2, hKn2⟩ := u_known (C := RRW) (T := TRW) (N := 9) (n := 9) hts inRW (hts _ ist_RW)
  obtain ⟨c3, iS3, hKn3⟩ := u_known (C := RST) (T := TST) (N := 3) (n := 3) hts inST (hts _ ist_ST)
  obtain ⟨c4, iS4, hKn4⟩ := u_known (C := RTL) (T := TTL) (N := 14) (n := 14) hts inTL (hts _ ist_TL)
  obtain ⟨c5, iS5, hKn5⟩ := u_known (C := RPP) (T := TPP) (N := 5) (n := 5) hts inPP (hts _ ist_PP)
  obtain ⟨c6, iS6, hKn6⟩ := u_known (C := RMD) (T := TMD) (N := 28) (n := 28) hts inMD (hts _ ist_MD)
  obtain ⟨cI, hcI⟩ := ac_known (hts _ arr_int) (by intro C h; cases h)
  obtain ⟨cJ, hcJ⟩ := ac_known (hts _ arr_long) (by intro C h; cases h)
  obtain ⟨cZ, hcZ⟩ := ac_known (hts _ arr_boolean) (by intro C h; cases h)
  obtain ⟨dC, dI, hKc⟩ : ∃ (dC : Nat → ClassId) (dI : Nat → Nat → Nat), ∀ (k : Nat) (q : vw_C), vwCl[k]? = some q → u_Kn s q.1 q.2.1 q.2.2 (dC k) (dI k) := by
    refine ⟨fun k => if k = 0 then c0 else if k = 1 then c1 else if k = 2 then c2 else if k = 3 then c3 else if k = 4 then c4 else if k = 5 then c5 else c6, fun k => if k = 0 then iS0 else if k = 1 then iS1 else if k = 2 then iS2 else if k = 3 then iS3 else if k = 4 then iS4 else if k = 5 then iS5 else iS6, ?_⟩
    intro k q hq
    match k, hq with
    | 0, hq => cases hq; exact hKn0
    | 1, hq => cases hq; exact hKn1
    | 2, hq => cases hq; exact hKn2
    | 3, hq => cases hq; exact hKn3
    | 4, hq => cases hq; exact hKn4
    | 5, hq => cases hq; exact hKn5
    | 6, hq => cases hq; exact hKn6
    | k + 7, hq => simp [vwCl] at hq
  obtain ⟨G, hG⟩ : ∃ G : pG, G = ((dC, dI), cI, cJ, cZ) := ⟨_, rfl⟩
  have hK : va_K G.1 vwCl (tyG G) s := by
    subst hG
    refine ⟨hKc, fun k q h => ?_⟩
    match k, h with
    | 0, h => cases h; exact hcI
    | 1, h => cases h; exact hcJ
    | 2, h => cases h; exact hcZ
    | k + 3, h => simp [tyG] at h
  have hS : va_S (fun q : Nat => s.heap.size ≤ q) s.heap s.heap [] := va_S.rf
  have hP : va_P G.1 vwCl [] s.heap := fun k q h => by simp at h
  have hD : va_D (fun q : Nat => s.heap.size ≤ q) [] := ⟨fun i j p q h => by simp at h, fun k q h => by simp at h⟩
  have hl := lv_entry ([.ref b]) (n := 4) (Nat.le_of_ble_eq_true rfl)
  rw [lg_entry_eq]
  generalize (lg_sl ([.ref b]) ++ List.replicate (4 - (lg_sl ([.ref b])).length) Slot.unset).toArray = ls at hl ⊢
  have hl : lv_has ls 4 [(0, .ref b)] := hl
  refine va_new (ci := 5) (fs := [.null, .null, .null, .null, .int 0]) (C := RPP) (T := TPP) (N := 5) hx hb hts inPP tyPP tokPP hown (hts _ cl_LW_7) (hts _ ist_PP) (hts _ ini_PP) hK hP hD hS hA rfl (fun j hj => by rcases (show j = 0 ∨ j = 1 ∨ j = 2 ∨ j = 3 ∨ j = 4 by omega) with rfl | rfl | rfl | rfl | rfl <;> rfl) (Nat.le_of_ble_eq_true rfl) (Nat.le_of_ble_eq_true rfl) d_LW_law_0 (fun q0 H hP hD hS => ?_)
  have hB : bk G.1 vwCl (fun q : Nat => s.heap.size ≤ q) [[(q0, .inr (5, [.null, .null, .null, .null, .int 0]))]] H := ⟨hP, hD⟩
  refine W.widen (k := 5) (n := 5) (by decide) (by decide) ?_
  refine lv_dup hx hb d_LW_law_3 rfl ?_
  refine wrLI (G := G) (k := 0) (K := 915) (As := []) (rest := [.ref q0]) ⟨hx, hb, hml, hown, hts⟩ (c_PP_init l G q0 _ _ (bk_gP (k := 0) hB.1 rfl) (bk_own (k := 0) hB rfl) rfl) (cwI 0 hts (gd_c k_PP_init) rfl rmK_c rmK_s (hts _ ini_PP) (hts _ ml_LW_9) (hts _ im_PP_init) rfl (by decide +kernel) ⟨Nat.le_of_ble_eq_true rfl, Nat.le_of_ble_eq_true rfl⟩) hK hS hA hB rfl (lw_rm (by decide)) rfl hl.1 (Nat.le_of_ble_eq_true rfl) d_LW_law_4 (fun u0 H locs hp hB hS => ?_)
  obtain ⟨ad, adS, adR, adT, adL, hp⟩ := hp
  have hB : bk G.1 vwCl (fun q : Nat => s.heap.size ≤ q) [u0] H := hB
  refine lv_astore_n (lv' := [(1, .ref q0), (0, .ref b)]) hx hb d_LW_law_7 rfl hl (by decide) rfl (fun ls hl => ?_)
  refine va_new (ci := 6) (fs := [.int 0, .null, .null, .int 0, .int 0, .null, .null, .null, .null, .null, .int 0, .null, .int 0, .int 0, .int 0, .null, .null, .null, .null, .null, .int 0, .null, .int 0, .null, .int 0, .null, .null, .null]) (C := RMD) (T := TMD) (N := 28) hx hb hts inMD tyMD tokMD hown (hts _ cl_LW_10) (hts _ ist_MD) (hts _ ini_MD) hK hB.1 hB.2 hS hA rfl (fun j hj => by rcases (show j = 0 ∨ j = 1 ∨ j = 2 ∨ j = 3 ∨ j = 4 ∨ j = 5 ∨ j = 6 ∨ j = 7 ∨ j = 8 ∨ j = 9 ∨ j = 10 ∨ j = 11 ∨ j = 12 ∨ j = 13 ∨ j = 14 ∨ j = 15 ∨ j = 16 ∨ j = 17 ∨ j = 18 ∨ j = 19 ∨ j = 20 ∨ j = 21 ∨ j = 22 ∨ j = 23 ∨ j = 24 ∨ j = 25 ∨ j = 26 ∨ j = 27 by omega) with rfl | rfl | rfl | rfl | rfl | rfl | rfl | rfl | rfl | rfl | rfl | rfl | rfl | rfl | rfl | rfl | rfl | rfl | rfl | rfl | rfl | rfl | rfl | rfl | rfl | rfl | rfl | rfl <;> rfl) (Nat.le_of_ble_eq_true rfl) (Nat.le_of_ble_eq_true rfl) d_LW_law_8 (fun q1 H hP hD hS => ?_)
  have hB : bk G.1 vwCl (fun q : Nat => s.heap.size ≤ q) [u0, [(q1, .inr (6, [.int 0, .null, .null, .int 0, .int 0, .null, .null, .null, .null, .null, .int 0, .null, .int 0, .int 0, .int 0, .null, .null, .null, .null, .null, .int 0, .null, .int 0, .null, .int 0, .null, .null, .null]))]] H := bk_push ⟨hP, hD⟩
  refine W.widen (k := 948) (n := 948) (by decide) (by decide) ?_
  refine lv_dup hx hb d_LW_law_11 rfl ?_
  refine wrLI (G := G) (k := 1) (K := 257362) (As := []) (rest := [.ref q1]) ⟨hx, hb, hml, hown, hts⟩ (c_MD_init l G q1 _ _ (bk_gP (k := 1) hB.1 rfl) (bk_own (k := 1) hB rfl) rfl) (cwI 0 hts (gd_c k_MD_init) rfl rmK_c rmK_s (hts _ ini_MD) (hts _ ml_LW_12) (hts _ im_MD_init) rfl (by decide +kernel) ⟨Nat.le_of_ble_eq_true rfl, Nat.le_of_ble_eq_true rfl⟩) hK hS hA hB rfl (lw_rm (by decide)) rfl hl.1 (Nat.le_of_ble_eq_true rfl) d_LW_law_12 (fun u1 H locs hm hB hS => ?_)
  have hB : bk G.1 vwCl (fun q : Nat => s.heap.size ≤ q) [u0, u1] H := hB
  refine W.widen (k := 258310 + U iPP) (n := 258310 + U iPP) (by omega) (by omega) ?_
  refine lv_astore_n (lv' := [(2, .ref q1), (1, .ref q0), (0, .ref b)]) hx hb d_LW_law_15 rfl hl (by decide) rfl (fun ls hl => ?_)
  refine lv_iconst (v := 0) hx hb d_LW_law_16 (by decide) ?_
  refine lv_istore_n (lv' := [(3, .int 0), (2, .ref q1), (1, .ref q0), (0, .ref b)]) hx hb d_LW_law_17 rfl hl (by decide) rfl (fun ls hl => ?_)
  exact law_loop hL C0 Rel U hOK G hK q0 q1 ad adS adR adT adL (L + 1) 0 iPP iMD u0 u1 H locs ls (by omega) (by omega) hOK.1 hp hm hB hS (lv_sub hl [3, 2, 1, 0] rfl)
