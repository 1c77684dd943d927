/-! CONTRACTS of readers and writers, and calls by them; costs are one number: cells and slots alike -/
abbrev pG : Type := va_G × ClassId × ClassId × ClassId
abbrev tyG (G : pG) : List (ClassId × FieldType) := [(G.2.1, .int), (G.2.2.1, .long), (G.2.2.2, .boolean)]
def preG (G : pG) (H : Heap) : State → Prop := fun U => U.heap = H ∧ va_K G.1 vwCl (tyG G) U
abbrev rmK (fr lo K : Nat) : Room := { frames := fr, cells := K, slots := K, locals := lo }
theorem rmK_c {fr lo K : Nat} : (rmK fr lo K).cells = K := rfl
theorem rmK_s {fr lo K : Nat} : (rmK fr lo K).slots = K := rfl
/-- a reader that answers an int: the heap stays -/
abbrev MRi (l : Launch) (y : MethodName) (ws : List Cond) (fr lo : Nat) (G : pG) (av : List Value) (H : Heap) (r : Int32) : Prop :=
  Met l y ws (rmK fr lo 0) (va_Pc av (preG G H)) (va_Qi (fun r' (_ : Unit) => r' = r) (fun _ t => t.heap = H) (fun _ => False)) 0 0 (fun _ => False)
abbrev MRl (l : Launch) (y : MethodName) (ws : List Cond) (fr lo : Nat) (G : pG) (av : List Value) (H : Heap) (r : Int64) : Prop :=
  Met l y ws (rmK fr lo 0) (va_Pc av (preG G H)) (va_Ql (fun r' (_ : Unit) => r' = r) (fun _ t => t.heap = H) (fun _ => False)) 0 0 (fun _ => False)
/-- a writer: it owns the world w, and leaves one with P -/
abbrev MWv (l : Launch) (y : MethodName) (ws : List Cond) (fr lo K : Nat) (G : pG) (av : List Value) (H : Heap) (w : va_W) (P : va_W → Prop) : Prop :=
  Met l y ws (rmK fr lo K) (va_Pc av (preG G H)) (va_Qv (fun u : va_W => P u) (fun u t => va_P G.1 vwCl u t.heap ∧ va_D (va_A w H.size) u) (va_A w H.size)) K K (va_A w H.size)
abbrev MWi (l : Launch) (y : MethodName) (ws : List Cond) (fr lo K : Nat) (G : pG) (av : List Value) (H : Heap) (w : va_W) (r : Int32) (P : va_W → Prop) : Prop :=
  Met l y ws (rmK fr lo K) (va_Pc av (preG G H)) (va_Qi (fun r' (u : va_W) => r' = r ∧ P u) (fun u t => va_P G.1 vwCl u t.heap ∧ va_D (va_A w H.size) u) (va_A w H.size)) K K (va_A w H.size)
/-- a writer that answers a new or old cell's address -/
abbrev MWr (l : Launch) (y : MethodName) (ws : List Cond) (fr lo K : Nat) (G : pG) (av : List Value) (H : Heap) (w : va_W) (P : Nat → va_W → Prop) : Prop :=
  Met l y ws (rmK fr lo K) (va_Pc av (preG G H)) (va_Qr (fun _ : va_W => True) (fun u a t => P a u ∧ va_P G.1 vwCl u t.heap ∧ va_D (va_A w H.size) u) (va_A w H.size)) K K (va_A w H.size)
theorem ai_pos {α : Type} {P : Prop} [Decidable P] {a b t : α} (c : P) (h : ite P a b = t) : a = t := (if_pos c).symm.trans h
theorem ai_neg {α : Type} {P : Prop} [Decidable P] {a b t : α} (c : ¬ P) (h : ite P a b = t) : b = t := (if_neg c).symm.trans h
theorem ki_pos {P : Prop} [Decidable P] {k a b t : Nat} (c : P) (h : k + ite P a b = t) : k + a = t := by rw [if_pos c] at h; exact h
theorem ki_neg {P : Prop} [Decidable P] {k a b t : Nat} (c : ¬ P) (h : k + ite P a b = t) : k + b = t := by rw [if_neg c] at h; exact h
def bnd {α β : Type} (a : α) (f : α → β) : β := f a
theorem bnd_e {α β : Type} {a t : α} {f : α → β} {r : β} (h : a = t) (hr : bnd a f = r) : f t = r := by subst h; exact hr
theorem bnd_k {α : Type} {a t : α} {f : α → Nat} {k r : Nat} (h : a = t) (hr : k + bnd a f = r) : k + f t = r := by subst h; exact hr
theorem ob_e {α β : Type} {a : Option α} {f : α → Option β} {r : β} (h : a.bind f = some r) : ∃ t, a = some t ∧ f t = some r := by
  cases a with
  | none => cases h
  | some t => exact ⟨t, rfl, h⟩
theorem og_n {β : Type} {P : Prop} [Decidable P] {b : Option β} {r : β} (h : (if P then none else b) = some r) : ¬ P := by
  intro hp
  rw [if_pos hp] at h
  cases h
theorem og_e {β : Type} {P : Prop} [Decidable P] {b : Option β} {r : β} (h : (if P then none else b) = some r) : b = some r := by
  rw [if_neg (og_n h)] at h
  exact h
theorem bk_ub {a b c t M : Nat} (h : a + (b + c) = t) (hM : t ≤ M) : b ≤ M := by omega
theorem bk_gP {D : va_G} {cl : List vw_C} {bs : List va_W} {H : Heap} {k : Nat} {w : va_W} (h : va_P D cl bs.flatten H) (hk : bs[k]? = some w) : va_P D cl w H := by
  obtain ⟨T, E, e1, -⟩ := bk_split bs k w hk
  rw [e1, bk_mem] at h
  exact bk_mem.mpr fun q hq => h q (by simp [hq])
theorem bk_one {D : va_G} {cl : List vw_C} {A : Nat → Prop} {bs : List va_W} {H : Heap} (h : bk D cl A bs H) : bk D cl A [bs.flatten] H := by
  unfold bk at h ⊢
  simpa using h
theorem bk_many {D : va_G} {cl : List vw_C} {A : Nat → Prop} {bs : List va_W} {H : Heap} (h : bk D cl A [bs.flatten] H) : bk D cl A bs H := by
  unfold bk at h ⊢
  simpa using h
theorem bk_init {D : va_G} {cl : List vw_C} {w : va_W} {H : Heap} (hP : va_P D cl w H) (hD : va_D (fun _ => True) w) : bk D cl (va_A w H.size) [w] H := by
  have h : [w].flatten = w := by simp
  unfold bk
  rw [h]
  exact ⟨hP, hD.self⟩
theorem bk_apA {D : va_G} {cl : List vw_C} {A : Nat → Prop} {bs : List va_W} {H : Heap} {k : Nat} {w v : va_W} (h : bk D cl A bs H) (hk : bs[k]? = some w) (hro : ∀ q ∈ v, ¬ A q.1) : bk_ap w v := by
  obtain ⟨T, E, e1, -⟩ := bk_split bs k w hk
  have h1 := h.2
  rw [e1, bk_nd] at h1
  intro p hp q hq e
  exact hro q hq (e ▸ h1.2 p (by simp [hp]))
theorem preG_blind {G : pG} {H : Heap} {av : List Value} : FrameBlind (va_Pc av (preG G H)) := fun a U g mk q => by
  obtain ⟨q0, q1, qK⟩ := q
  exact ⟨q0, q1, va_K.moved (u := U) (U := U.calling g mk a) (Vm.Alike.refl U.vm) qK⟩
section CL
variable {p : Program} {l : Launch} {e : Env} {R : Room} {s : State} {m : MethodId} {args : Array Value} {below : List Frame} {meth : Method} {c : Code} {H H0 : Heap} {locs : List Loc} {cells slots : Nat} {Q : State → Prop} {y : MethodName} {bytes cc : ByteArray} {maxL nL n index fr lo K kc rem Kt k : Nat} {ret : Option FieldType} {ws Ts : List Cond} {own C : String} {b : Addr} {As rest : List Value} {ls : Array Slot} {pc : Nat} {G : pG} {A0 : Nat → Prop} {w : va_W} {bs : List va_W} {P : va_W → Prop}
theorem rdV {r : Int32} (S : CallFix p m c cc nL s args Ts own) (hM : MRi l y ws fr lo G (.ref b :: As) H r) (cw : CallW R s args own C index y bytes maxL ret ws (rmK fr lo 0) 0 0 n) (hK : va_K G.1 vwCl (tyG G) s) (hrc : ∃ cell : Cell, H[b]? = some cell ∧ cell.vm.isStatics = false ∧ s.vm.findClass C = some cell.cls) (hS : va_S A0 H0 H locs) (hq : cells ≤ R.cells ∧ slots ≤ R.slots) (hn : As.length = n) (hsz : ls.size = nL) (hW : (rest.map fun v => v.category).sum ≤ 8) (hdg : decode cc pc = .ok (.invokevirtual index, 3))
    (kk : ∀ locs1 : List Loc, va_S A0 H0 H locs1 → W p l e R s m args below meth c H locs1 cells slots Q (F0 m (pc + 3) ls (.int r :: rest))) :
    W p l e R s m args below meth c H locs cells slots Q (F0 m pc ls (As.reverse ++ .ref b :: rest)) := by
  refine va_calli (va_runV (As := As) (rest := rest) S hM cw ⟨preG_blind, hrc, fun U hU hWm => ⟨rfl, hU, va_K.moved hWm.alike hK⟩⟩ rfl hn hsz rfl (lv_room hW) hdg hq) hS (fun q _ h => h.elim) (fun q h => h.elim) (fun r' u t H1 locs1 ht hvm hw hB hz1 hk1 hS1 => ?_)
  subst hw
  obtain rfl : H1 = H := ht.symm.trans hB
  exact kk locs1 hS1
theorem rdVl {r : Int64} (S : CallFix p m c cc nL s args Ts own) (hM : MRl l y ws fr lo G (.ref b :: As) H r) (cw : CallW R s args own C index y bytes maxL ret ws (rmK fr lo 0) 0 0 n) (hK : va_K G.1 vwCl (tyG G) s) (hrc : ∃ cell : Cell, H[b]? = some cell ∧ cell.vm.isStatics = false ∧ s.vm.findClass C = some cell.cls) (hS : va_S A0 H0 H locs) (hq : cells ≤ R.cells ∧ slots ≤ R.slots) (hn : As.length = n) (hsz : ls.size = nL) (hW : (rest.map fun v => v.category).sum ≤ 8) (hdg : decode cc pc = .ok (.invokevirtual index, 3))
    (kk : ∀ locs1 : List Loc, va_S A0 H0 H locs1 → W p l e R s m args below meth c H locs1 cells slots Q (F0 m (pc + 3) ls (.long r :: rest))) :
    W p l e R s m args below meth c H locs cells slots Q (F0 m pc ls (As.reverse ++ .ref b :: rest)) := by
  refine va_calll (va_runV (As := As) (rest := rest) S hM cw ⟨preG_blind, hrc, fun U hU hWm => ⟨rfl, hU, va_K.moved hWm.alike hK⟩⟩ rfl hn hsz rfl (lv_room hW) hdg hq) hS (fun q _ h => h.elim) (fun q h => h.elim) (fun r' u t H1 locs1 ht hvm hw hB hz1 hk1 hS1 => ?_)
  subst hw
  obtain rfl : H1 = H := ht.symm.trans hB
  exact kk locs1 hS1
theorem wrV (S : CallFix p m c cc nL s args Ts own) (hM : MWv l y ws fr lo K G (.ref b :: As) H w P) (cw : CallW R s args own C index y bytes maxL ret ws (rmK fr lo K) K K n) (hK : va_K G.1 vwCl (tyG G) s) (hrc : ∃ cell : Cell, H[b]? = some cell ∧ cell.vm.isStatics = false ∧ s.vm.findClass C = some cell.cls) (hS : va_S A0 H0 H locs) (hA : ∀ q, H0.size ≤ q → A0 q) (hB : bk G.1 vwCl A0 bs H) (hk0 : bs[k]? = some w) (hk : kc + (K + rem) = Kt) (hR : R.cells = Kt ∧ R.slots = Kt) (hn : As.length = n) (hsz : ls.size = nL) (hW : (rest.map fun v => v.category).sum ≤ 8) (hdg : decode cc pc = .ok (.invokevirtual index, 3))
    (kk : ∀ (u : va_W) (H1 : Heap) (locs1 : List Loc) (kc1 : Nat), P u → bk G.1 vwCl A0 (bs.set k u) H1 → va_S A0 H0 H1 locs1 → kc1 + rem = Kt → W p l e R s m args below meth c H1 locs1 kc1 kc1 Q (F0 m (pc + 3) ls rest)) :
    W p l e R s m args below meth c H locs kc kc Q (F0 m pc ls (As.reverse ++ .ref b :: rest)) := by
  have hA' : ∀ q, H.size ≤ q → A0 q := fun q h => hA q (Nat.le_trans hS.1 h)
  have hin := bk_inA hB hk0 hA'
  refine va_callv (va_runV (As := As) (rest := rest) S hM cw ⟨preG_blind, hrc, fun U hU hWm => ⟨rfl, hU, va_K.moved hWm.alike hK⟩⟩ rfl hn hsz rfl (lv_room hW) hdg (by rw [hR.1, hR.2]; omega)) hS (fun q _ h => hin q h) hin (fun u t H1 locs1 ht hvm hw hB1 hz1 hk1 hS1 => ?_)
  rw [ht] at hB1
  exact kk u H1 locs1 (kc + K) hw (bk_set hB hk0 hk1 hA' hB1.1 hB1.2) hS1 (by omega)
theorem wrV0 (S : CallFix p m c cc nL s args Ts own) (hM : MWv l y ws fr lo 0 G (.ref b :: As) H w P) (cw : CallW R s args own C index y bytes maxL ret ws (rmK fr lo 0) 0 0 n) (hK : va_K G.1 vwCl (tyG G) s) (hrc : ∃ cell : Cell, H[b]? = some cell ∧ cell.vm.isStatics = false ∧ s.vm.findClass C = some cell.cls) (hS : va_S A0 H0 H locs) (hA : ∀ q, H0.size ≤ q → A0 q) (hB : bk G.1 vwCl A0 bs H) (hk0 : bs[k]? = some w) (hk : kc + rem = Kt) (hR : R.cells = Kt ∧ R.slots = Kt) (hn : As.length = n) (hsz : ls.size = nL) (hW : (rest.map fun v => v.category).sum ≤ 8) (hdg : decode cc pc = .ok (.invokevirtual index, 3))
    (kk : ∀ (u : va_W) (H1 : Heap) (locs1 : List Loc), P u → bk G.1 vwCl A0 (bs.set k u) H1 → va_S A0 H0 H1 locs1 → W p l e R s m args below meth c H1 locs1 kc kc Q (F0 m (pc + 3) ls rest)) :
    W p l e R s m args below meth c H locs kc kc Q (F0 m pc ls (As.reverse ++ .ref b :: rest)) := by
  have hA' : ∀ q, H.size ≤ q → A0 q := fun q h => hA q (Nat.le_trans hS.1 h)
  have hin := bk_inA hB hk0 hA'
  refine va_callv (va_runV (As := As) (rest := rest) S hM cw ⟨preG_blind, hrc, fun U hU hWm => ⟨rfl, hU, va_K.moved hWm.alike hK⟩⟩ rfl hn hsz rfl (lv_room hW) hdg (by rw [hR.1, hR.2]; omega)) hS (fun q _ h => hin q h) hin (fun u t H1 locs1 ht hvm hw hB1 hz1 hk1 hS1 => ?_)
  rw [ht] at hB1
  exact kk u H1 locs1 hw (bk_set hB hk0 hk1 hA' hB1.1 hB1.2) hS1
theorem wrVi {r : Int32} (S : CallFix p m c cc nL s args Ts own) (hM : MWi l y ws fr lo K G (.ref b :: As) H w r P) (cw : CallW R s args own C index y bytes maxL ret ws (rmK fr lo K) K K n) (hK : va_K G.1 vwCl (tyG G) s) (hrc : ∃ cell : Cell, H[b]? = some cell ∧ cell.vm.isStatics = false ∧ s.vm.findClass C = some cell.cls) (hS : va_S A0 H0 H locs) (hA : ∀ q, H0.size ≤ q → A0 q) (hB : bk G.1 vwCl A0 bs H) (hk0 : bs[k]? = some w) (hk : kc + (K + rem) = Kt) (hR : R.cells = Kt ∧ R.slots = Kt) (hn : As.length = n) (hsz : ls.size = nL) (hW : (rest.map fun v => v.category).sum ≤ 8) (hdg : decode cc pc = .ok (.invokevirtual index, 3))
    (kk : ∀ (u : va_W) (H1 : Heap) (locs1 : List Loc) (kc1 : Nat), P u → bk G.1 vwCl A0 (bs.set k u) H1 → va_S A0 H0 H1 locs1 → kc1 + rem = Kt → W p l e R s m args below meth c H1 locs1 kc1 kc1 Q (F0 m (pc + 3) ls (.int r :: rest))) :
    W p l e R s m args below meth c H locs kc kc Q (F0 m pc ls (As.reverse ++ .ref b :: rest)) := by
  have hA' : ∀ q, H.size ≤ q → A0 q := fun q h => hA q (Nat.le_trans hS.1 h)
  have hin := bk_inA hB hk0 hA'
  refine va_calli (va_runV (As := As) (rest := rest) S hM cw ⟨preG_blind, hrc, fun U hU hWm => ⟨rfl, hU, va_K.moved hWm.alike hK⟩⟩ rfl hn hsz rfl (lv_room hW) hdg (by rw [hR.1, hR.2]; omega)) hS (fun q _ h => hin q h) hin (fun r' u t H1 locs1 ht hvm hw hB1 hz1 hk1 hS1 => ?_)
  rw [ht] at hB1
  obtain ⟨rfl, hw⟩ := hw
  exact kk u H1 locs1 (kc + K) hw (bk_set hB hk0 hk1 hA' hB1.1 hB1.2) hS1 (by omega)
theorem wrVi0 {r : Int32} (S : CallFix p m c cc nL s args Ts own) (hM : MWi l y ws fr lo 0 G (.ref b :: As) H w r P) (cw : CallW R s args own C index y bytes maxL ret ws (rmK fr lo 0) 0 0 n) (hK : va_K G.1 vwCl (tyG G) s) (hrc : ∃ cell : Cell, H[b]? = some cell ∧ cell.vm.isStatics = false ∧ s.vm.findClass C = some cell.cls) (hS : va_S A0 H0 H locs) (hA : ∀ q, H0.size ≤ q → A0 q) (hB : bk G.1 vwCl A0 bs H) (hk0 : bs[k]? = some w) (hk : kc + rem = Kt) (hR : R.cells = Kt ∧ R.slots = Kt) (hn : As.length = n) (hsz : ls.size = nL) (hW : (rest.map fun v => v.category).sum ≤ 8) (hdg : decode cc pc = .ok (.invokevirtual index, 3))
    (kk : ∀ (u : va_W) (H1 : Heap) (locs1 : List Loc), P u → bk G.1 vwCl A0 (bs.set k u) H1 → va_S A0 H0 H1 locs1 → W p l e R s m args below meth c H1 locs1 kc kc Q (F0 m (pc + 3) ls (.int r :: rest))) :
    W p l e R s m args below meth c H locs kc kc Q (F0 m pc ls (As.reverse ++ .ref b :: rest)) := by
  have hA' : ∀ q, H.size ≤ q → A0 q := fun q h => hA q (Nat.le_trans hS.1 h)
  have hin := bk_inA hB hk0 hA'
  refine va_calli (va_runV (As := As) (rest := rest) S hM cw ⟨preG_blind, hrc, fun U hU hWm => ⟨rfl, hU, va_K.moved hWm.alike hK⟩⟩ rfl hn hsz rfl (lv_room hW) hdg (by rw [hR.1, hR.2]; omega)) hS (fun q _ h => hin q h) hin (fun r' u t H1 locs1 ht hvm hw hB1 hz1 hk1 hS1 => ?_)
  rw [ht] at hB1
  obtain ⟨rfl, hw⟩ := hw
  exact kk u H1 locs1 hw (bk_set hB hk0 hk1 hA' hB1.1 hB1.2) hS1
/-- a static writer that makes nothing -/
theorem wrS0 (S : CallFix p m c cc nL s args Ts own) (hM : MWv l y ws fr lo 0 G As H w P) (cw : CallB R s args own index y bytes maxL ret ws (rmK fr lo 0) 0 0 n ∧ (Cond.static y).before args s = true) (hK : va_K G.1 vwCl (tyG G) s) (hS : va_S A0 H0 H locs) (hA : ∀ q, H0.size ≤ q → A0 q) (hB : bk G.1 vwCl A0 bs H) (hk0 : bs[k]? = some w) (hk : kc + rem = Kt) (hR : R.cells = Kt ∧ R.slots = Kt) (hn : As.length = n) (hsz : ls.size = nL) (hW : (rest.map fun v => v.category).sum ≤ 8) (hdg : decode cc pc = .ok (.invokestatic index, 3))
    (kk : ∀ (u : va_W) (H1 : Heap) (locs1 : List Loc), P u → bk G.1 vwCl A0 (bs.set k u) H1 → va_S A0 H0 H1 locs1 → W p l e R s m args below meth c H1 locs1 kc kc Q (F0 m (pc + 3) ls rest)) :
    W p l e R s m args below meth c H locs kc kc Q (F0 m pc ls (As.reverse ++ rest)) := by
  have hA' : ∀ q, H.size ≤ q → A0 q := fun q h => hA q (Nat.le_trans hS.1 h)
  have hin := bk_inA hB hk0 hA'
  refine va_callv (va_runS (As := As) (rest := rest) S hM cw ⟨preG_blind, fun U hU hWm => ⟨rfl, hU, va_K.moved hWm.alike hK⟩⟩ rfl hn hsz rfl (lv_room hW) hdg (by rw [hR.1, hR.2]; omega)) hS (fun q _ h => hin q h) hin (fun u t H1 locs1 ht hvm hw hB1 hz1 hk1 hS1 => ?_)
  rw [ht] at hB1
  exact kk u H1 locs1 hw (bk_set hB hk0 hk1 hA' hB1.1 hB1.2) hS1
/-- a loop of a writer -/
theorem lp_W (I : Nat → Heap → List Loc → Nat → Array Slot → Prop) (step : ∀ n, (∀ H locs kc ls, I n H locs kc ls → W p l e R s m args below meth c H locs kc kc Q (F0 m pc ls [])) → ∀ H locs kc ls, I (n + 1) H locs kc ls → W p l e R s m args below meth c H locs kc kc Q (F0 m pc ls []))
    (zero : ∀ H locs kc ls, ¬ I 0 H locs kc ls) : ∀ n H locs kc ls, I n H locs kc ls → W p l e R s m args below meth c H locs kc kc Q (F0 m pc ls []) := by
  intro n
  induction n with
  | zero => intro H locs kc ls h; exact absurd h (zero H locs kc ls)
  | succ n ih => exact step n ih
/-- a loop of a reader -/
theorem lp_R (I : Nat → List Loc → Array Slot → Prop) (step : ∀ n, (∀ locs ls, I n locs ls → W p l e R s m args below meth c H locs cells slots Q (F0 m pc ls [])) → ∀ locs ls, I (n + 1) locs ls → W p l e R s m args below meth c H locs cells slots Q (F0 m pc ls []))
    (zero : ∀ locs ls, ¬ I 0 locs ls) : ∀ n locs ls, I n locs ls → W p l e R s m args below meth c H locs cells slots Q (F0 m pc ls []) := by
  intro n
  induction n with
  | zero => intro locs ls h; exact absurd h (zero locs ls)
  | succ n ih => exact step n ih
end CL
/-- how often a loop of the other side may turn: far above what a run can need -/
def fuelM : Nat := 1000000
theorem sw_out {x : Int32} {n : Nat} (h : ∀ k : Nat, k ≤ n → ¬ x = Int32.ofNat k) (hn : n < 2 ^ 31 := by decide) : x.toInt < 0 ∨ (n : Int) < x.toInt := by
  rcases (show x.toInt < 0 ∨ 0 ≤ x.toInt by omega) with h0 | h0
  · exact Or.inl h0
  · rcases (show (n : Int) < x.toInt ∨ x.toInt ≤ n by omega) with h1 | h1
    · exact Or.inr h1
    · refine absurd ?_ (h x.toInt.toNat (by omega))
      apply Int32.toInt_inj.mp
      have e := nI_toInt (n := x.toInt.toNat) (by omega)
      show _ = (nI x.toInt.toNat).toInt
      rw [e]; omega
theorem gd_T : GoodIn lw_g lw_g := fun w h => ⟨h, good_of_word (List.mem_filter.mp h).2⟩
theorem gd_c {x : Cond} (h : x ∈ lw_g) : GoodIn lw_g (x :: lw_g) := by
  intro w hw
  rcases List.mem_cons.mp hw with rfl | hw
  · exact gd_T _ h
  · exact gd_T w hw
theorem gd_V {own C : String} {idx : Nat} {y : MethodName} {x : Cond} (h1 : Cond.methodLink own idx y ∈ lw_g) (h2 : Cond.instanceMethod y ∈ lw_g) (h3 : Cond.selects C y y ∈ lw_g) (h4 : Cond.initialized C ∈ lw_g) (h5 : x ∈ lw_g) : GoodIn lw_g (wsV own idx C y (x :: lw_g)) := by
  intro w hw
  unfold wsV at hw
  rcases List.mem_append.mp hw with hw | hw
  · simp only [List.mem_cons, List.not_mem_nil, or_false] at hw
    rcases hw with rfl | rfl | rfl | rfl
    · exact gd_T _ h1
    · exact gd_T _ h2
    · exact gd_T _ h3
    · exact gd_T _ h4
  · exact gd_c h5 w hw
section CL2
variable {p : Program} {l : Launch} {e : Env} {R : Room} {s : State} {m : MethodId} {args : Array Value} {below : List Frame} {meth : Method} {c : Code} {H H0 : Heap} {locs : List Loc} {cells slots : Nat} {Q : State → Prop} {y : MethodName} {bytes cc : ByteArray} {maxL nL n index fr lo K kc rem Kt k : Nat} {ret : Option FieldType} {ws Ts : List Cond} {own C : String} {b : Addr} {As rest : List Value} {ls : Array Slot} {pc : Nat} {G : pG} {A0 : Nat → Prop} {w : va_W} {bs : List va_W} {P : va_W → Prop}
/-- a static writer that answers an address -/
theorem wrSr {Pr : Nat → va_W → Prop} (S : CallFix p m c cc nL s args Ts own) (hM : MWr l y ws fr lo K G As H w Pr) (cw : CallB R s args own index y bytes maxL ret ws (rmK fr lo K) K K n ∧ (Cond.static y).before args s = true) (hK : va_K G.1 vwCl (tyG G) s) (hS : va_S A0 H0 H locs) (hA : ∀ q, H0.size ≤ q → A0 q) (hB : bk G.1 vwCl A0 bs H) (hk0 : bs[k]? = some w) (hk : kc + (K + rem) = Kt) (hR : R.cells = Kt ∧ R.slots = Kt) (hn : As.length = n) (hsz : ls.size = nL) (hW : (rest.map fun v => v.category).sum ≤ 8) (hdg : decode cc pc = .ok (.invokestatic index, 3))
    (kk : ∀ (ra : Nat) (u : va_W) (H1 : Heap) (locs1 : List Loc) (kc1 : Nat), Pr ra u → bk G.1 vwCl A0 (bs.set k u) H1 → va_S A0 H0 H1 locs1 → kc1 + rem = Kt → W p l e R s m args below meth c H1 locs1 kc1 kc1 Q (F0 m (pc + 3) ls (.ref ra :: rest))) :
    W p l e R s m args below meth c H locs kc kc Q (F0 m pc ls (As.reverse ++ rest)) := by
  have hA' : ∀ q, H.size ≤ q → A0 q := fun q h => hA q (Nat.le_trans hS.1 h)
  have hin := bk_inA hB hk0 hA'
  refine va_callr (va_runS (As := As) (rest := rest) S hM cw ⟨preG_blind, fun U hU hWm => ⟨rfl, hU, va_K.moved hWm.alike hK⟩⟩ rfl hn hsz rfl (lv_room hW) hdg (by rw [hR.1, hR.2]; omega)) hS (fun q _ h => hin q h) hin (fun u ra t H1 locs1 ht hvm hw hB1 hz1 hk1 hS1 => ?_)
  rw [ht] at hB1
  exact kk ra u H1 locs1 (kc + K) hB1.1 (bk_set hB hk0 hk1 hA' hB1.2.1 hB1.2.2) hS1 (by omega)
/-- a maker (invokespecial): the new object's own cell is its world -/
theorem wrI (S : CallFix p m c cc nL s args Ts own) (hM : MWv l y ws fr lo K G (.ref b :: As) H w P) (cw : CallB R s args own index y bytes maxL none ws (rmK fr lo K) K K n ∧ y.name = "<init>" ∧ (Cond.instanceMethod y).before args s = true) (hK : va_K G.1 vwCl (tyG G) s) (hS : va_S A0 H0 H locs) (hA : ∀ q, H0.size ≤ q → A0 q) (hB : bk G.1 vwCl A0 bs H) (hk0 : bs[k]? = some w) (hk : kc + (K + rem) = Kt) (hR : R.cells = Kt ∧ R.slots = Kt) (hn : As.length = n) (hsz : ls.size = nL) (hW : (rest.map fun v => v.category).sum ≤ 8) (hdg : decode cc pc = .ok (.invokespecial index, 3))
    (kk : ∀ (u : va_W) (H1 : Heap) (locs1 : List Loc) (kc1 : Nat), P u → bk G.1 vwCl A0 (bs.set k u) H1 → va_S A0 H0 H1 locs1 → kc1 + rem = Kt → W p l e R s m args below meth c H1 locs1 kc1 kc1 Q (F0 m (pc + 3) ls rest)) :
    W p l e R s m args below meth c H locs kc kc Q (F0 m pc ls (As.reverse ++ .ref b :: rest)) := by
  have hA' : ∀ q, H.size ≤ q → A0 q := fun q h => hA q (Nat.le_trans hS.1 h)
  have hin := bk_inA hB hk0 hA'
  refine va_callv (va_runI (As := As) (rest := rest) S hM cw ⟨preG_blind, fun U hU hWm => ⟨rfl, hU, va_K.moved hWm.alike hK⟩⟩ rfl hn hsz rfl (lv_room hW) hdg (by rw [hR.1, hR.2]; omega)) hS (fun q _ h => hin q h) hin (fun u t H1 locs1 ht hvm hw hB1 hz1 hk1 hS1 => ?_)
  rw [ht] at hB1
  exact kk u H1 locs1 (kc + K) hw (bk_set hB hk0 hk1 hA' hB1.1 hB1.2) hS1 (by omega)
end CL2
theorem gd_S {own : String} {idx : Nat} {y : MethodName} {x : Cond} (h1 : Cond.methodLink own idx y ∈ lw_g) (h2 : Cond.static y ∈ lw_g) (h4 : Cond.initialized y.cls ∈ lw_g) (h5 : x ∈ lw_g) : GoodIn lw_g (va_wsS own idx y (x :: lw_g)) := by
  intro w hw
  unfold va_wsS at hw
  rcases List.mem_append.mp hw with hw | hw
  · simp only [List.mem_cons, List.not_mem_nil, or_false] at hw
    rcases hw with rfl | rfl | rfl
    · exact gd_T _ h1
    · exact gd_T _ h2
    · exact gd_T _ h4
  · exact gd_c h5 w hw
theorem ca_eqZ {D : va_G} {cl : List vw_C} {tys : List (ClassId × FieldType)} {U : State} (h : va_K D cl tys U) (i j : Nat) {c1 c2 : ClassId} (h1 : tys[i]? = some (c1, .boolean)) (h2 : tys[j]? = some (c2, .boolean)) : c1 = c2 := by
  have e1 : U.vm.findClass ("[" ++ FieldType.boolean.toString) = some c1 := (h.2 i _ h1).2
  have e2 : U.vm.findClass ("[" ++ FieldType.boolean.toString) = some c2 := (h.2 j _ h2).2
  exact Option.some.inj (e1.symm.trans e2)
/-- arrays of numbers have one kind -/
theorem ca_eq {D : va_G} {cl : List vw_C} {tys : List (ClassId × FieldType)} {U : State} (h : va_K D cl tys U) (i j : Nat) {c1 c2 : ClassId} (h1 : tys[i]? = some (c1, .int)) (h2 : tys[j]? = some (c2, .int)) : c1 = c2 := by
  have e1 : U.vm.findClass ("[" ++ FieldType.int.toString) = some c1 := (h.2 i _ h1).2
  have e2 : U.vm.findClass ("[" ++ FieldType.int.toString) = some c2 := (h.2 j _ h2).2
  exact Option.some.inj (e1.symm.trans e2)
theorem ca_eqL {D : va_G} {cl : List vw_C} {tys : List (ClassId × FieldType)} {U : State} (h : va_K D cl tys U) (i j : Nat) {c1 c2 : ClassId} (h1 : tys[i]? = some (c1, .long)) (h2 : tys[j]? = some (c2, .long)) : c1 = c2 := by
  have e1 : U.vm.findClass ("[" ++ FieldType.long.toString) = some c1 := (h.2 i _ h1).2
  have e2 : U.vm.findClass ("[" ++ FieldType.long.toString) = some c2 := (h.2 j _ h2).2
  exact Option.some.inj (e1.symm.trans e2)
