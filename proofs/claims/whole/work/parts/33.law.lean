section LWC
variable {p : Program} {l : Launch} {e : Env} {R : Room} {s : State} {m : MethodId} {args : Array Value} {below : List Frame} {meth : Method} {c : Code} {H H0 : Heap} {locs : List Loc} {Q : State → Prop} {y : MethodName} {bytes cc : ByteArray} {maxL nL n index fr lo K kc k : Nat} {ret : Option FieldType} {ws Ts : List Cond} {own C : String} {b : Addr} {As rest : List Value} {ls : Array Slot} {pc : Nat} {G : pG} {A0 : Nat → Prop} {w : va_W} {bs : List va_W} {P : va_W → Prop}
theorem wrL {r : Int32} (S : CallFix p m c cc nL s args Ts own) (hM : MWi l y ws fr lo K G (.ref b :: As) H w r P) (cw : CallW R s args own C index y bytes maxL ret ws (rmK fr lo K) K K n) (hK : va_K G.1 vwCl (tyG G) s) (hrc : ∃ cell : Cell, H[b]? = some cell ∧ cell.vm.isStatics = false ∧ s.vm.findClass C = some cell.cls) (hS : va_S A0 H0 H locs) (hA : ∀ q, H0.size ≤ q → A0 q) (hB : bk G.1 vwCl A0 bs H) (hk0 : bs[k]? = some w) (hf : kc + K ≤ R.cells ∧ kc + K ≤ R.slots) (hn : As.length = n) (hsz : ls.size = nL) (hW : (rest.map fun v => v.category).sum ≤ 8) (hdg : decode cc pc = .ok (.invokevirtual index, 3))
    (kk : ∀ (u : va_W) (H1 : Heap) (locs1 : List Loc), P u → bk G.1 vwCl A0 (bs.set k u) H1 → va_S A0 H0 H1 locs1 → W p l e R s m args below meth c H1 locs1 (kc + K) (kc + K) Q (F0 m (pc + 3) ls (.int r :: rest))) :
    W p l e R s m args below meth c H locs kc kc Q (F0 m pc ls (As.reverse ++ .ref b :: rest)) := by
  have hA' : ∀ q, H.size ≤ q → A0 q := fun q h => hA q (Nat.le_trans hS.1 h)
  have hin := bk_inA hB hk0 hA'
  refine va_calli (va_runV (As := As) (rest := rest) S hM cw ⟨preG_blind, hrc, fun U hU hWm => ⟨rfl, hU, va_K.moved hWm.alike hK⟩⟩ rfl hn hsz rfl (lv_room hW) hdg hf) hS (fun q _ h => hin q h) hin (fun r' u t H1 locs1 ht hvm hw hB1 hz1 hk1 hS1 => ?_)
  rw [ht] at hB1
  obtain ⟨rfl, hw⟩ := hw
  exact kk u H1 locs1 hw (bk_set hB hk0 hk1 hA' hB1.1 hB1.2) hS1
theorem wrLI (S : CallFix p m c cc nL s args Ts own) (hM : MWv l y ws fr lo K G (.ref b :: As) H w P) (cw : CallB R s args own index y bytes maxL none ws (rmK fr lo K) K K n ∧ y.name = "<init>" ∧ (Cond.instanceMethod y).before args s = true) (hK : va_K G.1 vwCl (tyG G) s) (hS : va_S A0 H0 H locs) (hA : ∀ q, H0.size ≤ q → A0 q) (hB : bk G.1 vwCl A0 bs H) (hk0 : bs[k]? = some w) (hf : kc + K ≤ R.cells ∧ kc + K ≤ R.slots) (hn : As.length = n) (hsz : ls.size = nL) (hW : (rest.map fun v => v.category).sum ≤ 8) (hdg : decode cc pc = .ok (.invokespecial index, 3))
    (kk : ∀ (u : va_W) (H1 : Heap) (locs1 : List Loc), P u → bk G.1 vwCl A0 (bs.set k u) H1 → va_S A0 H0 H1 locs1 → W p l e R s m args below meth c H1 locs1 (kc + K) (kc + K) Q (F0 m (pc + 3) ls rest)) :
    W p l e R s m args below meth c H locs kc kc Q (F0 m pc ls (As.reverse ++ .ref b :: rest)) := by
  have hA' : ∀ q, H.size ≤ q → A0 q := fun q h => hA q (Nat.le_trans hS.1 h)
  have hin := bk_inA hB hk0 hA'
  refine va_callv (va_runI (As := As) (rest := rest) S hM cw ⟨preG_blind, fun U hU hWm => ⟨rfl, hU, va_K.moved hWm.alike hK⟩⟩ rfl hn hsz rfl (lv_room hW) hdg hf) hS (fun q _ h => hin q h) hin (fun u t H1 locs1 ht hvm hw hB1 hz1 hk1 hS1 => ?_)
  rw [ht] at hB1
  exact kk u H1 locs1 hw (bk_set hB hk0 hk1 hA' hB1.1 hB1.2) hS1
end LWC
theorem lc_self (x : Int64) : lg_cmp x x = 0 := by simp [lg_cmp, Int64.lt_irrefl]

/-- WHAT LEVEL B OWES: a relation between the system's state and the reference's, behind j calls, and what its lists have cost -/
def LawOK (Rel : Nat → tPP → tMD → Prop) (U : tPP → Nat) : Prop :=
  Rel 0 iPP iMD ∧ (∀ (j : Nat) (σ : tPP) (μ : tMD), Rel j σ μ → U σ ≤ 300000) ∧ (∀ (j : Nat) (σ : tPP) (μ : tMD), Rel j σ μ → Rel (j + 1) σ μ) ∧
  (∀ (j : Nat) (σ : tPP) (μ : tMD) (a : Int32), j < 512 → Rel j σ μ → ∃ μ' : tMD, A_MD_statement μ a = some ((A_PP_statement σ a).1, μ') ∧ K_PP_statement σ a + U σ ≤ U (A_PP_statement σ a).2 ∧ Rel (j + 1) (A_PP_statement σ a).2 μ') ∧
  (∀ (j : Nat) (σ : tPP) (μ : tMD) (a : Int32), j < 512 → Rel j σ μ → ∃ μ' : tMD, A_MD_mandatory μ a = some ((A_PP_mandatory σ a).1, μ') ∧ U σ ≤ U (A_PP_mandatory σ a).2 ∧ Rel (j + 1) (A_PP_mandatory σ a).2 μ') ∧
  (∀ (j : Nat) (σ : tPP) (μ : tMD) (a : Int32), j < 512 → Rel j σ μ → ∃ μ' : tMD, A_MD_make μ a = some ((A_PP_make σ a).1, μ') ∧ K_PP_make σ a + U σ ≤ U (A_PP_make σ a).2 ∧ Rel (j + 1) (A_PP_make σ a).2 μ') ∧
  (∀ (j : Nat) (σ : tPP) (μ : tMD) (a : Int32), j < 512 → Rel j σ μ → ∃ μ' : tMD, A_MD_again μ a = some ((A_PP_again σ a).1, μ') ∧ K_PP_again σ a + U σ ≤ U (A_PP_again σ a).2 ∧ Rel (j + 1) (A_PP_again σ a).2 μ') ∧
  (∀ (j : Nat) (σ : tPP) (μ : tMD), j < 512 → Rel j σ μ → (A_MD_clear μ).1 = (A_PP_clear σ).1 ∧ U σ ≤ U (A_PP_clear σ).2 ∧ Rel (j + 1) (A_PP_clear σ).2 (A_MD_clear μ).2) ∧
  (∀ (j : Nat) (σ : tPP) (μ : tMD) (a : Int32), j < 512 → Rel j σ μ → A_MD_count μ a = some (A_PP_count σ a)) ∧
  (∀ (j : Nat) (σ : tPP) (μ : tMD) (a : Int32), j < 512 → Rel j σ μ → A_MD_row μ a = some (A_PP_row σ a)) ∧
  (∀ (j : Nat) (σ : tPP) (μ : tMD) (a : Int32) (b : Int32), j < 512 → Rel j σ μ → A_MD_frm μ a b = some (A_PP_frm σ a b)) ∧
  (∀ (j : Nat) (σ : tPP) (μ : tMD) (a : Int32) (b : Int32), j < 512 → Rel j σ μ → A_MD_same μ a b = some (A_PP_same σ a b)) ∧
  (∀ (j : Nat) (σ : tPP) (μ : tMD), j < 512 → Rel j σ μ → ∃ μ' : tMD, A_MD_pack μ = some ((A_PP_pack σ).1, μ') ∧ K_PP_pack σ + U σ ≤ U (A_PP_pack σ).2 ∧ Rel (j + 1) (A_PP_pack σ).2 μ') ∧
  (∀ (j : Nat) (σ : tPP) (μ : tMD) (a : Int32), j < 512 → Rel j σ μ → A_MD_step μ a = some (A_PP_step σ a)) ∧
  (∀ (j : Nat) (σ : tPP) (μ : tMD) (a : Int32), j < 512 → Rel j σ μ → A_MD_saves μ a = some (A_PP_saves σ a)) ∧
  (∀ (j : Nat) (σ : tPP) (μ : tMD) (a : Int32), j < 512 → Rel j σ μ → A_MD_label μ a = some (A_PP_label σ a)) ∧
  (∀ (j : Nat) (σ : tPP) (μ : tMD) (a : Int32), j < 512 → Rel j σ μ → A_MD_packed μ a = A_PP_packed σ a) ∧
  (∀ (j : Nat) (σ : tPP) (μ : tMD) (a : Int32), j < 512 → Rel j σ μ → A_MD_letter μ a = some (A_PP_letter σ a)) ∧
  (∀ (j : Nat) (σ : tPP) (μ : tMD) (a : Int32), j < 512 → Rel j σ μ → A_MD_size μ a = some (A_PP_size σ a)) ∧
  (∀ (j : Nat) (σ : tPP) (μ : tMD) (a : Int32) (b : Int32), j < 512 → Rel j σ μ → A_MD_full μ a b = some (A_PP_full σ a b)) ∧
  (∀ (j : Nat) (σ : tPP) (μ : tMD), j < 512 → Rel j σ μ → A_MD_check μ = (A_PP_check σ).1 ∧ K_PP_check σ + U σ ≤ U (A_PP_check σ).2 ∧ Rel (j + 1) (A_PP_check σ).2 μ)
/-! THE CLAIM OUT OF ONE WALK OF THE LAW'S BODY. Your part is whole_start (and what it stands on); all else here is the same for every law, but numbers. -/
def R_law : String := "ProofPackerLaw"
def lw_P (b : Addr) (xs : List Int32) (args : Array Value) (s : State) : Prop := args = #[.ref b] ∧ s.IntsAt b xs ∧ xs.length ≤ 1536 ∧ (Jvm.Cond.and given_1 narrow_1).before args s = true
def lw_Q (_ : Array Value) (s : State) (o : Outcome) (t : State) : Prop := o = .returned (some (.int 1)) ∧ Framed s o t [] 600000 7302250
def lw_Z (below : List Frame) (a : Array Value) (s : State) : State → Prop := fun t => ∃ o, t.status = .running ∧ Ended t below o ∧ lw_Q a s o t
/-- the law's own end, with 1 on the stack, nothing written that was there before, its room as the claim has it -/
theorem lw_ret {p : Program} {l : Launch} {e : Env} {s : State} {m : MethodId} {below : List Frame} {meth : Method} {c : Code} {b : Nat} (hx : p.tables.exec = Jvm.exec) (hb : c.code = code) (hr : meth.sig.returnType = ret) (hlocks : meth.locks = false) {pc : Nat} {H : Heap} {ls : Array Slot} (hdg : decode code pc = .ok (.ireturn, 1)) : W p l e room_1 s m #[Value.ref b] below meth c H [] 600000 7302250 (lw_Z below #[Value.ref b] s) (F0 m pc ls [.int 1]) := by
  intro T hT X
  obtain ⟨fs, hret, hrun, hended, hW, hframe⟩ := X.leave (v := some (.int 1)) (hlocks := hlocks) (fun h => by rw [hr] at h; cases h)
  have hmeth' : T.vm.method? m = some meth := X.method'
  refine ⟨T.setFrames fs, ?_, .returned (some (.int 1)), hrun, hended, rfl, ⟨_, rfl⟩, hW, hframe⟩
  jvm_step X.here [X.here.top, hx, hb, hdg, hmeth', hr, ret, narrow_b1]
  (try refine ⟨rfl, ?_⟩); (try refine ⟨rfl, ?_⟩)
  first | (intro acts; rw [hret _ acts rfl rfl rfl]) | rw [hret _ _ rfl rfl rfl]
  exact Steps.refl _
/-- what holds at the law's entry: the machine, the code, the tables' words (any of lw_tbl by 'hts w (by decide +kernel)'), the script of L ints xs at the cell b, what the Statement gives of the start (any of its parts by flat_of_before) -/
def lw_At (p : Program) (s : State) (m : MethodId) (meth : Method) (c : Code) (b L : Nat) (xs : Nat → Int32) : Prop :=
  p.tables.exec = Jvm.exec ∧ c.code = code ∧ meth.sig.returnType = ret ∧ c.maxLocals = 4 ∧ s.vm.findClass R_law = some m.cls ∧ (∀ w ∈ lw_tbl, w.before #[Value.ref b] s = true) ∧ va_X b L xs s s.heap ∧ b < s.heap.size ∧ meth.locks = false ∧ (Jvm.Cond.and given_1 narrow_1).before #[Value.ref b] s = true

theorem lw_rm {n : Nat} (h : n ≤ 600000) : n ≤ room_1.cells ∧ n ≤ room_1.slots := ⟨h, Nat.le_trans h (by decide)⟩

theorem lw_in {L j : Nat} (c : ¬ Int32.ofNat L - 3 < nI (3 * j)) (hL : L < 2 ^ 30) (hj : 3 * j ≤ L) : 3 * j + 3 ≤ L := by
  have e : (nI L - nI 3).toInt = (L : Int) - (3 : Nat) := pk_sub_toInt hL (by decide)
  have h : ¬ (nI L - nI 3).toInt < (nI (3 * j)).toInt := fun h => c (Int32.lt_iff_toInt_lt.mpr h)
  rw [e, nI_toInt (by omega)] at h
  omega

set_option maxHeartbeats 4000000 in
set_option maxRecDepth 100000 in
theorem law_loop {p : Program} {l : Launch} {e : Env} {s : State} {m : MethodId} {below : List Frame} {meth : Method} {c : Code} {b L : Nat} {xs : Nat → Int32} (hL : L ≤ 1536) (C0 : lw_At p s m meth c b L xs) (Rel : Nat → tPP → tMD → Prop) (U : tPP → Nat) (hOK : LawOK Rel U) (G : pG) (hK : va_K G.1 vwCl (tyG G) s) (q0 q1 : Nat) (ad adS adR adT adL : Nat → Nat) :
    ∀ (n j : Nat) (σ : tPP) (μ : tMD) (wP wM : va_W) (H : Heap) (locs : List Loc) (ls : Array Slot), 3 * j ≤ L → L < 3 * j + n → Rel j σ μ → pPP G q0 ad adS adR adT adL σ wP → pMD G q1 μ wM → bk G.1 vwCl (fun q : Nat => s.heap.size ≤ q) [wP, wM] H → va_S (fun q : Nat => s.heap.size ≤ q) s.heap H locs → lv_has ls 4 [(0, .ref b), (1, .ref q0), (2, .ref q1), (3, .int (nI (3 * j)))] → W p l e room_1 s m #[Value.ref b] below meth c H locs (258310 + U σ) (258310 + U σ) (lw_Z below #[Value.ref b] s) (F0 m 18 ls []) := by
  obtain ⟨hx, hb, hr, hml, hown, hts0, hX, hbl, hlocks, hgv⟩ := C0
  have hts := fun w (h : w ∈ lw_g) => hts0 w (lw_gt h)
  have hown : s.vm.findClass RLW = some m.cls := hown
  obtain ⟨hR0, hU, hnx, hc_statement, hc_mandatory, hc_make, hc_again, hc_clear, hc_count, hc_row, hc_frm, hc_same, hc_pack, hc_step, hc_saves, hc_label, hc_packed, hc_letter, hc_size, hc_full, hc_check⟩ := hOK
  have hA : ∀ q : Nat, s.heap.size ≤ q → (fun q : Nat => s.heap.size ≤ q) q := fun _ h => h
  have hbA : ¬ (fun q : Nat => s.heap.size ≤ q) b := Nat.not_le.mpr hbl
  intro n
  induction n with
  | zero => intro j σ μ wP wM H locs ls h1 h2; exact absurd h2 (by omega)
  | succ n ih =>
    intro j σ μ wP wM H locs ls hj3 hn hRel hp hm hB hS hl
    have hUσ := hU _ _ _ hRel
    have hq : 258310 + U σ ≤ room_1.cells ∧ 258310 + U σ ≤ room_1.slots := lw_rm (by omega)
    refine lv_iload_n hx hb d_LW_law_18 rfl (lv_at hl 3 rfl) ?_
    refine lv_aload_n hx hb d_LW_law_19 rfl (lv_at hl 0 rfl) ?_
    refine va_slen hx hb hX hbl hbA hS d_LW_law_20 ?_
    refine lv_iconst (v := 3) hx hb d_LW_law_21 (by decide) ?_
    refine lv_isub hx hb d_LW_law_22 ?_
    refine lv_icmp_gt (tgt := 541) hx hb d_LW_law_23 (by decide) (fun c0 => ?_) (fun c0 => ?_)
    · refine lv_iconst (v := 1) hx hb d_LW_law_541 (by decide) ?_
      refine va_forget (fun q hq => hS.2.2 q hq) ?_
      refine W.widen (k := 600000) (n := 7302250) (by omega) (by omega) ?_
      exact lw_ret hx hb hr hlocks d_LW_law_542
    · have hj3' : 3 * j + 3 ≤ L := lw_in c0 (by omega) (by omega)
      have hj : j < 512 := by omega
      have hin0 : vp_in (nI (3 * j)) L := vp_in_nI (by omega) (by omega)
      have hin1 : vp_in (nI (3 * j) + 1) L := by rw [nI_1]; exact vp_in_nI (by omega) (by omega)
      have hin2 : vp_in (nI (3 * j) + 2) L := by rw [show nI (3 * j) + 2 = nI (3 * j + 2) from nI_add (3 * j) 2]; exact vp_in_nI (by omega) (by omega)
      obtain ⟨a0, ha0⟩ : ∃ z, xs (nI (3 * j)).toNatClampNeg = z := ⟨_, rfl⟩
      obtain ⟨a1, ha1⟩ : ∃ z, xs (nI (3 * j) + 1).toNatClampNeg = z := ⟨_, rfl⟩
      obtain ⟨a2, ha2⟩ : ∃ z, xs (nI (3 * j) + 2).toNatClampNeg = z := ⟨_, rfl⟩
      have tail : ∀ (j2 : Nat) (σ' : tPP) (μ' : tMD) (wP wM : va_W) (H : Heap) (locs : List Loc) (ls : Array Slot), Rel j2 σ' μ' → pPP G q0 ad adS adR adT adL σ' wP → pMD G q1 μ' wM → bk G.1 vwCl (fun q : Nat => s.heap.size ≤ q) [wP, wM] H → va_S (fun q : Nat => s.heap.size ≤ q) s.heap H locs → lv_has ls 4 [(0, .ref b), (1, .ref q0), (2, .ref q1), (3, .int (nI (3 * j)))] → j2 = j + 1 → W p l e room_1 s m #[Value.ref b] below meth c H locs (258310 + U σ') (258310 + U σ') (lw_Z below #[Value.ref b] s) (F0 m 535 ls []) := by
        intro j2 σ' μ' wP wM H locs ls hRel hp hm hB hS hl e2
        subst e2
        refine lv_iinc (v := nI (3 * (j + 1))) (lv' := [(3, .int (nI (3 * (j + 1)))), (0, .ref b), (1, .ref q0), (2, .ref q1)]) hx hb d_LW_law_535 hl (k := 3) rfl (by rw [show 3 * (j + 1) = 3 * j + 3 by omega]; exact nI_add (3 * j) 3) (by decide) rfl (fun ls hl => ?_)
        refine lv_goto (tgt := 18) hx hb d_LW_law_538 (by decide) ?_
        exact ih (j + 1) σ' μ' wP wM H locs ls (by omega) (by omega) hRel hp hm hB hS (lv_sub hl [1, 2, 3, 0] rfl)
      refine lv_aload_n hx hb d_LW_law_26 rfl (lv_at hl 0 rfl) ?_
      refine lv_iload_n hx hb d_LW_law_27 rfl (lv_at hl 3 rfl) ?_
      refine va_sld hx hb hX hbl hbA hS hin0 d_LW_law_28 ?_
      rw [ha0]
      refine lv_bipush (v := 31) hx hb d_LW_law_29 (by decide) ?_
      refine lv_iand hx hb d_LW_law_31 ?_
      generalize a0 &&& 31 = op
      by_cases c0 : op = 0
      · refine lv_tableIn (off := 88) (tgt := 120) hx hb d_LW_law_32 (by rw [c0]; decide) (by rw [c0]; decide) (by rw [c0]; rfl) (by decide) ?_
        have ob := hc_statement j σ μ a1 hj hRel
        obtain ⟨μ', hmm, hcost, hRel'⟩ := ob
        refine lv_aload_n hx hb d_LW_law_120 rfl (lv_at hl 1 rfl) ?_
        refine lv_aload_n hx hb d_LW_law_121 rfl (lv_at hl 0 rfl) ?_
        refine lv_iload_n hx hb d_LW_law_122 rfl (lv_at hl 3 rfl) ?_
        refine lv_iconst (v := 1) hx hb d_LW_law_123 (by decide) ?_
        refine lv_iadd hx hb d_LW_law_124 ?_
        refine va_sld hx hb hX hbl hbA hS hin1 d_LW_law_125 ?_
        rw [ha1]
        obtain ⟨T, hT⟩ : ∃ z, A_PP_statement σ a1 = z := ⟨_, rfl⟩
        rw [hT] at hmm hcost hRel'
        have hU' := hU _ _ _ hRel'
        obtain ⟨Kv, hKv⟩ : ∃ z, K_PP_statement σ a1 = z := ⟨_, rfl⟩
        rw [hKv] at hcost
        refine wrL (G := G) (k := 0) (K := Kv) (As := [.int a1]) (rest := []) (C := RPP) ⟨hx, hb, hml, hown, hts⟩ (c_PP_statement l G q0 ad adS adR adT adL σ a1 _ _ (bk_gP (k := 0) hB.1 rfl) (bk_own (k := 0) hB rfl) hp T hT Kv hKv (by omega)) (cwV 1 hts (gd_V ml_LW_13 im_PP_statement sl_PP_statement ini_PP k_PP_statement) rfl rmK_c rmK_s (by decide +kernel) ⟨Nat.le_of_ble_eq_true rfl, Nat.le_of_ble_eq_true rfl⟩) hK (pPP_recv hK (bk_gP (k := 0) hB.1 rfl) hp) hS hA hB rfl (lw_rm (by omega)) rfl hl.1 (Nat.le_of_ble_eq_true rfl) d_LW_law_126 (fun u0 H locs hp hB hS => ?_)
        have hB : bk G.1 vwCl (fun q : Nat => s.heap.size ≤ q) [u0, wM] H := hB
        refine W.widen (k := 258310 + U T.2) (n := 258310 + U T.2) (by omega) (by omega) ?_
        refine lv_aload_n hx hb d_LW_law_129 rfl (lv_at hl 2 rfl) ?_
        refine lv_aload_n hx hb d_LW_law_130 rfl (lv_at hl 0 rfl) ?_
        refine lv_iload_n hx hb d_LW_law_131 rfl (lv_at hl 3 rfl) ?_
        refine lv_iconst (v := 1) hx hb d_LW_law_132 (by decide) ?_
        refine lv_iadd hx hb d_LW_law_133 ?_
        refine va_sld hx hb hX hbl hbA hS hin1 d_LW_law_134 ?_
        rw [ha1]
        refine wrL (G := G) (k := 1) (K := 0) (As := [.int a1]) (rest := [.int T.1]) (C := RMD) ⟨hx, hb, hml, hown, hts⟩ (c_MD_statement l G q1 μ a1 _ _ (bk_gP (k := 1) hB.1 rfl) (bk_own (k := 1) hB rfl) hm _ hmm) (cwV 1 hts (gd_V ml_LW_17 im_MD_statement sl_MD_statement ini_MD k_MD_statement) rfl rmK_c rmK_s (by decide +kernel) ⟨Nat.le_of_ble_eq_true rfl, Nat.le_of_ble_eq_true rfl⟩) hK (pMD_recv hK (bk_gP (k := 1) hB.1 rfl) hm) hS hA hB rfl (lw_rm (by omega)) rfl hl.1 (Nat.le_of_ble_eq_true rfl) d_LW_law_135 (fun u1 H locs hm hB hS => ?_)
        have hB : bk G.1 vwCl (fun q : Nat => s.heap.size ≤ q) [u0, u1] H := hB
        refine lv_icmp_eq (tgt := 535) hx hb d_LW_law_138 (by decide) (fun c1 => ?_) (fun c1 => absurd (rfl) c1)
        exact tail (j + 1) T.2 μ' u0 u1 H locs ls hRel' hp hm hB hS hl rfl
      by_cases c1 : op = 1
      · refine lv_tableIn (off := 111) (tgt := 143) hx hb d_LW_law_32 (by rw [c1]; decide) (by rw [c1]; decide) (by rw [c1]; rfl) (by decide) ?_
        have ob := hc_mandatory j σ μ a1 hj hRel
        obtain ⟨μ', hmm, hcost, hRel'⟩ := ob
        refine lv_aload_n hx hb d_LW_law_143 rfl (lv_at hl 1 rfl) ?_
        refine lv_aload_n hx hb d_LW_law_144 rfl (lv_at hl 0 rfl) ?_
        refine lv_iload_n hx hb d_LW_law_145 rfl (lv_at hl 3 rfl) ?_
        refine lv_iconst (v := 1) hx hb d_LW_law_146 (by decide) ?_
        refine lv_iadd hx hb d_LW_law_147 ?_
        refine va_sld hx hb hX hbl hbA hS hin1 d_LW_law_148 ?_
        rw [ha1]
        obtain ⟨T, hT⟩ : ∃ z, A_PP_mandatory σ a1 = z := ⟨_, rfl⟩
        rw [hT] at hmm hcost hRel'
        have hU' := hU _ _ _ hRel'
        refine wrL (G := G) (k := 0) (K := 0) (As := [.int a1]) (rest := []) (C := RPP) ⟨hx, hb, hml, hown, hts⟩ (c_PP_mandatory l G q0 ad adS adR adT adL σ a1 _ _ (bk_gP (k := 0) hB.1 rfl) (bk_own (k := 0) hB rfl) hp T hT) (cwV 1 hts (gd_V ml_LW_18 im_PP_mandatory sl_PP_mandatory ini_PP k_PP_mandatory) rfl rmK_c rmK_s (by decide +kernel) ⟨Nat.le_of_ble_eq_true rfl, Nat.le_of_ble_eq_true rfl⟩) hK (pPP_recv hK (bk_gP (k := 0) hB.1 rfl) hp) hS hA hB rfl (lw_rm (by omega)) rfl hl.1 (Nat.le_of_ble_eq_true rfl) d_LW_law_149 (fun u0 H locs hp hB hS => ?_)
        have hB : bk G.1 vwCl (fun q : Nat => s.heap.size ≤ q) [u0, wM] H := hB
        refine W.widen (k := 258310 + U T.2) (n := 258310 + U T.2) (by omega) (by omega) ?_
        refine lv_aload_n hx hb d_LW_law_152 rfl (lv_at hl 2 rfl) ?_
        refine lv_aload_n hx hb d_LW_law_153 rfl (lv_at hl 0 rfl) ?_
        refine lv_iload_n hx hb d_LW_law_154 rfl (lv_at hl 3 rfl) ?_
        refine lv_iconst (v := 1) hx hb d_LW_law_155 (by decide) ?_
        refine lv_iadd hx hb d_LW_law_156 ?_
        refine va_sld hx hb hX hbl hbA hS hin1 d_LW_law_157 ?_
        rw [ha1]
        refine wrL (G := G) (k := 1) (K := 0) (As := [.int a1]) (rest := [.int T.1]) (C := RMD) ⟨hx, hb, hml, hown, hts⟩ (c_MD_mandatory l G q1 μ a1 _ _ (bk_gP (k := 1) hB.1 rfl) (bk_own (k := 1) hB rfl) hm _ hmm) (cwV 1 hts (gd_V ml_LW_21 im_MD_mandatory sl_MD_mandatory ini_MD k_MD_mandatory) rfl rmK_c rmK_s (by decide +kernel) ⟨Nat.le_of_ble_eq_true rfl, Nat.le_of_ble_eq_true rfl⟩) hK (pMD_recv hK (bk_gP (k := 1) hB.1 rfl) hm) hS hA hB rfl (lw_rm (by omega)) rfl hl.1 (Nat.le_of_ble_eq_true rfl) d_LW_law_158 (fun u1 H locs hm hB hS => ?_)
        have hB : bk G.1 vwCl (fun q : Nat => s.heap.size ≤ q) [u0, u1] H := hB
        refine lv_icmp_eq (tgt := 535) hx hb d_LW_law_161 (by decide) (fun c1 => ?_) (fun c1 => absurd (rfl) c1)
        exact tail (j + 1) T.2 μ' u0 u1 H locs ls hRel' hp hm hB hS hl rfl
      by_cases c2 : op = 2
      · refine lv_tableIn (off := 134) (tgt := 166) hx hb d_LW_law_32 (by rw [c2]; decide) (by rw [c2]; decide) (by rw [c2]; rfl) (by decide) ?_
        have ob := hc_make j σ μ a1 hj hRel
        obtain ⟨μ', hmm, hcost, hRel'⟩ := ob
        refine lv_aload_n hx hb d_LW_law_166 rfl (lv_at hl 1 rfl) ?_
        refine lv_aload_n hx hb d_LW_law_167 rfl (lv_at hl 0 rfl) ?_
        refine lv_iload_n hx hb d_LW_law_168 rfl (lv_at hl 3 rfl) ?_
        refine lv_iconst (v := 1) hx hb d_LW_law_169 (by decide) ?_
        refine lv_iadd hx hb d_LW_law_170 ?_
        refine va_sld hx hb hX hbl hbA hS hin1 d_LW_law_171 ?_
        rw [ha1]
        obtain ⟨T, hT⟩ : ∃ z, A_PP_make σ a1 = z := ⟨_, rfl⟩
        rw [hT] at hmm hcost hRel'
        have hU' := hU _ _ _ hRel'
        obtain ⟨Kv, hKv⟩ : ∃ z, K_PP_make σ a1 = z := ⟨_, rfl⟩
        rw [hKv] at hcost
        refine wrL (G := G) (k := 0) (K := Kv) (As := [.int a1]) (rest := []) (C := RPP) ⟨hx, hb, hml, hown, hts⟩ (c_PP_make l G q0 ad adS adR adT adL σ a1 _ _ (bk_gP (k := 0) hB.1 rfl) (bk_own (k := 0) hB rfl) hp T hT Kv hKv (by omega)) (cwV 1 hts (gd_V ml_LW_22 im_PP_make sl_PP_make ini_PP k_PP_make) rfl rmK_c rmK_s (by decide +kernel) ⟨Nat.le_of_ble_eq_true rfl, Nat.le_of_ble_eq_true rfl⟩) hK (pPP_recv hK (bk_gP (k := 0) hB.1 rfl) hp) hS hA hB rfl (lw_rm (by omega)) rfl hl.1 (Nat.le_of_ble_eq_true rfl) d_LW_law_172 (fun u0 H locs hp hB hS => ?_)
        have hB : bk G.1 vwCl (fun q : Nat => s.heap.size ≤ q) [u0, wM] H := hB
        refine W.widen (k := 258310 + U T.2) (n := 258310 + U T.2) (by omega) (by omega) ?_
        refine lv_aload_n hx hb d_LW_law_175 rfl (lv_at hl 2 rfl) ?_
        refine lv_aload_n hx hb d_LW_law_176 rfl (lv_at hl 0 rfl) ?_
        refine lv_iload_n hx hb d_LW_law_177 rfl (lv_at hl 3 rfl) ?_
        refine lv_iconst (v := 1) hx hb d_LW_law_178 (by decide) ?_
        refine lv_iadd hx hb d_LW_law_179 ?_
        refine va_sld hx hb hX hbl hbA hS hin1 d_LW_law_180 ?_
        rw [ha1]
        refine wrL (G := G) (k := 1) (K := 0) (As := [.int a1]) (rest := [.int T.1]) (C := RMD) ⟨hx, hb, hml, hown, hts⟩ (c_MD_make l G q1 μ a1 _ _ (bk_gP (k := 1) hB.1 rfl) (bk_own (k := 1) hB rfl) hm _ hmm) (cwV 1 hts (gd_V ml_LW_25 im_MD_make sl_MD_make ini_MD k_MD_make) rfl rmK_c rmK_s (by decide +kernel) ⟨Nat.le_of_ble_eq_true rfl, Nat.le_of_ble_eq_true rfl⟩) hK (pMD_recv hK (bk_gP (k := 1) hB.1 rfl) hm) hS hA hB rfl (lw_rm (by omega)) rfl hl.1 (Nat.le_of_ble_eq_true rfl) d_LW_law_181 (fun u1 H locs hm hB hS => ?_)
        have hB : bk G.1 vwCl (fun q : Nat => s.heap.size ≤ q) [u0, u1] H := hB
        refine lv_icmp_eq (tgt := 535) hx hb d_LW_law_184 (by decide) (fun c1 => ?_) (fun c1 => absurd (rfl) c1)
        exact tail (j + 1) T.2 μ' u0 u1 H locs ls hRel' hp hm hB hS hl rfl
      by_cases c3 : op = 3
      · refine lv_tableIn (off := 157) (tgt := 189) hx hb d_LW_law_32 (by rw [c3]; decide) (by rw [c3]; decide) (by rw [c3]; rfl) (by decide) ?_
        have ob := hc_again j σ μ a1 hj hRel
        obtain ⟨μ', hmm, hcost, hRel'⟩ := ob
        refine lv_aload_n hx hb d_LW_law_189 rfl (lv_at hl 1 rfl) ?_
        refine lv_aload_n hx hb d_LW_law_190 rfl (lv_at hl 0 rfl) ?_
        refine lv_iload_n hx hb d_LW_law_191 rfl (lv_at hl 3 rfl) ?_
        refine lv_iconst (v := 1) hx hb d_LW_law_192 (by decide) ?_
        refine lv_iadd hx hb d_LW_law_193 ?_
        refine va_sld hx hb hX hbl hbA hS hin1 d_LW_law_194 ?_
        rw [ha1]
        obtain ⟨T, hT⟩ : ∃ z, A_PP_again σ a1 = z := ⟨_, rfl⟩
        rw [hT] at hmm hcost hRel'
        have hU' := hU _ _ _ hRel'
        obtain ⟨Kv, hKv⟩ : ∃ z, K_PP_again σ a1 = z := ⟨_, rfl⟩
        rw [hKv] at hcost
        refine wrL (G := G) (k := 0) (K := Kv) (As := [.int a1]) (rest := []) (C := RPP) ⟨hx, hb, hml, hown, hts⟩ (c_PP_again l G q0 ad adS adR adT adL σ a1 _ _ (bk_gP (k := 0) hB.1 rfl) (bk_own (k := 0) hB rfl) hp T hT Kv hKv (by omega)) (cwV 1 hts (gd_V ml_LW_26 im_PP_again sl_PP_again ini_PP k_PP_again) rfl rmK_c rmK_s (by decide +kernel) ⟨Nat.le_of_ble_eq_true rfl, Nat.le_of_ble_eq_true rfl⟩) hK (pPP_recv hK (bk_gP (k := 0) hB.1 rfl) hp) hS hA hB rfl (lw_rm (by omega)) rfl hl.1 (Nat.le_of_ble_eq_true rfl) d_LW_law_195 (fun u0 H locs hp hB hS => ?_)
        have hB : bk G.1 vwCl (fun q : Nat => s.heap.size ≤ q) [u0, wM] H := hB
        refine W.widen (k := 258310 + U T.2) (n := 258310 + U T.2) (by omega) (by omega) ?_
        refine lv_aload_n hx hb d_LW_law_198 rfl (lv_at hl 2 rfl) ?_
        refine lv_aload_n hx hb d_LW_law_199 rfl (lv_at hl 0 rfl) ?_
        refine lv_iload_n hx hb d_LW_law_200 rfl (lv_at hl 3 rfl) ?_
        refine lv_iconst (v := 1) hx hb d_LW_law_201 (by decide) ?_
        refine lv_iadd hx hb d_LW_law_202 ?_
        refine va_sld hx hb hX hbl hbA hS hin1 d_LW_law_203 ?_
        rw [ha1]
        refine wrL (G := G) (k := 1) (K := 0) (As := [.int a1]) (rest := [.int T.1]) (C := RMD) ⟨hx, hb, hml, hown, hts⟩ (c_MD_again l G q1 μ a1 _ _ (bk_gP (k := 1) hB.1 rfl) (bk_own (k := 1) hB rfl) hm _ hmm) (cwV 1 hts (gd_V ml_LW_29 im_MD_again sl_MD_again ini_MD k_MD_again) rfl rmK_c rmK_s (by decide +kernel) ⟨Nat.le_of_ble_eq_true rfl, Nat.le_of_ble_eq_true rfl⟩) hK (pMD_recv hK (bk_gP (k := 1) hB.1 rfl) hm) hS hA hB rfl (lw_rm (by omega)) rfl hl.1 (Nat.le_of_ble_eq_true rfl) d_LW_law_204 (fun u1 H locs hm hB hS => ?_)
        have hB : bk G.1 vwCl (fun q : Nat => s.heap.size ≤ q) [u0, u1] H := hB
        refine lv_icmp_eq (tgt := 535) hx hb d_LW_law_207 (by decide) (fun c1 => ?_) (fun c1 => absurd (rfl) c1)
        exact tail (j + 1) T.2 μ' u0 u1 H locs ls hRel' hp hm hB hS hl rfl
      by_cases c4 : op = 4
      · refine lv_tableIn (off := 180) (tgt := 212) hx hb d_LW_law_32 (by rw [c4]; decide) (by rw [c4]; decide) (by rw [c4]; rfl) (by decide) ?_
        have ob := hc_clear j σ μ hj hRel
        obtain ⟨hmm, hcost, hRel'⟩ := ob
        refine lv_aload_n hx hb d_LW_law_212 rfl (lv_at hl 1 rfl) ?_
        obtain ⟨T, hT⟩ : ∃ z, A_PP_clear σ = z := ⟨_, rfl⟩
        rw [hT] at hmm hcost hRel'
        have hU' := hU _ _ _ hRel'
        refine wrL (G := G) (k := 0) (K := 0) (As := []) (rest := []) (C := RPP) ⟨hx, hb, hml, hown, hts⟩ (c_PP_clear l G q0 ad adS adR adT adL σ _ _ (bk_gP (k := 0) hB.1 rfl) (bk_own (k := 0) hB rfl) hp T hT) (cwV 0 hts (gd_V ml_LW_30 im_PP_clear sl_PP_clear ini_PP k_PP_clear) rfl rmK_c rmK_s (by decide +kernel) ⟨Nat.le_of_ble_eq_true rfl, Nat.le_of_ble_eq_true rfl⟩) hK (pPP_recv hK (bk_gP (k := 0) hB.1 rfl) hp) hS hA hB rfl (lw_rm (by omega)) rfl hl.1 (Nat.le_of_ble_eq_true rfl) d_LW_law_213 (fun u0 H locs hp hB hS => ?_)
        have hB : bk G.1 vwCl (fun q : Nat => s.heap.size ≤ q) [u0, wM] H := hB
        refine W.widen (k := 258310 + U T.2) (n := 258310 + U T.2) (by omega) (by omega) ?_
        refine lv_aload_n hx hb d_LW_law_216 rfl (lv_at hl 2 rfl) ?_
        obtain ⟨V, hV⟩ : ∃ z, A_MD_clear μ = z := ⟨_, rfl⟩
        rw [hV] at hmm hRel'
        refine wrL (G := G) (k := 1) (K := 0) (As := []) (rest := [.int T.1]) (C := RMD) ⟨hx, hb, hml, hown, hts⟩ (c_MD_clear l G q1 μ _ _ (bk_gP (k := 1) hB.1 rfl) (bk_own (k := 1) hB rfl) hm V hV) (cwV 0 hts (gd_V ml_LW_34 im_MD_clear sl_MD_clear ini_MD k_MD_clear) rfl rmK_c rmK_s (by decide +kernel) ⟨Nat.le_of_ble_eq_true rfl, Nat.le_of_ble_eq_true rfl⟩) hK (pMD_recv hK (bk_gP (k := 1) hB.1 rfl) hm) hS hA hB rfl (lw_rm (by omega)) rfl hl.1 (Nat.le_of_ble_eq_true rfl) d_LW_law_217 (fun u1 H locs hm hB hS => ?_)
        have hB : bk G.1 vwCl (fun q : Nat => s.heap.size ≤ q) [u0, u1] H := hB
        refine lv_icmp_eq (tgt := 535) hx hb d_LW_law_220 (by decide) (fun c1 => ?_) (fun c1 => absurd (hmm.symm) c1)
        exact tail (j + 1) T.2 V.2 u0 u1 H locs ls hRel' hp hm hB hS hl rfl
      by_cases c5 : op = 5
      · refine lv_tableIn (off := 193) (tgt := 225) hx hb d_LW_law_32 (by rw [c5]; decide) (by rw [c5]; decide) (by rw [c5]; rfl) (by decide) ?_
        have ob := hc_count j σ μ a1 hj hRel
        have hmm := ob
        refine lv_aload_n hx hb d_LW_law_225 rfl (lv_at hl 1 rfl) ?_
        refine lv_aload_n hx hb d_LW_law_226 rfl (lv_at hl 0 rfl) ?_
        refine lv_iload_n hx hb d_LW_law_227 rfl (lv_at hl 3 rfl) ?_
        refine lv_iconst (v := 1) hx hb d_LW_law_228 (by decide) ?_
        refine lv_iadd hx hb d_LW_law_229 ?_
        refine va_sld hx hb hX hbl hbA hS hin1 d_LW_law_230 ?_
        rw [ha1]
        refine rdV (G := G) (As := [.int a1]) (rest := []) (C := RPP) ⟨hx, hb, hml, hown, hts⟩ (c_PP_count l G q0 ad adS adR adT adL σ a1 _ _ (bk_gP (k := 0) hB.1 rfl) hp _ rfl) (cwV 1 hts (gd_V ml_LW_35 im_PP_count sl_PP_count ini_PP k_PP_count) rfl rmK_c rmK_s (by decide +kernel) ⟨Nat.le_of_ble_eq_true rfl, Nat.le_of_ble_eq_true rfl⟩) hK (pPP_recv hK (bk_gP (k := 0) hB.1 rfl) hp) hS hq rfl hl.1 (Nat.le_of_ble_eq_true rfl) d_LW_law_231 (fun locs hS => ?_)
        refine lv_aload_n hx hb d_LW_law_234 rfl (lv_at hl 2 rfl) ?_
        refine lv_aload_n hx hb d_LW_law_235 rfl (lv_at hl 0 rfl) ?_
        refine lv_iload_n hx hb d_LW_law_236 rfl (lv_at hl 3 rfl) ?_
        refine lv_iconst (v := 1) hx hb d_LW_law_237 (by decide) ?_
        refine lv_iadd hx hb d_LW_law_238 ?_
        refine va_sld hx hb hX hbl hbA hS hin1 d_LW_law_239 ?_
        rw [ha1]
        refine rdV (G := G) (As := [.int a1]) (rest := [.int (A_PP_count σ a1)]) (C := RMD) ⟨hx, hb, hml, hown, hts⟩ (c_MD_count l G q1 μ a1 _ _ (bk_gP (k := 1) hB.1 rfl) hm _ hmm) (cwV 1 hts (gd_V ml_LW_38 im_MD_count sl_MD_count ini_MD k_MD_count) rfl rmK_c rmK_s (by decide +kernel) ⟨Nat.le_of_ble_eq_true rfl, Nat.le_of_ble_eq_true rfl⟩) hK (pMD_recv hK (bk_gP (k := 1) hB.1 rfl) hm) hS hq rfl hl.1 (Nat.le_of_ble_eq_true rfl) d_LW_law_240 (fun locs hS => ?_)
        refine lv_icmp_eq (tgt := 535) hx hb d_LW_law_243 (by decide) (fun c1 => ?_) (fun c1 => absurd (rfl) c1)
        exact tail (j + 1) σ μ wP wM H locs ls (hnx j σ μ hRel) hp hm hB hS hl rfl
      by_cases c6 : op = 6
      · refine lv_tableIn (off := 216) (tgt := 248) hx hb d_LW_law_32 (by rw [c6]; decide) (by rw [c6]; decide) (by rw [c6]; rfl) (by decide) ?_
        have ob := hc_row j σ μ a1 hj hRel
        have hmm := ob
        refine lv_aload_n hx hb d_LW_law_248 rfl (lv_at hl 1 rfl) ?_
        refine lv_aload_n hx hb d_LW_law_249 rfl (lv_at hl 0 rfl) ?_
        refine lv_iload_n hx hb d_LW_law_250 rfl (lv_at hl 3 rfl) ?_
        refine lv_iconst (v := 1) hx hb d_LW_law_251 (by decide) ?_
        refine lv_iadd hx hb d_LW_law_252 ?_
        refine va_sld hx hb hX hbl hbA hS hin1 d_LW_law_253 ?_
        rw [ha1]
        refine rdV (G := G) (As := [.int a1]) (rest := []) (C := RPP) ⟨hx, hb, hml, hown, hts⟩ (c_PP_row l G q0 ad adS adR adT adL σ a1 _ _ (bk_gP (k := 0) hB.1 rfl) hp _ rfl) (cwV 1 hts (gd_V ml_LW_39 im_PP_row sl_PP_row ini_PP k_PP_row) rfl rmK_c rmK_s (by decide +kernel) ⟨Nat.le_of_ble_eq_true rfl, Nat.le_of_ble_eq_true rfl⟩) hK (pPP_recv hK (bk_gP (k := 0) hB.1 rfl) hp) hS hq rfl hl.1 (Nat.le_of_ble_eq_true rfl) d_LW_law_254 (fun locs hS => ?_)
        refine lv_aload_n hx hb d_LW_law_257 rfl (lv_at hl 2 rfl) ?_
        refine lv_aload_n hx hb d_LW_law_258 rfl (lv_at hl 0 rfl) ?_
        refine lv_iload_n hx hb d_LW_law_259 rfl (lv_at hl 3 rfl) ?_
        refine lv_iconst (v := 1) hx hb d_LW_law_260 (by decide) ?_
        refine lv_iadd hx hb d_LW_law_261 ?_
        refine va_sld hx hb hX hbl hbA hS hin1 d_LW_law_262 ?_
        rw [ha1]
        refine rdV (G := G) (As := [.int a1]) (rest := [.int (A_PP_row σ a1)]) (C := RMD) ⟨hx, hb, hml, hown, hts⟩ (c_MD_row l G q1 μ a1 _ _ (bk_gP (k := 1) hB.1 rfl) hm _ hmm) (cwV 1 hts (gd_V ml_LW_42 im_MD_row sl_MD_row ini_MD k_MD_row) rfl rmK_c rmK_s (by decide +kernel) ⟨Nat.le_of_ble_eq_true rfl, Nat.le_of_ble_eq_true rfl⟩) hK (pMD_recv hK (bk_gP (k := 1) hB.1 rfl) hm) hS hq rfl hl.1 (Nat.le_of_ble_eq_true rfl) d_LW_law_263 (fun locs hS => ?_)
        refine lv_icmp_eq (tgt := 535) hx hb d_LW_law_266 (by decide) (fun c1 => ?_) (fun c1 => absurd (rfl) c1)
        exact tail (j + 1) σ μ wP wM H locs ls (hnx j σ μ hRel) hp hm hB hS hl rfl
      by_cases c7 : op = 7
      · refine lv_tableIn (off := 239) (tgt := 271) hx hb d_LW_law_32 (by rw [c7]; decide) (by rw [c7]; decide) (by rw [c7]; rfl) (by decide) ?_
        have ob := hc_frm j σ μ a1 a2 hj hRel
        have hmm := ob
        refine lv_aload_n hx hb d_LW_law_271 rfl (lv_at hl 1 rfl) ?_
        refine lv_aload_n hx hb d_LW_law_272 rfl (lv_at hl 0 rfl) ?_
        refine lv_iload_n hx hb d_LW_law_273 rfl (lv_at hl 3 rfl) ?_
        refine lv_iconst (v := 1) hx hb d_LW_law_274 (by decide) ?_
        refine lv_iadd hx hb d_LW_law_275 ?_
        refine va_sld hx hb hX hbl hbA hS hin1 d_LW_law_276 ?_
        rw [ha1]
        refine lv_aload_n hx hb d_LW_law_277 rfl (lv_at hl 0 rfl) ?_
        refine lv_iload_n hx hb d_LW_law_278 rfl (lv_at hl 3 rfl) ?_
        refine lv_iconst (v := 2) hx hb d_LW_law_279 (by decide) ?_
        refine lv_iadd hx hb d_LW_law_280 ?_
        refine va_sld hx hb hX hbl hbA hS hin2 d_LW_law_281 ?_
        rw [ha2]
        refine rdV (G := G) (As := [.int a1, .int a2]) (rest := []) (C := RPP) ⟨hx, hb, hml, hown, hts⟩ (c_PP_frm l G q0 ad adS adR adT adL σ a1 a2 _ _ (bk_gP (k := 0) hB.1 rfl) hp _ rfl) (cwV 2 hts (gd_V ml_LW_43 im_PP_frm sl_PP_frm ini_PP k_PP_frm) rfl rmK_c rmK_s (by decide +kernel) ⟨Nat.le_of_ble_eq_true rfl, Nat.le_of_ble_eq_true rfl⟩) hK (pPP_recv hK (bk_gP (k := 0) hB.1 rfl) hp) hS hq rfl hl.1 (Nat.le_of_ble_eq_true rfl) d_LW_law_282 (fun locs hS => ?_)
        refine lv_aload_n hx hb d_LW_law_285 rfl (lv_at hl 2 rfl) ?_
        refine lv_aload_n hx hb d_LW_law_286 rfl (lv_at hl 0 rfl) ?_
        refine lv_iload_n hx hb d_LW_law_287 rfl (lv_at hl 3 rfl) ?_
        refine lv_iconst (v := 1) hx hb d_LW_law_288 (by decide) ?_
        refine lv_iadd hx hb d_LW_law_289 ?_
        refine va_sld hx hb hX hbl hbA hS hin1 d_LW_law_290 ?_
        rw [ha1]
        refine lv_aload_n hx hb d_LW_law_291 rfl (lv_at hl 0 rfl) ?_
        refine lv_iload_n hx hb d_LW_law_292 rfl (lv_at hl 3 rfl) ?_
        refine lv_iconst (v := 2) hx hb d_LW_law_293 (by decide) ?_
        refine lv_iadd hx hb d_LW_law_294 ?_
        refine va_sld hx hb hX hbl hbA hS hin2 d_LW_law_295 ?_
        rw [ha2]
        refine rdV (G := G) (As := [.int a1, .int a2]) (rest := [.int (A_PP_frm σ a1 a2)]) (C := RMD) ⟨hx, hb, hml, hown, hts⟩ (c_MD_frm l G q1 μ a1 a2 _ _ (bk_gP (k := 1) hB.1 rfl) hm _ hmm) (cwV 2 hts (gd_V ml_LW_47 im_MD_frm sl_MD_frm ini_MD k_MD_frm) rfl rmK_c rmK_s (by decide +kernel) ⟨Nat.le_of_ble_eq_true rfl, Nat.le_of_ble_eq_true rfl⟩) hK (pMD_recv hK (bk_gP (k := 1) hB.1 rfl) hm) hS hq rfl hl.1 (Nat.le_of_ble_eq_true rfl) d_LW_law_296 (fun locs hS => ?_)
        refine lv_icmp_eq (tgt := 535) hx hb d_LW_law_299 (by decide) (fun c1 => ?_) (fun c1 => absurd (rfl) c1)
        exact tail (j + 1) σ μ wP wM H locs ls (hnx j σ μ hRel) hp hm hB hS hl rfl
      by_cases c8 : op = 8
      · refine lv_tableIn (off := 272) (tgt := 304) hx hb d_LW_law_32 (by rw [c8]; decide) (by rw [c8]; decide) (by rw [c8]; rfl) (by decide) ?_
        have ob := hc_same j σ μ a1 a2 hj hRel
        have hmm := ob
        refine lv_aload_n hx hb d_LW_law_304 rfl (lv_at hl 1 rfl) ?_
        refine lv_aload_n hx hb d_LW_law_305 rfl (lv_at hl 0 rfl) ?_
        refine lv_iload_n hx hb d_LW_law_306 rfl (lv_at hl 3 rfl) ?_
        refine lv_iconst (v := 1) hx hb d_LW_law_307 (by decide) ?_
        refine lv_iadd hx hb d_LW_law_308 ?_
        refine va_sld hx hb hX hbl hbA hS hin1 d_LW_law_309 ?_
        rw [ha1]
        refine lv_aload_n hx hb d_LW_law_310 rfl (lv_at hl 0 rfl) ?_
        refine lv_iload_n hx hb d_LW_law_311 rfl (lv_at hl 3 rfl) ?_
        refine lv_iconst (v := 2) hx hb d_LW_law_312 (by decide) ?_
        refine lv_iadd hx hb d_LW_law_313 ?_
        refine va_sld hx hb hX hbl hbA hS hin2 d_LW_law_314 ?_
        rw [ha2]
        refine rdV (G := G) (As := [.int a1, .int a2]) (rest := []) (C := RPP) ⟨hx, hb, hml, hown, hts⟩ (c_PP_same l G q0 ad adS adR adT adL σ a1 a2 _ _ (bk_gP (k := 0) hB.1 rfl) hp _ rfl) (cwV 2 hts (gd_V ml_LW_48 im_PP_same sl_PP_same ini_PP k_PP_same) rfl rmK_c rmK_s (by decide +kernel) ⟨Nat.le_of_ble_eq_true rfl, Nat.le_of_ble_eq_true rfl⟩) hK (pPP_recv hK (bk_gP (k := 0) hB.1 rfl) hp) hS hq rfl hl.1 (Nat.le_of_ble_eq_true rfl) d_LW_law_315 (fun locs hS => ?_)
        refine lv_aload_n hx hb d_LW_law_318 rfl (lv_at hl 2 rfl) ?_
        refine lv_aload_n hx hb d_LW_law_319 rfl (lv_at hl 0 rfl) ?_
        refine lv_iload_n hx hb d_LW_law_320 rfl (lv_at hl 3 rfl) ?_
        refine lv_iconst (v := 1) hx hb d_LW_law_321 (by decide) ?_
        refine lv_iadd hx hb d_LW_law_322 ?_
        refine va_sld hx hb hX hbl hbA hS hin1 d_LW_law_323 ?_
        rw [ha1]
        refine lv_aload_n hx hb d_LW_law_324 rfl (lv_at hl 0 rfl) ?_
        refine lv_iload_n hx hb d_LW_law_325 rfl (lv_at hl 3 rfl) ?_
        refine lv_iconst (v := 2) hx hb d_LW_law_326 (by decide) ?_
        refine lv_iadd hx hb d_LW_law_327 ?_
        refine va_sld hx hb hX hbl hbA hS hin2 d_LW_law_328 ?_
        rw [ha2]
        refine rdV (G := G) (As := [.int a1, .int a2]) (rest := [.int (A_PP_same σ a1 a2)]) (C := RMD) ⟨hx, hb, hml, hown, hts⟩ (c_MD_same l G q1 μ a1 a2 _ _ (bk_gP (k := 1) hB.1 rfl) hm _ hmm) (cwV 2 hts (gd_V ml_LW_51 im_MD_same sl_MD_same ini_MD k_MD_same) rfl rmK_c rmK_s (by decide +kernel) ⟨Nat.le_of_ble_eq_true rfl, Nat.le_of_ble_eq_true rfl⟩) hK (pMD_recv hK (bk_gP (k := 1) hB.1 rfl) hm) hS hq rfl hl.1 (Nat.le_of_ble_eq_true rfl) d_LW_law_329 (fun locs hS => ?_)
        refine lv_icmp_eq (tgt := 535) hx hb d_LW_law_332 (by decide) (fun c1 => ?_) (fun c1 => absurd (rfl) c1)
        exact tail (j + 1) σ μ wP wM H locs ls (hnx j σ μ hRel) hp hm hB hS hl rfl
      by_cases c9 : op = 9
      · refine lv_tableIn (off := 305) (tgt := 337) hx hb d_LW_law_32 (by rw [c9]; decide) (by rw [c9]; decide) (by rw [c9]; rfl) (by decide) ?_
        have ob := hc_pack j σ μ hj hRel
        obtain ⟨μ', hmm, hcost, hRel'⟩ := ob
        refine lv_aload_n hx hb d_LW_law_337 rfl (lv_at hl 1 rfl) ?_
        obtain ⟨T, hT⟩ : ∃ z, A_PP_pack σ = z := ⟨_, rfl⟩
        rw [hT] at hmm hcost hRel'
        have hU' := hU _ _ _ hRel'
        obtain ⟨Kv, hKv⟩ : ∃ z, K_PP_pack σ = z := ⟨_, rfl⟩
        rw [hKv] at hcost
        refine wrL (G := G) (k := 0) (K := Kv) (As := []) (rest := []) (C := RPP) ⟨hx, hb, hml, hown, hts⟩ (c_PP_pack l G q0 ad adS adR adT adL σ _ _ (bk_gP (k := 0) hB.1 rfl) (bk_own (k := 0) hB rfl) hp T hT Kv hKv (by omega)) (cwV 0 hts (gd_V ml_LW_52 im_PP_pack sl_PP_pack ini_PP k_PP_pack) rfl rmK_c rmK_s (by decide +kernel) ⟨Nat.le_of_ble_eq_true rfl, Nat.le_of_ble_eq_true rfl⟩) hK (pPP_recv hK (bk_gP (k := 0) hB.1 rfl) hp) hS hA hB rfl (lw_rm (by omega)) rfl hl.1 (Nat.le_of_ble_eq_true rfl) d_LW_law_338 (fun u0 H locs hp hB hS => ?_)
        have hB : bk G.1 vwCl (fun q : Nat => s.heap.size ≤ q) [u0, wM] H := hB
        refine W.widen (k := 258310 + U T.2) (n := 258310 + U T.2) (by omega) (by omega) ?_
        refine lv_aload_n hx hb d_LW_law_341 rfl (lv_at hl 2 rfl) ?_
        refine wrL (G := G) (k := 1) (K := 0) (As := []) (rest := [.int T.1]) (C := RMD) ⟨hx, hb, hml, hown, hts⟩ (c_MD_pack l G q1 μ _ _ (bk_gP (k := 1) hB.1 rfl) (bk_own (k := 1) hB rfl) hm _ hmm) (cwV 0 hts (gd_V ml_LW_55 im_MD_pack sl_MD_pack ini_MD k_MD_pack) rfl rmK_c rmK_s (by decide +kernel) ⟨Nat.le_of_ble_eq_true rfl, Nat.le_of_ble_eq_true rfl⟩) hK (pMD_recv hK (bk_gP (k := 1) hB.1 rfl) hm) hS hA hB rfl (lw_rm (by omega)) rfl hl.1 (Nat.le_of_ble_eq_true rfl) d_LW_law_342 (fun u1 H locs hm hB hS => ?_)
        have hB : bk G.1 vwCl (fun q : Nat => s.heap.size ≤ q) [u0, u1] H := hB
        refine lv_icmp_eq (tgt := 535) hx hb d_LW_law_345 (by decide) (fun c1 => ?_) (fun c1 => absurd (rfl) c1)
        exact tail (j + 1) T.2 μ' u0 u1 H locs ls hRel' hp hm hB hS hl rfl
      by_cases c10 : op = 10
      · refine lv_tableIn (off := 318) (tgt := 350) hx hb d_LW_law_32 (by rw [c10]; decide) (by rw [c10]; decide) (by rw [c10]; rfl) (by decide) ?_
        have ob := hc_step j σ μ a1 hj hRel
        have hmm := ob
        refine lv_aload_n hx hb d_LW_law_350 rfl (lv_at hl 1 rfl) ?_
        refine lv_aload_n hx hb d_LW_law_351 rfl (lv_at hl 0 rfl) ?_
        refine lv_iload_n hx hb d_LW_law_352 rfl (lv_at hl 3 rfl) ?_
        refine lv_iconst (v := 1) hx hb d_LW_law_353 (by decide) ?_
        refine lv_iadd hx hb d_LW_law_354 ?_
        refine va_sld hx hb hX hbl hbA hS hin1 d_LW_law_355 ?_
        rw [ha1]
        refine rdV (G := G) (As := [.int a1]) (rest := []) (C := RPP) ⟨hx, hb, hml, hown, hts⟩ (c_PP_step l G q0 ad adS adR adT adL σ a1 _ _ (bk_gP (k := 0) hB.1 rfl) hp _ rfl) (cwV 1 hts (gd_V ml_LW_56 im_PP_step sl_PP_step ini_PP k_PP_step) rfl rmK_c rmK_s (by decide +kernel) ⟨Nat.le_of_ble_eq_true rfl, Nat.le_of_ble_eq_true rfl⟩) hK (pPP_recv hK (bk_gP (k := 0) hB.1 rfl) hp) hS hq rfl hl.1 (Nat.le_of_ble_eq_true rfl) d_LW_law_356 (fun locs hS => ?_)
        refine lv_aload_n hx hb d_LW_law_359 rfl (lv_at hl 2 rfl) ?_
        refine lv_aload_n hx hb d_LW_law_360 rfl (lv_at hl 0 rfl) ?_
        refine lv_iload_n hx hb d_LW_law_361 rfl (lv_at hl 3 rfl) ?_
        refine lv_iconst (v := 1) hx hb d_LW_law_362 (by decide) ?_
        refine lv_iadd hx hb d_LW_law_363 ?_
        refine va_sld hx hb hX hbl hbA hS hin1 d_LW_law_364 ?_
        rw [ha1]
        refine rdV (G := G) (As := [.int a1]) (rest := [.int (A_PP_step σ a1)]) (C := RMD) ⟨hx, hb, hml, hown, hts⟩ (c_MD_step l G q1 μ a1 _ _ (bk_gP (k := 1) hB.1 rfl) hm _ hmm) (cwV 1 hts (gd_V ml_LW_59 im_MD_step sl_MD_step ini_MD k_MD_step) rfl rmK_c rmK_s (by decide +kernel) ⟨Nat.le_of_ble_eq_true rfl, Nat.le_of_ble_eq_true rfl⟩) hK (pMD_recv hK (bk_gP (k := 1) hB.1 rfl) hm) hS hq rfl hl.1 (Nat.le_of_ble_eq_true rfl) d_LW_law_365 (fun locs hS => ?_)
        refine lv_icmp_eq (tgt := 535) hx hb d_LW_law_368 (by decide) (fun c1 => ?_) (fun c1 => absurd (rfl) c1)
        exact tail (j + 1) σ μ wP wM H locs ls (hnx j σ μ hRel) hp hm hB hS hl rfl
      by_cases c11 : op = 11
      · refine lv_tableIn (off := 341) (tgt := 373) hx hb d_LW_law_32 (by rw [c11]; decide) (by rw [c11]; decide) (by rw [c11]; rfl) (by decide) ?_
        have ob := hc_saves j σ μ a1 hj hRel
        have hmm := ob
        refine lv_aload_n hx hb d_LW_law_373 rfl (lv_at hl 1 rfl) ?_
        refine lv_aload_n hx hb d_LW_law_374 rfl (lv_at hl 0 rfl) ?_
        refine lv_iload_n hx hb d_LW_law_375 rfl (lv_at hl 3 rfl) ?_
        refine lv_iconst (v := 1) hx hb d_LW_law_376 (by decide) ?_
        refine lv_iadd hx hb d_LW_law_377 ?_
        refine va_sld hx hb hX hbl hbA hS hin1 d_LW_law_378 ?_
        rw [ha1]
        refine rdV (G := G) (As := [.int a1]) (rest := []) (C := RPP) ⟨hx, hb, hml, hown, hts⟩ (c_PP_saves l G q0 ad adS adR adT adL σ a1 _ _ (bk_gP (k := 0) hB.1 rfl) hp _ rfl) (cwV 1 hts (gd_V ml_LW_60 im_PP_saves sl_PP_saves ini_PP k_PP_saves) rfl rmK_c rmK_s (by decide +kernel) ⟨Nat.le_of_ble_eq_true rfl, Nat.le_of_ble_eq_true rfl⟩) hK (pPP_recv hK (bk_gP (k := 0) hB.1 rfl) hp) hS hq rfl hl.1 (Nat.le_of_ble_eq_true rfl) d_LW_law_379 (fun locs hS => ?_)
        refine lv_aload_n hx hb d_LW_law_382 rfl (lv_at hl 2 rfl) ?_
        refine lv_aload_n hx hb d_LW_law_383 rfl (lv_at hl 0 rfl) ?_
        refine lv_iload_n hx hb d_LW_law_384 rfl (lv_at hl 3 rfl) ?_
        refine lv_iconst (v := 1) hx hb d_LW_law_385 (by decide) ?_
        refine lv_iadd hx hb d_LW_law_386 ?_
        refine va_sld hx hb hX hbl hbA hS hin1 d_LW_law_387 ?_
        rw [ha1]
        refine rdV (G := G) (As := [.int a1]) (rest := [.int (A_PP_saves σ a1)]) (C := RMD) ⟨hx, hb, hml, hown, hts⟩ (c_MD_saves l G q1 μ a1 _ _ (bk_gP (k := 1) hB.1 rfl) hm _ hmm) (cwV 1 hts (gd_V ml_LW_63 im_MD_saves sl_MD_saves ini_MD k_MD_saves) rfl rmK_c rmK_s (by decide +kernel) ⟨Nat.le_of_ble_eq_true rfl, Nat.le_of_ble_eq_true rfl⟩) hK (pMD_recv hK (bk_gP (k := 1) hB.1 rfl) hm) hS hq rfl hl.1 (Nat.le_of_ble_eq_true rfl) d_LW_law_388 (fun locs hS => ?_)
        refine lv_icmp_eq (tgt := 535) hx hb d_LW_law_391 (by decide) (fun c1 => ?_) (fun c1 => absurd (rfl) c1)
        exact tail (j + 1) σ μ wP wM H locs ls (hnx j σ μ hRel) hp hm hB hS hl rfl
      by_cases c12 : op = 12
      · refine lv_tableIn (off := 364) (tgt := 396) hx hb d_LW_law_32 (by rw [c12]; decide) (by rw [c12]; decide) (by rw [c12]; rfl) (by decide) ?_
        have ob := hc_label j σ μ a1 hj hRel
        have hmm := ob
        refine lv_aload_n hx hb d_LW_law_396 rfl (lv_at hl 1 rfl) ?_
        refine lv_aload_n hx hb d_LW_law_397 rfl (lv_at hl 0 rfl) ?_
        refine lv_iload_n hx hb d_LW_law_398 rfl (lv_at hl 3 rfl) ?_
        refine lv_iconst (v := 1) hx hb d_LW_law_399 (by decide) ?_
        refine lv_iadd hx hb d_LW_law_400 ?_
        refine va_sld hx hb hX hbl hbA hS hin1 d_LW_law_401 ?_
        rw [ha1]
        refine rdV (G := G) (As := [.int a1]) (rest := []) (C := RPP) ⟨hx, hb, hml, hown, hts⟩ (c_PP_label l G q0 ad adS adR adT adL σ a1 _ _ (bk_gP (k := 0) hB.1 rfl) hp _ rfl) (cwV 1 hts (gd_V ml_LW_64 im_PP_label sl_PP_label ini_PP k_PP_label) rfl rmK_c rmK_s (by decide +kernel) ⟨Nat.le_of_ble_eq_true rfl, Nat.le_of_ble_eq_true rfl⟩) hK (pPP_recv hK (bk_gP (k := 0) hB.1 rfl) hp) hS hq rfl hl.1 (Nat.le_of_ble_eq_true rfl) d_LW_law_402 (fun locs hS => ?_)
        refine lv_aload_n hx hb d_LW_law_405 rfl (lv_at hl 2 rfl) ?_
        refine lv_aload_n hx hb d_LW_law_406 rfl (lv_at hl 0 rfl) ?_
        refine lv_iload_n hx hb d_LW_law_407 rfl (lv_at hl 3 rfl) ?_
        refine lv_iconst (v := 1) hx hb d_LW_law_408 (by decide) ?_
        refine lv_iadd hx hb d_LW_law_409 ?_
        refine va_sld hx hb hX hbl hbA hS hin1 d_LW_law_410 ?_
        rw [ha1]
        refine rdV (G := G) (As := [.int a1]) (rest := [.int (A_PP_label σ a1)]) (C := RMD) ⟨hx, hb, hml, hown, hts⟩ (c_MD_label l G q1 μ a1 _ _ (bk_gP (k := 1) hB.1 rfl) hm _ hmm) (cwV 1 hts (gd_V ml_LW_67 im_MD_label sl_MD_label ini_MD k_MD_label) rfl rmK_c rmK_s (by decide +kernel) ⟨Nat.le_of_ble_eq_true rfl, Nat.le_of_ble_eq_true rfl⟩) hK (pMD_recv hK (bk_gP (k := 1) hB.1 rfl) hm) hS hq rfl hl.1 (Nat.le_of_ble_eq_true rfl) d_LW_law_411 (fun locs hS => ?_)
        refine lv_icmp_eq (tgt := 535) hx hb d_LW_law_414 (by decide) (fun c1 => ?_) (fun c1 => absurd (rfl) c1)
        exact tail (j + 1) σ μ wP wM H locs ls (hnx j σ μ hRel) hp hm hB hS hl rfl
      by_cases c13 : op = 13
      · refine lv_tableIn (off := 387) (tgt := 419) hx hb d_LW_law_32 (by rw [c13]; decide) (by rw [c13]; decide) (by rw [c13]; rfl) (by decide) ?_
        have ob := hc_packed j σ μ a1 hj hRel
        have hmm := ob
        refine lv_aload_n hx hb d_LW_law_419 rfl (lv_at hl 1 rfl) ?_
        refine lv_aload_n hx hb d_LW_law_420 rfl (lv_at hl 0 rfl) ?_
        refine lv_iload_n hx hb d_LW_law_421 rfl (lv_at hl 3 rfl) ?_
        refine lv_iconst (v := 1) hx hb d_LW_law_422 (by decide) ?_
        refine lv_iadd hx hb d_LW_law_423 ?_
        refine va_sld hx hb hX hbl hbA hS hin1 d_LW_law_424 ?_
        rw [ha1]
        refine rdV (G := G) (As := [.int a1]) (rest := []) (C := RPP) ⟨hx, hb, hml, hown, hts⟩ (c_PP_packed l G q0 ad adS adR adT adL σ a1 _ _ (bk_gP (k := 0) hB.1 rfl) hp _ rfl) (cwV 1 hts (gd_V ml_LW_68 im_PP_packed sl_PP_packed ini_PP k_PP_packed) rfl rmK_c rmK_s (by decide +kernel) ⟨Nat.le_of_ble_eq_true rfl, Nat.le_of_ble_eq_true rfl⟩) hK (pPP_recv hK (bk_gP (k := 0) hB.1 rfl) hp) hS hq rfl hl.1 (Nat.le_of_ble_eq_true rfl) d_LW_law_425 (fun locs hS => ?_)
        refine lv_aload_n hx hb d_LW_law_428 rfl (lv_at hl 2 rfl) ?_
        refine lv_aload_n hx hb d_LW_law_429 rfl (lv_at hl 0 rfl) ?_
        refine lv_iload_n hx hb d_LW_law_430 rfl (lv_at hl 3 rfl) ?_
        refine lv_iconst (v := 1) hx hb d_LW_law_431 (by decide) ?_
        refine lv_iadd hx hb d_LW_law_432 ?_
        refine va_sld hx hb hX hbl hbA hS hin1 d_LW_law_433 ?_
        rw [ha1]
        refine rdV (G := G) (As := [.int a1]) (rest := [.int (A_PP_packed σ a1)]) (C := RMD) ⟨hx, hb, hml, hown, hts⟩ (c_MD_packed l G q1 μ a1 _ _ (bk_gP (k := 1) hB.1 rfl) hm _ hmm) (cwV 1 hts (gd_V ml_LW_71 im_MD_packed sl_MD_packed ini_MD k_MD_packed) rfl rmK_c rmK_s (by decide +kernel) ⟨Nat.le_of_ble_eq_true rfl, Nat.le_of_ble_eq_true rfl⟩) hK (pMD_recv hK (bk_gP (k := 1) hB.1 rfl) hm) hS hq rfl hl.1 (Nat.le_of_ble_eq_true rfl) d_LW_law_434 (fun locs hS => ?_)
        refine lv_icmp_eq (tgt := 535) hx hb d_LW_law_437 (by decide) (fun c1 => ?_) (fun c1 => absurd (rfl) c1)
        exact tail (j + 1) σ μ wP wM H locs ls (hnx j σ μ hRel) hp hm hB hS hl rfl
      by_cases c14 : op = 14
      · refine lv_tableIn (off := 410) (tgt := 442) hx hb d_LW_law_32 (by rw [c14]; decide) (by rw [c14]; decide) (by rw [c14]; rfl) (by decide) ?_
        have ob := hc_letter j σ μ a1 hj hRel
        have hmm := ob
        refine lv_aload_n hx hb d_LW_law_442 rfl (lv_at hl 1 rfl) ?_
        refine lv_aload_n hx hb d_LW_law_443 rfl (lv_at hl 0 rfl) ?_
        refine lv_iload_n hx hb d_LW_law_444 rfl (lv_at hl 3 rfl) ?_
        refine lv_iconst (v := 1) hx hb d_LW_law_445 (by decide) ?_
        refine lv_iadd hx hb d_LW_law_446 ?_
        refine va_sld hx hb hX hbl hbA hS hin1 d_LW_law_447 ?_
        rw [ha1]
        refine rdV (G := G) (As := [.int a1]) (rest := []) (C := RPP) ⟨hx, hb, hml, hown, hts⟩ (c_PP_letter l G q0 ad adS adR adT adL σ a1 _ _ (bk_gP (k := 0) hB.1 rfl) hp _ rfl) (cwV 1 hts (gd_V ml_LW_72 im_PP_letter sl_PP_letter ini_PP k_PP_letter) rfl rmK_c rmK_s (by decide +kernel) ⟨Nat.le_of_ble_eq_true rfl, Nat.le_of_ble_eq_true rfl⟩) hK (pPP_recv hK (bk_gP (k := 0) hB.1 rfl) hp) hS hq rfl hl.1 (Nat.le_of_ble_eq_true rfl) d_LW_law_448 (fun locs hS => ?_)
        refine lv_aload_n hx hb d_LW_law_451 rfl (lv_at hl 2 rfl) ?_
        refine lv_aload_n hx hb d_LW_law_452 rfl (lv_at hl 0 rfl) ?_
        refine lv_iload_n hx hb d_LW_law_453 rfl (lv_at hl 3 rfl) ?_
        refine lv_iconst (v := 1) hx hb d_LW_law_454 (by decide) ?_
        refine lv_iadd hx hb d_LW_law_455 ?_
        refine va_sld hx hb hX hbl hbA hS hin1 d_LW_law_456 ?_
        rw [ha1]
        refine rdV (G := G) (As := [.int a1]) (rest := [.int (A_PP_letter σ a1)]) (C := RMD) ⟨hx, hb, hml, hown, hts⟩ (c_MD_letter l G q1 μ a1 _ _ (bk_gP (k := 1) hB.1 rfl) hm _ hmm) (cwV 1 hts (gd_V ml_LW_75 im_MD_letter sl_MD_letter ini_MD k_MD_letter) rfl rmK_c rmK_s (by decide +kernel) ⟨Nat.le_of_ble_eq_true rfl, Nat.le_of_ble_eq_true rfl⟩) hK (pMD_recv hK (bk_gP (k := 1) hB.1 rfl) hm) hS hq rfl hl.1 (Nat.le_of_ble_eq_true rfl) d_LW_law_457 (fun locs hS => ?_)
        refine lv_icmp_eq (tgt := 535) hx hb d_LW_law_460 (by decide) (fun c1 => ?_) (fun c1 => absurd (rfl) c1)
        exact tail (j + 1) σ μ wP wM H locs ls (hnx j σ μ hRel) hp hm hB hS hl rfl
      by_cases c15 : op = 15
      · refine lv_tableIn (off := 433) (tgt := 465) hx hb d_LW_law_32 (by rw [c15]; decide) (by rw [c15]; decide) (by rw [c15]; rfl) (by decide) ?_
        have ob := hc_size j σ μ a1 hj hRel
        have hmm := ob
        refine lv_aload_n hx hb d_LW_law_465 rfl (lv_at hl 1 rfl) ?_
        refine lv_aload_n hx hb d_LW_law_466 rfl (lv_at hl 0 rfl) ?_
        refine lv_iload_n hx hb d_LW_law_467 rfl (lv_at hl 3 rfl) ?_
        refine lv_iconst (v := 1) hx hb d_LW_law_468 (by decide) ?_
        refine lv_iadd hx hb d_LW_law_469 ?_
        refine va_sld hx hb hX hbl hbA hS hin1 d_LW_law_470 ?_
        rw [ha1]
        refine rdVl (G := G) (As := [.int a1]) (rest := []) (C := RPP) ⟨hx, hb, hml, hown, hts⟩ (c_PP_size l G q0 ad adS adR adT adL σ a1 _ _ (bk_gP (k := 0) hB.1 rfl) hp _ rfl) (cwV 1 hts (gd_V ml_LW_76 im_PP_size sl_PP_size ini_PP k_PP_size) rfl rmK_c rmK_s (by decide +kernel) ⟨Nat.le_of_ble_eq_true rfl, Nat.le_of_ble_eq_true rfl⟩) hK (pPP_recv hK (bk_gP (k := 0) hB.1 rfl) hp) hS hq rfl hl.1 (Nat.le_of_ble_eq_true rfl) d_LW_law_471 (fun locs hS => ?_)
        refine lv_aload_n hx hb d_LW_law_474 rfl (lv_at hl 2 rfl) ?_
        refine lv_aload_n hx hb d_LW_law_475 rfl (lv_at hl 0 rfl) ?_
        refine lv_iload_n hx hb d_LW_law_476 rfl (lv_at hl 3 rfl) ?_
        refine lv_iconst (v := 1) hx hb d_LW_law_477 (by decide) ?_
        refine lv_iadd hx hb d_LW_law_478 ?_
        refine va_sld hx hb hX hbl hbA hS hin1 d_LW_law_479 ?_
        rw [ha1]
        refine rdVl (G := G) (As := [.int a1]) (rest := [.long (A_PP_size σ a1)]) (C := RMD) ⟨hx, hb, hml, hown, hts⟩ (c_MD_size l G q1 μ a1 _ _ (bk_gP (k := 1) hB.1 rfl) hm _ hmm) (cwV 1 hts (gd_V ml_LW_80 im_MD_size sl_MD_size ini_MD k_MD_size) rfl rmK_c rmK_s (by decide +kernel) ⟨Nat.le_of_ble_eq_true rfl, Nat.le_of_ble_eq_true rfl⟩) hK (pMD_recv hK (bk_gP (k := 1) hB.1 rfl) hm) hS hq rfl hl.1 (Nat.le_of_ble_eq_true rfl) d_LW_law_480 (fun locs hS => ?_)
        refine W.lcmp hx hb d_LW_law_483 ?_
        refine lv_if_eq (tgt := 535) hx hb d_LW_law_484 (by decide) (fun c1 => ?_) (fun c1 => absurd (lc_self _) c1)
        exact tail (j + 1) σ μ wP wM H locs ls (hnx j σ μ hRel) hp hm hB hS hl rfl
      by_cases c16 : op = 16
      · refine lv_tableIn (off := 457) (tgt := 489) hx hb d_LW_law_32 (by rw [c16]; decide) (by rw [c16]; decide) (by rw [c16]; rfl) (by decide) ?_
        have ob := hc_full j σ μ a1 a2 hj hRel
        have hmm := ob
        refine lv_aload_n hx hb d_LW_law_489 rfl (lv_at hl 1 rfl) ?_
        refine lv_aload_n hx hb d_LW_law_490 rfl (lv_at hl 0 rfl) ?_
        refine lv_iload_n hx hb d_LW_law_491 rfl (lv_at hl 3 rfl) ?_
        refine lv_iconst (v := 1) hx hb d_LW_law_492 (by decide) ?_
        refine lv_iadd hx hb d_LW_law_493 ?_
        refine va_sld hx hb hX hbl hbA hS hin1 d_LW_law_494 ?_
        rw [ha1]
        refine lv_aload_n hx hb d_LW_law_495 rfl (lv_at hl 0 rfl) ?_
        refine lv_iload_n hx hb d_LW_law_496 rfl (lv_at hl 3 rfl) ?_
        refine lv_iconst (v := 2) hx hb d_LW_law_497 (by decide) ?_
        refine lv_iadd hx hb d_LW_law_498 ?_
        refine va_sld hx hb hX hbl hbA hS hin2 d_LW_law_499 ?_
        rw [ha2]
        refine rdV (G := G) (As := [.int a1, .int a2]) (rest := []) (C := RPP) ⟨hx, hb, hml, hown, hts⟩ (c_PP_full l G q0 ad adS adR adT adL σ a1 a2 _ _ (bk_gP (k := 0) hB.1 rfl) hp _ rfl) (cwV 2 hts (gd_V ml_LW_81 im_PP_full sl_PP_full ini_PP k_PP_full) rfl rmK_c rmK_s (by decide +kernel) ⟨Nat.le_of_ble_eq_true rfl, Nat.le_of_ble_eq_true rfl⟩) hK (pPP_recv hK (bk_gP (k := 0) hB.1 rfl) hp) hS hq rfl hl.1 (Nat.le_of_ble_eq_true rfl) d_LW_law_500 (fun locs hS => ?_)
        refine lv_aload_n hx hb d_LW_law_503 rfl (lv_at hl 2 rfl) ?_
        refine lv_aload_n hx hb d_LW_law_504 rfl (lv_at hl 0 rfl) ?_
        refine lv_iload_n hx hb d_LW_law_505 rfl (lv_at hl 3 rfl) ?_
        refine lv_iconst (v := 1) hx hb d_LW_law_506 (by decide) ?_
        refine lv_iadd hx hb d_LW_law_507 ?_
        refine va_sld hx hb hX hbl hbA hS hin1 d_LW_law_508 ?_
        rw [ha1]
        refine lv_aload_n hx hb d_LW_law_509 rfl (lv_at hl 0 rfl) ?_
        refine lv_iload_n hx hb d_LW_law_510 rfl (lv_at hl 3 rfl) ?_
        refine lv_iconst (v := 2) hx hb d_LW_law_511 (by decide) ?_
        refine lv_iadd hx hb d_LW_law_512 ?_
        refine va_sld hx hb hX hbl hbA hS hin2 d_LW_law_513 ?_
        rw [ha2]
        refine rdV (G := G) (As := [.int a1, .int a2]) (rest := [.int (A_PP_full σ a1 a2)]) (C := RMD) ⟨hx, hb, hml, hown, hts⟩ (c_MD_full l G q1 μ a1 a2 _ _ (bk_gP (k := 1) hB.1 rfl) hm _ hmm) (cwV 2 hts (gd_V ml_LW_84 im_MD_full sl_MD_full ini_MD k_MD_full) rfl rmK_c rmK_s (by decide +kernel) ⟨Nat.le_of_ble_eq_true rfl, Nat.le_of_ble_eq_true rfl⟩) hK (pMD_recv hK (bk_gP (k := 1) hB.1 rfl) hm) hS hq rfl hl.1 (Nat.le_of_ble_eq_true rfl) d_LW_law_514 (fun locs hS => ?_)
        refine lv_icmp_eq (tgt := 535) hx hb d_LW_law_517 (by decide) (fun c1 => ?_) (fun c1 => absurd (rfl) c1)
        exact tail (j + 1) σ μ wP wM H locs ls (hnx j σ μ hRel) hp hm hB hS hl rfl
      by_cases c17 : op = 17
      · refine lv_tableIn (off := 490) (tgt := 522) hx hb d_LW_law_32 (by rw [c17]; decide) (by rw [c17]; decide) (by rw [c17]; rfl) (by decide) ?_
        have ob := hc_check j σ μ hj hRel
        obtain ⟨hmm, hcost, hRel'⟩ := ob
        refine lv_aload_n hx hb d_LW_law_522 rfl (lv_at hl 1 rfl) ?_
        obtain ⟨T, hT⟩ : ∃ z, A_PP_check σ = z := ⟨_, rfl⟩
        rw [hT] at hmm hcost hRel'
        have hU' := hU _ _ _ hRel'
        obtain ⟨Kv, hKv⟩ : ∃ z, K_PP_check σ = z := ⟨_, rfl⟩
        rw [hKv] at hcost
        refine wrL (G := G) (k := 0) (K := Kv) (As := []) (rest := []) (C := RPP) ⟨hx, hb, hml, hown, hts⟩ (c_PP_check l G q0 ad adS adR adT adL σ _ _ (bk_gP (k := 0) hB.1 rfl) (bk_own (k := 0) hB rfl) hp T hT Kv hKv (by omega)) (cwV 0 hts (gd_V ml_LW_85 im_PP_check sl_PP_check ini_PP k_PP_check) rfl rmK_c rmK_s (by decide +kernel) ⟨Nat.le_of_ble_eq_true rfl, Nat.le_of_ble_eq_true rfl⟩) hK (pPP_recv hK (bk_gP (k := 0) hB.1 rfl) hp) hS hA hB rfl (lw_rm (by omega)) rfl hl.1 (Nat.le_of_ble_eq_true rfl) d_LW_law_523 (fun u0 H locs hp hB hS => ?_)
        have hB : bk G.1 vwCl (fun q : Nat => s.heap.size ≤ q) [u0, wM] H := hB
        refine W.widen (k := 258310 + U T.2) (n := 258310 + U T.2) (by omega) (by omega) ?_
        refine lv_aload_n hx hb d_LW_law_526 rfl (lv_at hl 2 rfl) ?_
        refine rdV (G := G) (As := []) (rest := [.int T.1]) (C := RMD) ⟨hx, hb, hml, hown, hts⟩ (c_MD_check l G q1 μ _ _ (bk_gP (k := 1) hB.1 rfl) hm _ hmm) (cwV 0 hts (gd_V ml_LW_88 im_MD_check sl_MD_check ini_MD k_MD_check) rfl rmK_c rmK_s (by decide +kernel) ⟨Nat.le_of_ble_eq_true rfl, Nat.le_of_ble_eq_true rfl⟩) hK (pMD_recv hK (bk_gP (k := 1) hB.1 rfl) hm) hS (lw_rm (by omega)) rfl hl.1 (Nat.le_of_ble_eq_true rfl) d_LW_law_527 (fun locs hS => ?_)
        refine lv_icmp_eq (tgt := 535) hx hb d_LW_law_530 (by decide) (fun c1 => ?_) (fun c1 => absurd (rfl) c1)
        exact tail (j + 1) T.2 μ u0 wM H locs ls hRel' hp hm hB hS hl rfl
      refine lv_tableOut (tgt := 535) hx hb d_LW_law_32 (sw_out (n := 17) (fun k hk9 => by rcases (show k = 0 ∨ k = 1 ∨ k = 2 ∨ k = 3 ∨ k = 4 ∨ k = 5 ∨ k = 6 ∨ k = 7 ∨ k = 8 ∨ k = 9 ∨ k = 10 ∨ k = 11 ∨ k = 12 ∨ k = 13 ∨ k = 14 ∨ k = 15 ∨ k = 16 ∨ k = 17 by omega) with rfl | rfl | rfl | rfl | rfl | rfl | rfl | rfl | rfl | rfl | rfl | rfl | rfl | rfl | rfl | rfl | rfl | rfl <;> assumption)) (by decide) ?_
      exact tail (j + 1) σ μ wP wM H locs ls (hnx j σ μ hRel) hp hm hB hS hl rfl