/-! LEVEL B: the telling, pure. An entry (false, r, κ): row r told by its own statement; (true, f, κ): by the step f at which its kind was told -/
abbrev tE : Type := Bool × Nat × Nat
theorem sum_nodup {f : Nat → Nat} : ∀ (N : Nat) (L : List Nat), L.Nodup → (∀ x ∈ L, x < N) → (L.map f).sum ≤ ((List.range N).map f).sum := by
  intro N
  induction N with
  | zero =>
    intro L _ h
    cases L with
    | nil => simp
    | cons a l => exact absurd (h a List.mem_cons_self) (Nat.not_lt_zero _)
  | succ N ih =>
    intro L hn h
    rw [List.range_succ, List.map_append, List.sum_append]
    by_cases c : N ∈ L
    · have hp := (List.perm_cons_erase c).map f
      rw [hp.sum_nat]
      have := ih (L.erase N) (hn.erase N) (fun x hx => by
        have h1 := h x (List.mem_of_mem_erase hx)
        have h2 : x ≠ N := fun e => by subst e; exact (List.Nodup.not_mem_erase hn) hx
        omega)
      simp only [List.map_cons, List.sum_cons, List.map_nil, List.sum_nil]
      omega
    · have := ih L hn (fun x hx => by
        have h1 := h x hx
        have h2 : x ≠ N := fun e => by subst e; exact c hx
        omega)
      omega
theorem sum_filter {f : Nat → Nat} : ∀ (L : List Nat), ((L.filter (fun r => decide (0 < f r))).map f).sum = (L.map f).sum
  | [] => rfl
  | a :: l => by
    have ih := sum_filter (f := f) l
    rw [List.filter_cons]
    by_cases c : 0 < f a
    · simp only [c, decide_true, if_true, List.map_cons, List.sum_cons, ih]
    · simp only [c, decide_false, Bool.false_eq_true, if_false, List.map_cons, List.sum_cons, ih]
      omega
def nP (rs : tRS) (r : Nat) : Nat := (rPa rs r).length
theorem sum_nP (rs : tRS) : ∀ n, n ≤ rs.length → ((List.range n).map (nP rs)).sum = off rs n := by
  intro n
  induction n with
  | zero => intro _; rw [off_0]; rfl
  | succ n ih =>
    intro h
    rw [List.range_succ, List.map_append, List.sum_append, ih (by omega), off_succ (by omega)]
    simp [nP]
def stp (rs : tRS) (S : List Nat) (e : tE) : List Nat := if e.1 then S ++ [e.2.2] else S.take (S.length - nP rs e.2.1) ++ [e.2.2]
def stk (rs : tRS) (E : List tE) : List Nat := E.foldl (stp rs) []
theorem stk_app (rs : tRS) (E : List tE) (e : tE) : stk rs (E ++ [e]) = stp rs (stk rs E) e := by simp [stk, List.foldl_append]
/-- what is told so far goes through: every own row finds its parts' kinds on top -/
def GE (rs : tRS) (ks : List Nat) (E : List tE) : Prop :=
  (∀ k r κ : Nat, E[k]? = some (false, r, κ) → r < rs.length ∧ κ = kOf ks r ∧ nP rs r ≤ (stk rs (E.take k)).length ∧ (stk rs (E.take k)).drop ((stk rs (E.take k)).length - nP rs r) = (rPa rs r).map (kOf ks)) ∧
  (∀ k f κ : Nat, E[k]? = some (true, f, κ) → f < k ∧ ∃ r : Nat, E[f]? = some (false, r, κ) ∧ 0 < nP rs r)
def oR (E : List tE) : List Nat := (E.filter (fun e => !e.1)).map (fun e => e.2.1)
theorem oR_own (E : List tE) (r κ : Nat) : oR (E ++ [(false, r, κ)]) = oR E ++ [r] := by simp [oR]
theorem oR_ref (E : List tE) (f κ : Nat) : oR (E ++ [(true, f, κ)]) = oR E := by simp [oR]
theorem oR_mem {E : List tE} {r : Nat} : r ∈ oR E ↔ ∃ k κ : Nat, E[k]? = some (false, r, κ) := by
  unfold oR
  constructor
  · intro h
    obtain ⟨⟨b, r', κ⟩, he, rfl⟩ := List.mem_map.mp h
    obtain ⟨h1, h2⟩ := List.mem_filter.mp he
    obtain ⟨k, hk⟩ := List.getElem?_of_mem h1
    refine ⟨k, κ, ?_⟩
    cases b
    · exact hk
    · simp at h2
  · rintro ⟨k, κ, hk⟩
    exact List.mem_map.mpr ⟨(false, r, κ), List.mem_filter.mpr ⟨List.mem_of_getElem? hk, rfl⟩, rfl⟩
theorem ge_get {E : List tE} {e x : tE} {k : Nat} (h : (E ++ [e])[k]? = some x) : (k < E.length ∧ E[k]? = some x) ∨ (k = E.length ∧ x = e) := by
  rcases Nat.lt_trichotomy k E.length with h1 | h1 | h1
  · rw [List.getElem?_append_left h1] at h
    exact Or.inl ⟨h1, h⟩
  · subst h1
    rw [List.getElem?_append_right (Nat.le_refl _)] at h
    simp at h
    exact Or.inr ⟨rfl, h.symm⟩
  · rw [List.getElem?_append_right (by omega), List.getElem?_eq_none (by simp; omega)] at h
    exact absurd h (by simp)
theorem ge_up {E : List tE} {e x : tE} {k : Nat} (h : E[k]? = some x) : (E ++ [e])[k]? = some x := by
  rw [List.getElem?_append_left (List.getElem?_eq_some_iff.mp h).1]; exact h
theorem ge_lt {E : List tE} {x : tE} {k : Nat} (h : E[k]? = some x) : k < E.length := (List.getElem?_eq_some_iff.mp h).1
section TEL
variable {rs : tRS} {ks : List Nat} {E : List tE}
theorem GE_own (h : GE rs ks E) {r : Nat} (hr : r < rs.length) (h1 : nP rs r ≤ (stk rs E).length) (h2 : (stk rs E).drop ((stk rs E).length - nP rs r) = (rPa rs r).map (kOf ks)) : GE rs ks (E ++ [(false, r, kOf ks r)]) := by
  refine ⟨fun k r' κ hk => ?_, fun k f κ hk => ?_⟩
  · rcases ge_get hk with ⟨a, b⟩ | ⟨a, b⟩
    · rw [List.take_append_of_le_length (Nat.le_of_lt a)]
      exact h.1 k r' κ b
    · subst a
      injection b with b1 b2; injection b2 with b2 b3
      subst b2; subst b3
      rw [List.take_left']
      · exact ⟨hr, rfl, h1, h2⟩
      · rfl
  · rcases ge_get hk with ⟨a, b⟩ | ⟨a, b⟩
    · obtain ⟨c1, r, c2, c3⟩ := h.2 k f κ b
      exact ⟨c1, r, ge_up c2, c3⟩
    · exact absurd (congrArg Prod.fst b) (by simp)
theorem GE_ref (h : GE rs ks E) {f r κ : Nat} (hf : E[f]? = some (false, r, κ)) (hn : 0 < nP rs r) : GE rs ks (E ++ [(true, f, κ)]) := by
  refine ⟨fun k r' κ' hk => ?_, fun k f' κ' hk => ?_⟩
  · rcases ge_get hk with ⟨a, b⟩ | ⟨a, b⟩
    · rw [List.take_append_of_le_length (Nat.le_of_lt a)]
      exact h.1 k r' κ' b
    · exact absurd (congrArg Prod.fst b) (by simp)
  · rcases ge_get hk with ⟨a, b⟩ | ⟨a, b⟩
    · obtain ⟨c1, r, c2, c3⟩ := h.2 k f' κ' b
      exact ⟨c1, r, ge_up c2, c3⟩
    · subst a
      injection b with b1 b2; injection b2 with b2 b3
      subst b2; subst b3
      exact ⟨ge_lt hf, r, ge_up hf, hn⟩
end TEL
/-! the stack of open rows, the top first -/
def sdL (rs : tRS) (ks : List Nat) : List (Nat × Nat) → List Nat
  | [] => []
  | (r, p) :: l => sdL rs ks l ++ ((rPa rs r).take (p - 1)).map (kOf ks)
def sdn (rs : tRS) (ks : List Nat) (top : Nat) : List (Nat × Nat) → List Nat
  | [] => [kOf ks top]
  | (r, p) :: l => sdL rs ks l ++ ((rPa rs r).take p).map (kOf ks)
def upC (rs : tRS) (top : Nat) : List (Nat × Nat) → Nat → Prop
  | [], r => r = top
  | (q, p) :: l, r => q < rs.length ∧ 1 ≤ p ∧ p ≤ nP rs q ∧ (rPa rs q).getD (p - 1) 0 = r ∧ upC rs top l q
def lkC (rs : tRS) (top : Nat) : List (Nat × Nat) → Prop
  | [] => True
  | (r, p) :: l => r < rs.length ∧ p ≤ nP rs r ∧ upC rs top l r
def ndp (rs : tRS) (ks : List Nat) (L : List Nat) : Prop := ((L.filter (fun r => decide (0 < nP rs r))).map (kOf ks)).Nodup
/-- the telling of top, under way -/
def TI (rs : tRS) (ks : List Nat) (top : Nat) (st : List (Nat × Nat)) (E : List tE) : Prop :=
  lkC rs top st ∧ GE rs ks E ∧ stk rs E = sdn rs ks top st ∧ ndp rs ks (st.map Prod.fst ++ oR E) ∧ E.length = (stk rs E).length + ((oR E).map (nP rs)).sum
section TUR
variable {j : Nat} {tk : List Nat} {rs : tRS} {ks fk : List Nat} {kd : tRS} {sz : List Nat} {top : Nat} {lo : List (Nat × Nat)} {E : List tE} {r p : Nat}
theorem TI_0 (ht : top < rs.length) : TI rs ks top [(top, 0)] [] := by
  refine ⟨⟨ht, Nat.zero_le _, rfl⟩, ⟨fun k r κ h => by simp at h, fun k r κ h => by simp at h⟩, by simp [stk, sdn, sdL], ?_, by simp [stk, oR]⟩
  unfold ndp
  simp only [oR, List.map_cons, List.map_nil, List.filter_nil, List.append_nil, List.filter_cons]
  by_cases c : 0 < nP rs top
  · simp [c]
  · simp [c]
theorem up_row (hW : WR j tk rs ks fk kd sz) : ∀ {lo : List (Nat × Nat)} {r : Nat}, upC rs top lo r → top < rs.length → r + lo.length < rs.length + 0 ∧ ∀ x ∈ lo, kOf ks r < kOf ks x.1
  | [], r, h, ht => ⟨by have : r = top := h; simp; omega, fun x hx => by simp at hx⟩
  | (q, p) :: l, r, h, ht => by
    obtain ⟨h1, h2, h3, h4, h5⟩ := h
    obtain ⟨i1, i2⟩ := up_row hW h5 ht
    have hm : r ∈ rPa rs q := by rw [← h4]; exact memD (by unfold nP at h3; omega)
    obtain ⟨k1, k2⟩ := (hW.2.1 q h1).2.2 r hm
    refine ⟨by simp only [List.length_cons]; omega, fun x hx => ?_⟩
    rcases List.mem_cons.mp hx with e | e
    · subst e; exact k2
    · have := i2 x e; omega
theorem nP_kind (hW : WR j tk rs ks fk kd sz) {a b : Nat} (ha : a < rs.length) (hb : b < rs.length) (h : kOf ks a = kOf ks b) : nP rs a = nP rs b := by
  have h1 := (hW.2.2.2.2.2.1 a ha).2.1
  have h2 := (hW.2.2.2.2.2.1 b hb).2.1
  rw [h, h2] at h1
  have h3 := congrArg (fun q => q.2.length) h1
  simp only [sig, List.length_map] at h3
  unfold nP rPa
  omega
theorem sdL_len : ∀ (l : List (Nat × Nat)), (sdL rs ks l).length ≤ ((l.map Prod.fst).map (nP rs)).sum
  | [] => by simp [sdL]
  | (r, p) :: l => by
    have := sdL_len l
    simp only [sdL, List.length_append, List.length_map, List.length_take, List.map_cons, List.sum_cons]
    unfold nP at *
    omega
theorem ndp_sum {L : List Nat} (h : ndp rs ks L) (hL : ∀ x ∈ L, x < rs.length) : (L.map (nP rs)).sum ≤ (paL rs).length := by
  rw [← sum_filter, ← off_le, ← sum_nP rs _ (Nat.le_refl _)]
  refine sum_nodup _ _ ?_ (fun x hx => hL x (List.mem_filter.mp hx).1)
  exact (List.pairwise_map.mp h).imp (fun hne e => hne (by rw [e]))
theorem up_rows : ∀ {lo : List (Nat × Nat)} {r : Nat}, upC rs top lo r → ∀ x ∈ lo.map Prod.fst, x < rs.length
  | [], r, h => fun x hx => by simp at hx
  | (q, p) :: l, r, h => fun x hx => by
    simp only [List.map_cons, List.mem_cons] at hx
    rcases hx with e | e
    · rw [e]; exact h.1
    · exact up_rows h.2.2.2.2 x e
theorem TI_len (h : TI rs ks top ((r, p) :: lo) E) : E.length ≤ (paL rs).length := by
  obtain ⟨h1, h2, h3, h4, h5⟩ := h
  have h6 := ndp_sum h4 (fun x hx => by
    rcases List.mem_append.mp hx with e | e
    · simp only [List.map_cons, List.mem_cons] at e
      rcases e with e | e
      · rw [e]; exact h1.1
      · exact up_rows h1.2.2 x e
    · obtain ⟨k, κ, hk⟩ := oR_mem.mp e
      exact (h2.1 k x κ hk).1)
  have h7 : (sdL rs ks lo).length ≤ _ := sdL_len lo
  rw [h3] at h5
  simp only [sdn, List.length_append, List.length_map, List.length_take, List.map_append, List.map_cons, List.sum_append, List.sum_cons] at h5 h6
  unfold nP at *
  omega
theorem TI_lenF (h : TI rs ks top [] E) : E.length ≤ (paL rs).length + 1 := by
  obtain ⟨h1, h2, h3, h4, h5⟩ := h
  have h6 := ndp_sum h4 (fun x hx => by
    rcases List.mem_append.mp hx with e | e
    · simp at e
    · obtain ⟨k, κ, hk⟩ := oR_mem.mp e
      exact (h2.1 k x κ hk).1)
  rw [h3] at h5
  simp only [sdn, List.length_cons, List.length_nil, List.map_nil, List.nil_append] at h5 h6
  omega
theorem take_one {l : List Nat} {p : Nat} (h : p < l.length) : l.take (p + 1) = l.take p ++ [l.getD p 0] := by
  rw [List.take_succ_eq_append_getElem h]
  simp [List.getD_eq_getElem?_getD, h]
theorem TI_part (hW : WR j tk rs ks fk kd sz) (h : TI rs ks top ((r, p) :: lo) E) (hp : p < nP rs r) : (rPa rs r).getD p 0 < r ∧ (rPa rs r).getD p 0 < rs.length ∧ r < rs.length := by
  have h1 := h.1.1
  have := ((hW.2.1 r h1).2.2 _ (memD (l := rPa rs r) (k := p) hp)).1
  omega
theorem TI_push (hW : WR j tk rs ks fk kd sz) (ht : top < rs.length) (h : TI rs ks top ((r, p) :: lo) E) (hp : p < nP rs r) (hc : 0 < nP rs ((rPa rs r).getD p 0) → ∀ i r' : Nat, E[i]? ≠ some (false, r', kOf ks ((rPa rs r).getD p 0))) : TI rs ks top (((rPa rs r).getD p 0, 0) :: (r, p + 1) :: lo) E := by
  obtain ⟨a1, a2, a3⟩ := TI_part hW h hp
  obtain ⟨h1, h2, h3, h4, h5⟩ := h
  have hu : upC rs top ((r, p + 1) :: lo) ((rPa rs r).getD p 0) := ⟨a3, by omega, by omega, rfl, h1.2.2⟩
  refine ⟨⟨a2, Nat.zero_le _, hu⟩, h2, ?_, ?_, h5⟩
  · rw [h3]; simp [sdn, sdL]
  · generalize (rPa rs r).getD p 0 = c at *
    unfold ndp at *
    simp only [List.map_cons, List.cons_append] at h4 ⊢
    rw [List.filter_cons]
    by_cases e : 0 < nP rs c
    · simp only [e, decide_true, if_true, List.map_cons]
      refine List.nodup_cons.mpr ⟨fun hm => ?_, h4⟩
      obtain ⟨x, hx, he⟩ := List.mem_map.mp hm
      have hx := (List.mem_filter.mp hx).1
      have hq := (up_row hW hu ht).2
      rcases List.mem_cons.mp hx with hx | hx
      · have := hq (r, p + 1) List.mem_cons_self
        subst hx; simp only at this; omega
      · rcases List.mem_append.mp hx with hx | hx
        · obtain ⟨y, hy, rfl⟩ := List.mem_map.mp hx
          have := hq y (List.mem_cons_of_mem _ hy)
          omega
        · obtain ⟨k, κ, hk⟩ := oR_mem.mp hx
          have hκ := (h2.1 k x κ hk).2.1
          exact hc e k x (by rw [hk, hκ, he])
    · simp only [e, decide_false, Bool.false_eq_true, if_false]
      exact h4
theorem TI_ref (h : TI rs ks top ((r, p) :: lo) E) (hp : p < nP rs r) {f r' : Nat} (hf : E[f]? = some (false, r', kOf ks ((rPa rs r).getD p 0))) (hn : 0 < nP rs r') : TI rs ks top ((r, p + 1) :: lo) (E ++ [(true, f, kOf ks ((rPa rs r).getD p 0))]) := by
  obtain ⟨h1, h2, h3, h4, h5⟩ := h
  refine ⟨⟨h1.1, by omega, h1.2.2⟩, GE_ref h2 hf hn, ?_, ?_, ?_⟩
  · rw [stk_app, h3]
    simp only [stp, sdn, if_true, take_one hp, List.map_append, List.map_cons, List.map_nil, List.append_assoc]
  · rw [oR_ref]; exact h4
  · rw [stk_app, oR_ref]
    simp only [stp, if_true, List.length_append, List.length_cons, List.length_nil]
    omega
theorem TI_own (h : TI rs ks top ((r, nP rs r) :: lo) E) : TI rs ks top lo (E ++ [(false, r, kOf ks r)]) := by
  obtain ⟨h1, h2, h3, h4, h5⟩ := h
  have hS : stk rs E = sdL rs ks lo ++ (rPa rs r).map (kOf ks) := by
    rw [h3, sdn, nP, List.take_length]
  have hl : (stk rs E).length = (sdL rs ks lo).length + nP rs r := by rw [hS]; simp [nP]
  have hd : (stk rs E).length - nP rs r = (sdL rs ks lo).length := by omega
  have ht : stk rs (E ++ [(false, r, kOf ks r)]) = sdL rs ks lo ++ [kOf ks r] := by
    rw [stk_app]
    unfold stp
    simp only [Bool.false_eq_true, if_false]
    rw [hd, hS, List.take_left']
    rfl
  refine ⟨?_, GE_own h2 h1.1 (by omega) (by rw [hd, hS, List.drop_left']; rfl), ?_, ?_, ?_⟩
  · cases lo with
    | nil => trivial
    | cons x l =>
      obtain ⟨q, p'⟩ := x
      have h6 := h1.2.2
      exact ⟨h6.1, h6.2.2.1, h6.2.2.2.2⟩
  · rw [ht]
    cases lo with
    | nil =>
      have : r = top := h1.2.2
      subst this
      rfl
    | cons x l =>
      obtain ⟨q, p'⟩ := x
      obtain ⟨u1, u2, u3, u4, u5⟩ := h1.2.2
      obtain ⟨m, rfl⟩ : ∃ m, p' = m + 1 := ⟨p' - 1, by omega⟩
      simp only [Nat.add_sub_cancel] at u4
      simp only [sdL, sdn, Nat.add_sub_cancel]
      rw [take_one (by unfold nP at u3; omega), u4]
      simp
  · rw [oR_own]
    refine (List.Perm.nodup_iff (List.Perm.map _ (List.Perm.filter _ ?_))).mp h4
    simp only [List.map_cons, List.cons_append]
    rw [← List.append_assoc]
    exact (List.perm_append_singleton r (lo.map Prod.fst ++ oR E)).symm
  · rw [ht, oR_own]
    simp only [List.length_append, List.length_cons, List.length_nil, List.map_append, List.sum_append, List.map_cons, List.map_nil, List.sum_cons, List.sum_nil]
    omega
end TUR
