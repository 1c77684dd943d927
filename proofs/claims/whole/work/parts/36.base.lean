/-! LEVEL B, BASE: lists and arrays that hold small numbers -/
def lI (x : tIL) (l : List Nat) : Prop := x.1 = l.map nI
def aI (f : Nat → Int32) (l : List Nat) : Prop := ∀ i, i < l.length → f i = nI (l.getD i 0)
theorem nI_lt0 {n : Nat} (h : n < 2 ^ 31) : ¬ nI n < 0 := nI_pos h
theorem ix_neg {x : Int32} (h : x < 0) (n : Nat) : x ≠ nI n ∨ 2 ^ 31 ≤ n := by
  by_cases hn : n < 2 ^ 31
  · left; intro e; subst e; exact nI_pos hn h
  · right; omega
theorem lI_len {x : tIL} {l : List Nat} (h : lI x l) : x.1.length = l.length := by rw [h]; simp
theorem lI_length {x : tIL} {l : List Nat} (h : lI x l) : A_IL_length x = nI l.length := by unfold A_IL_length; rw [lI_len h]
theorem il_at {x : tIL} {k : Nat} (hk : k < x.1.length) (hl : x.1.length < 2 ^ 31) : A_IL_at x (nI k) = x.1.getD k 0 := by
  unfold A_IL_at
  rw [if_neg (nI_pos (by omega)), if_neg (by rw [nI_leI (by omega) (by omega)]; omega), nI_clamp (by omega)]
theorem il_at_out {x : tIL} {k : Int32} (h : k < 0 ∨ nI x.1.length ≤ k) : A_IL_at x k = -1 := by
  unfold A_IL_at
  by_cases h1 : k < 0
  · rw [if_pos h1]
  · rw [if_neg h1, if_pos (h.resolve_left h1)]
theorem getD_map {l : List Nat} {k : Nat} (hk : k < l.length) : (l.map nI).getD k 0 = nI (l.getD k 0) := by
  simp [List.getD_eq_getElem?_getD, hk]
theorem lI_at {x : tIL} {l : List Nat} (h : lI x l) {k : Nat} (hk : k < l.length) (hl : l.length < 2 ^ 31) : A_IL_at x (nI k) = nI (l.getD k 0) := by
  rw [il_at (by rw [lI_len h]; exact hk) (by rw [lI_len h]; exact hl), h, getD_map hk]
theorem lI_at_out {x : tIL} {l : List Nat} (h : lI x l) {k : Int32} (hk : k < 0 ∨ nI l.length ≤ k) : A_IL_at x k = -1 := il_at_out (by rw [lI_len h]; exact hk)
theorem lI_add {x : tIL} {l : List Nat} (h : lI x l) (v : Nat) : lI (A_IL_add x (nI v)) (l ++ [v]) := by
  unfold lI A_IL_add at *
  simp only [h, List.map_append, List.map_cons, List.map_nil]
theorem lI_cut {x : tIL} {l : List Nat} (h : lI x l) {k : Nat} (hk : k ≤ l.length) (hl : l.length < 2 ^ 31) : lI (A_IL_cut x (nI k)) (l.take k) := by
  unfold A_IL_cut
  rw [if_neg (nI_pos (by omega))]
  by_cases h1 : k = l.length
  · subst h1
    rw [if_pos (by rw [lI_len h, nI_leI (by omega) (by omega)]; omega)]
    simpa [lI] using h
  · rw [if_neg (by rw [lI_len h, nI_leI (by omega) (by omega)]; omega), nI_clamp (by omega)]
    unfold lI at *
    simp only [h, List.map_take]
theorem lI_nil_cut {x : tIL} {l : List Nat} (h : lI x l) (hl : l.length < 2 ^ 31) : lI (A_IL_cut x 0) [] := by
  have := lI_cut h (k := 0) (Nat.zero_le _) hl
  rw [nI_0] at this
  simpa using this
theorem lI_put {x : tIL} {l : List Nat} (h : lI x l) {k v : Nat} (hk : k < l.length) (hl : l.length < 2 ^ 31) : lI (A_IL_put x (nI k) (nI v)) (l.set k v) := by
  unfold A_IL_put
  rw [if_neg (nI_pos (by omega)), if_neg (by rw [lI_len h, nI_leI (by omega) (by omega)]; omega), nI_clamp (by omega)]
  unfold lI at *
  simp only [h, List.map_set]
/-- an index out of a script: within, or not -/
theorem ix_cases (x : Int32) {n : Nat} (hn : n < 2 ^ 31) : (x < 0 ∨ nI n ≤ x) ∨ ∃ k, k < n ∧ x = nI k := by
  rcases pk_ix x hn with h | h | h
  · exact Or.inl (Or.inl h)
  · exact Or.inl (Or.inr h)
  · exact Or.inr h
theorem aI_get {f : Nat → Int32} {l : List Nat} (h : aI f l) {i : Nat} (hi : i < l.length) : f i = nI (l.getD i 0) := h i hi
theorem aI_push {f : Nat → Int32} {l : List Nat} (h : aI f l) (v : Nat) : aI (upd f l.length (nI v)) (l ++ [v]) := by
  intro i hi
  simp only [List.length_append, List.length_cons, List.length_nil] at hi
  by_cases e : i = l.length
  · subst e; rw [pk_us]; simp [List.getD_eq_getElem?_getD]
  · rw [pk_un e, h i (by omega)]
    simp [List.getD_eq_getElem?_getD, List.getElem?_append_left (show i < l.length by omega)]
theorem aI_nil (f : Nat → Int32) : aI f [] := fun i hi => absurd hi (Nat.not_lt_zero i)
theorem nI_sub1 (n : Nat) : nI (n + 1) - 1 = nI n := nI_pred n
theorem len_add (x : tIL) (v : Int32) : A_IL_length (A_IL_add x v) = nI (x.1.length + 1) := by simp [A_IL_length, A_IL_add]
theorem getD_app {α : Type} {l : List α} {d : α} (v : α) {i : Nat} (h : i < l.length) : (l ++ [v]).getD i d = l.getD i d := by simp [List.getD_eq_getElem?_getD, List.getElem?_append_left h]
theorem getD_last {α : Type} (l : List α) (d v : α) : (l ++ [v]).getD l.length d = v := by simp [List.getD_eq_getElem?_getD]
/-- capacity: at most twice a bound -/
def cB (B : Nat) (x : tIL) : Prop := x.2 ≤ 2 * B
theorem cB_add {B : Nat} {x : tIL} (h : cB B x) (hl : x.1.length ≤ B) (v : Int32) : cB B (A_IL_add x v) := by
  unfold cB A_IL_add at *
  by_cases c : x.1.length < x.2
  · simp only [if_pos c]; omega
  · simp only [if_neg c]; omega
theorem cB_put {B : Nat} {x : tIL} (h : cB B x) (k v : Int32) : cB B (A_IL_put x k v) := by unfold cB; rw [cap_put]; exact h
theorem cB_cut {B : Nat} {x : tIL} (h : cB B x) (k : Int32) : cB B (A_IL_cut x k) := by unfold cB; rw [cap_cut]; exact h
/-- where a number stands first in a list, counted from k on; -1: nowhere -/
def fd (x : Nat) : List Nat → Nat → Int32
  | [], _ => -1
  | a :: l, k => if a = x then nI k else fd x l (k + 1)
theorem nI_m1 {n : Nat} (h : n < 2 ^ 31) : nI n ≠ -1 := by
  intro e
  have h1 := congrArg Int32.toInt e
  rw [nI_toInt h] at h1
  have h2 : (-1 : Int32).toInt = -1 := rfl
  omega
theorem fd_none {x : Nat} : ∀ {l : List Nat} {k : Nat}, (∀ a ∈ l, a ≠ x) → fd x l k = -1
  | [], _, _ => rfl
  | a :: l, k, h => by
    rw [fd, if_neg (h a List.mem_cons_self)]
    exact fd_none fun b hb => h b (List.mem_cons_of_mem _ hb)
theorem fd_app {x a : Nat} : ∀ {l : List Nat} {k : Nat}, k + l.length < 2 ^ 31 → fd x (l ++ [a]) k = if fd x l k = -1 then (if a = x then nI (k + l.length) else -1) else fd x l k
  | [], k, _ => by simp [fd]
  | b :: l, k, h => by
    simp only [List.length_cons] at h
    rw [List.cons_append, fd, fd]
    by_cases e : b = x
    · simp only [if_pos e]
      rw [if_neg (nI_m1 (by omega))]
    · simp only [if_neg e]
      rw [fd_app (by omega)]
      simp only [List.length_cons, show k + 1 + l.length = k + (l.length + 1) by omega]
theorem fd_some {x : Nat} : ∀ {l : List Nat} {k : Nat}, k + l.length < 2 ^ 31 → fd x l k = -1 ∨ ∃ j, j < l.length ∧ fd x l k = nI (k + j) ∧ l.getD j 0 = x
  | [], _, _ => Or.inl rfl
  | a :: l, k, h => by
    simp only [List.length_cons] at h
    rw [fd]
    by_cases e : a = x
    · rw [if_pos e]
      exact Or.inr ⟨0, by simp, rfl, by simpa using e⟩
    · rw [if_neg e]
      rcases fd_some (x := x) (l := l) (k := k + 1) (by omega) with h1 | ⟨j, h1, h2, h3⟩
      · exact Or.inl h1
      · exact Or.inr ⟨j + 1, by simp only [List.length_cons]; omega, by rw [h2]; congr 1; omega, by simpa using h3⟩
/-! statements -/
/-- the system's statements: what each takes, the places of the mandatory ones -/
def CS (s : tST) (tk md : List Nat) : Prop := lI (gST_takings s) tk ∧ ((gST_places s).1.length = tk.length ∧ ∀ i, i < tk.length → (gST_places s).1.getD i 0 = fd i md 0) ∧ gST_mandatories s = nI md.length ∧ cB 2048 (gST_takings s) ∧ cB 2048 (gST_places s)
/-- the reference's -/
def MS (n : Int32) (takes mands : Nat → Int32) (mc : Int32) (tk md : List Nat) : Prop := n = nI tk.length ∧ aI takes tk ∧ mc = nI md.length ∧ aI mands md
/-- what statements are -/
def WS (j : Nat) (tk md : List Nat) : Prop := tk.length ≤ j ∧ (∀ t ∈ tk, t ≤ 60) ∧ (∀ i ∈ md, i < tk.length ∧ tk.getD i 0 = 0) ∧ md.length ≤ 60
theorem b_statement {j : Nat} {s : tST} {μ : tMD} {tk md : List Nat} (hj : j < 512) (hC : CS s tk md) (hM : MS (gMD_statements μ) (gMD_takes μ) (gMD_mandatories μ) (gMD_mandatoryCount μ) tk md) (hW : WS j tk md) {m : Nat} (hm : m ≤ 60) :
    (A_ST_add s (nI m)).1 = nI tk.length ∧ CS (A_ST_add s (nI m)).2 (tk ++ [m]) md ∧ A_ST_amount s = nI tk.length ∧ WS (j + 1) (tk ++ [m]) md := by
  obtain ⟨c1, ⟨c2, c3⟩, c4, c5, c6⟩ := hC
  obtain ⟨w1, w2, w4, w5⟩ := hW
  have hlen := lI_len c1
  refine ⟨?_, ⟨lI_add c1 m, ⟨?_, ?_⟩, c4, cB_add c5 (by omega) _, cB_add c6 (by omega) _⟩, lI_length c1, ?_, ?_, ?_, w5⟩
  · show A_IL_length (A_IL_add (gST_takings s) (nI m)) - 1 = _
    rw [len_add, nI_sub1, hlen]
  · show (A_IL_add (gST_places s) (-1)).1.length = _
    simp [A_IL_add, c2]
  · intro i hi
    show (A_IL_add (gST_places s) (-1)).1.getD i 0 = _
    simp only [A_IL_add]
    simp only [List.length_append, List.length_cons, List.length_nil] at hi
    by_cases e : i = tk.length
    · subst e
      rw [← c2, getD_last, fd_none (fun a ha e => by have := (w4 _ ha).1; omega)]
    · rw [getD_app _ (by omega), c3 i (by omega)]
  · simp only [List.length_append, List.length_cons, List.length_nil]; omega
  · intro t ht
    rcases List.mem_append.mp ht with h | h
    · exact w2 t h
    · simp at h; omega
  · intro i hi
    have h := w4 i hi
    exact ⟨by simp only [List.length_append, List.length_cons, List.length_nil]; omega, by rw [getD_app _ h.1]; exact h.2⟩
