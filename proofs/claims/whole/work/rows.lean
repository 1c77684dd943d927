section
-- ===== PART A: goes FIRST, ahead of the names: the tables' words, and 'selects' of the private methods out of them =====
/-- a private method of a class that the tables say can be made, by its rows of tables_1 -/
def lw_okq (q : MethodName × Nat) : Prop := (q.1.cls ≠ "java/lang/invoke/MethodHandle" ∧ q.1.cls ≠ "java/lang/invoke/VarHandle") ∧ Cond.instantiable q.1.cls q.2 ∈ tables_1 ∧ Cond.privateMethod q.1 ∈ tables_1 ∧ Cond.instanceMethod q.1 ∈ tables_1
theorem lw_p0 : lw_okq (⟨"ProofPacker", "mayPutOn", "(I)Z"⟩, 5) := ⟨⟨by decide +kernel, by decide +kernel⟩, List.mem_of_getElem? (i := 12) (by decide +kernel), List.mem_of_getElem? (i := 250) (by decide +kernel), List.mem_of_getElem? (i := 251) (by decide +kernel)⟩
theorem lw_p1 : lw_okq (⟨"ProofPacker$Rows", "kindOfNewRow", "(II)I"⟩, 9) := ⟨⟨by decide +kernel, by decide +kernel⟩, List.mem_of_getElem? (i := 50) (by decide +kernel), List.mem_of_getElem? (i := 264) (by decide +kernel), List.mem_of_getElem? (i := 265) (by decide +kernel)⟩
theorem lw_p2 : lw_okq (⟨"ProofPacker$Rows", "bucketOf", "(ILProofPacker$IntList;I)I"⟩, 9) := ⟨⟨by decide +kernel, by decide +kernel⟩, List.mem_of_getElem? (i := 50) (by decide +kernel), List.mem_of_getElem? (i := 276) (by decide +kernel), List.mem_of_getElem? (i := 277) (by decide +kernel)⟩
theorem lw_p3 : lw_okq (⟨"ProofPacker$Rows", "isMadeOf", "(IILProofPacker$IntList;I)Z"⟩, 9) := ⟨⟨by decide +kernel, by decide +kernel⟩, List.mem_of_getElem? (i := 50) (by decide +kernel), List.mem_of_getElem? (i := 284) (by decide +kernel), List.mem_of_getElem? (i := 285) (by decide +kernel)⟩
theorem lw_p4 : lw_okq (⟨"ProofPacker$Rows", "countSteps", "(I)J"⟩, 9) := ⟨⟨by decide +kernel, by decide +kernel⟩, List.mem_of_getElem? (i := 50) (by decide +kernel), List.mem_of_getElem? (i := 288) (by decide +kernel), List.mem_of_getElem? (i := 289) (by decide +kernel)⟩
theorem lw_p5 : lw_okq (⟨"ProofPacker$Rows", "keepSteps", "(IJ)V"⟩, 9) := ⟨⟨by decide +kernel, by decide +kernel⟩, List.mem_of_getElem? (i := 50) (by decide +kernel), List.mem_of_getElem? (i := 312) (by decide +kernel), List.mem_of_getElem? (i := 313) (by decide +kernel)⟩
theorem lw_p6 : lw_okq (⟨"ProofPacker", "putOn", "(I)V"⟩, 5) := ⟨⟨by decide +kernel, by decide +kernel⟩, List.mem_of_getElem? (i := 12) (by decide +kernel), List.mem_of_getElem? (i := 328) (by decide +kernel), List.mem_of_getElem? (i := 329) (by decide +kernel)⟩
theorem lw_p7 : lw_okq (⟨"ProofPacker$Telling", "tellSteps", "()V"⟩, 14) := ⟨⟨by decide +kernel, by decide +kernel⟩, List.mem_of_getElem? (i := 110) (by decide +kernel), List.mem_of_getElem? (i := 387) (by decide +kernel), List.mem_of_getElem? (i := 388) (by decide +kernel)⟩
theorem lw_p8 : lw_okq (⟨"ProofPacker$Telling", "open", "(I)V"⟩, 14) := ⟨⟨by decide +kernel, by decide +kernel⟩, List.mem_of_getElem? (i := 110) (by decide +kernel), List.mem_of_getElem? (i := 397) (by decide +kernel), List.mem_of_getElem? (i := 398) (by decide +kernel)⟩
theorem lw_p9 : lw_okq (⟨"ProofPacker$Telling", "tellPart", "(I)V"⟩, 14) := ⟨⟨by decide +kernel, by decide +kernel⟩, List.mem_of_getElem? (i := 110) (by decide +kernel), List.mem_of_getElem? (i := 408) (by decide +kernel), List.mem_of_getElem? (i := 409) (by decide +kernel)⟩
theorem lw_p10 : lw_okq (⟨"ProofPacker$Telling", "addStep", "(I)V"⟩, 14) := ⟨⟨by decide +kernel, by decide +kernel⟩, List.mem_of_getElem? (i := 110) (by decide +kernel), List.mem_of_getElem? (i := 413) (by decide +kernel), List.mem_of_getElem? (i := 414) (by decide +kernel)⟩
theorem lw_p11 : lw_okq (⟨"ProofPacker$Telling", "numberSavedRows", "()V"⟩, 14) := ⟨⟨by decide +kernel, by decide +kernel⟩, List.mem_of_getElem? (i := 110) (by decide +kernel), List.mem_of_getElem? (i := 418) (by decide +kernel), List.mem_of_getElem? (i := 419) (by decide +kernel)⟩
theorem lw_p12 : lw_okq (⟨"ProofPacker$Telling", "numberStatements", "()V"⟩, 14) := ⟨⟨by decide +kernel, by decide +kernel⟩, List.mem_of_getElem? (i := 110) (by decide +kernel), List.mem_of_getElem? (i := 426) (by decide +kernel), List.mem_of_getElem? (i := 427) (by decide +kernel)⟩
theorem lw_p13 : lw_okq (⟨"ProofPacker$Telling", "numberOfNew", "(I)I"⟩, 14) := ⟨⟨by decide +kernel, by decide +kernel⟩, List.mem_of_getElem? (i := 110) (by decide +kernel), List.mem_of_getElem? (i := 431) (by decide +kernel), List.mem_of_getElem? (i := 432) (by decide +kernel)⟩
theorem lw_p14 : lw_okq (⟨"ProofPacker$Telling", "tellLetters", "()V"⟩, 14) := ⟨⟨by decide +kernel, by decide +kernel⟩, List.mem_of_getElem? (i := 110) (by decide +kernel), List.mem_of_getElem? (i := 441) (by decide +kernel), List.mem_of_getElem? (i := 442) (by decide +kernel)⟩
theorem lw_p15 : lw_okq (⟨"ProofPacker$Telling", "rowsTakenAt", "(I)I"⟩, 14) := ⟨⟨by decide +kernel, by decide +kernel⟩, List.mem_of_getElem? (i := 110) (by decide +kernel), List.mem_of_getElem? (i := 544) (by decide +kernel), List.mem_of_getElem? (i := 545) (by decide +kernel)⟩
def lw_privs_1 : List (MethodName × Nat) := [(⟨"ProofPacker", "mayPutOn", "(I)Z"⟩, 5), (⟨"ProofPacker$Rows", "kindOfNewRow", "(II)I"⟩, 9), (⟨"ProofPacker$Rows", "bucketOf", "(ILProofPacker$IntList;I)I"⟩, 9), (⟨"ProofPacker$Rows", "isMadeOf", "(IILProofPacker$IntList;I)Z"⟩, 9), (⟨"ProofPacker$Rows", "countSteps", "(I)J"⟩, 9), (⟨"ProofPacker$Rows", "keepSteps", "(IJ)V"⟩, 9), (⟨"ProofPacker", "putOn", "(I)V"⟩, 5), (⟨"ProofPacker$Telling", "tellSteps", "()V"⟩, 14), (⟨"ProofPacker$Telling", "open", "(I)V"⟩, 14), (⟨"ProofPacker$Telling", "tellPart", "(I)V"⟩, 14), (⟨"ProofPacker$Telling", "addStep", "(I)V"⟩, 14), (⟨"ProofPacker$Telling", "numberSavedRows", "()V"⟩, 14), (⟨"ProofPacker$Telling", "numberStatements", "()V"⟩, 14), (⟨"ProofPacker$Telling", "numberOfNew", "(I)I"⟩, 14), (⟨"ProofPacker$Telling", "tellLetters", "()V"⟩, 14), (⟨"ProofPacker$Telling", "rowsTakenAt", "(I)I"⟩, 14)]
theorem lw_r1 : ∀ q ∈ lw_privs_1, lw_okq q := List.forall_mem_cons.mpr ⟨lw_p0, List.forall_mem_cons.mpr ⟨lw_p1, List.forall_mem_cons.mpr ⟨lw_p2, List.forall_mem_cons.mpr ⟨lw_p3, List.forall_mem_cons.mpr ⟨lw_p4, List.forall_mem_cons.mpr ⟨lw_p5, List.forall_mem_cons.mpr ⟨lw_p6, List.forall_mem_cons.mpr ⟨lw_p7, List.forall_mem_cons.mpr ⟨lw_p8, List.forall_mem_cons.mpr ⟨lw_p9, List.forall_mem_cons.mpr ⟨lw_p10, List.forall_mem_cons.mpr ⟨lw_p11, List.forall_mem_cons.mpr ⟨lw_p12, List.forall_mem_cons.mpr ⟨lw_p13, List.forall_mem_cons.mpr ⟨lw_p14, List.forall_mem_cons.mpr ⟨lw_p15, fun _ h => absurd h List.not_mem_nil⟩⟩⟩⟩⟩⟩⟩⟩⟩⟩⟩⟩⟩⟩⟩⟩
theorem lw_p16 : lw_okq (⟨"ProofPacker$Telling", "kindMadeAt", "(II)I"⟩, 14) := ⟨⟨by decide +kernel, by decide +kernel⟩, List.mem_of_getElem? (i := 110) (by decide +kernel), List.mem_of_getElem? (i := 549) (by decide +kernel), List.mem_of_getElem? (i := 550) (by decide +kernel)⟩
theorem lw_p17 : lw_okq (⟨"ProofPackerModel", "isStatement", "(I)Z"⟩, 28) := ⟨⟨by decide +kernel, by decide +kernel⟩, List.mem_of_getElem? (i := 554) (by decide +kernel), List.mem_of_getElem? (i := 655) (by decide +kernel), List.mem_of_getElem? (i := 656) (by decide +kernel)⟩
theorem lw_p18 : lw_okq (⟨"ProofPackerModel", "mandatoryOf", "(I)I"⟩, 28) := ⟨⟨by decide +kernel, by decide +kernel⟩, List.mem_of_getElem? (i := 554) (by decide +kernel), List.mem_of_getElem? (i := 659) (by decide +kernel), List.mem_of_getElem? (i := 660) (by decide +kernel)⟩
theorem lw_p19 : lw_okq (⟨"ProofPackerModel", "findSame", "(I)V"⟩, 28) := ⟨⟨by decide +kernel, by decide +kernel⟩, List.mem_of_getElem? (i := 554) (by decide +kernel), List.mem_of_getElem? (i := 667) (by decide +kernel), List.mem_of_getElem? (i := 668) (by decide +kernel)⟩
theorem lw_p20 : lw_okq (⟨"ProofPackerModel", "isAlike", "(II)Z"⟩, 28) := ⟨⟨by decide +kernel, by decide +kernel⟩, List.mem_of_getElem? (i := 554) (by decide +kernel), List.mem_of_getElem? (i := 671) (by decide +kernel), List.mem_of_getElem? (i := 672) (by decide +kernel)⟩
theorem lw_p21 : lw_okq (⟨"ProofPackerModel", "findSize", "(I)V"⟩, 28) := ⟨⟨by decide +kernel, by decide +kernel⟩, List.mem_of_getElem? (i := 554) (by decide +kernel), List.mem_of_getElem? (i := 675) (by decide +kernel), List.mem_of_getElem? (i := 676) (by decide +kernel)⟩
theorem lw_p22 : lw_okq (⟨"ProofPackerModel", "isRow", "(I)Z"⟩, 28) := ⟨⟨by decide +kernel, by decide +kernel⟩, List.mem_of_getElem? (i := 554) (by decide +kernel), List.mem_of_getElem? (i := 685) (by decide +kernel), List.mem_of_getElem? (i := 686) (by decide +kernel)⟩
theorem lw_p23 : lw_okq (⟨"ProofPackerModel", "tellAll", "(I)V"⟩, 28) := ⟨⟨by decide +kernel, by decide +kernel⟩, List.mem_of_getElem? (i := 554) (by decide +kernel), List.mem_of_getElem? (i := 713) (by decide +kernel), List.mem_of_getElem? (i := 714) (by decide +kernel)⟩
theorem lw_p24 : lw_okq (⟨"ProofPackerModel", "tell", "(II)V"⟩, 28) := ⟨⟨by decide +kernel, by decide +kernel⟩, List.mem_of_getElem? (i := 554) (by decide +kernel), List.mem_of_getElem? (i := 717) (by decide +kernel), List.mem_of_getElem? (i := 718) (by decide +kernel)⟩
theorem lw_p25 : lw_okq (⟨"ProofPackerModel", "numberSaved", "()V"⟩, 28) := ⟨⟨by decide +kernel, by decide +kernel⟩, List.mem_of_getElem? (i := 554) (by decide +kernel), List.mem_of_getElem? (i := 721) (by decide +kernel), List.mem_of_getElem? (i := 722) (by decide +kernel)⟩
theorem lw_p26 : lw_okq (⟨"ProofPackerModel", "findLabels", "()V"⟩, 28) := ⟨⟨by decide +kernel, by decide +kernel⟩, List.mem_of_getElem? (i := 554) (by decide +kernel), List.mem_of_getElem? (i := 725) (by decide +kernel), List.mem_of_getElem? (i := 726) (by decide +kernel)⟩
theorem lw_p27 : lw_okq (⟨"ProofPackerModel", "labelOf", "(I)I"⟩, 28) := ⟨⟨by decide +kernel, by decide +kernel⟩, List.mem_of_getElem? (i := 554) (by decide +kernel), List.mem_of_getElem? (i := 729) (by decide +kernel), List.mem_of_getElem? (i := 730) (by decide +kernel)⟩
theorem lw_p28 : lw_okq (⟨"ProofPackerModel", "layLetters", "()V"⟩, 28) := ⟨⟨by decide +kernel, by decide +kernel⟩, List.mem_of_getElem? (i := 554) (by decide +kernel), List.mem_of_getElem? (i := 733) (by decide +kernel), List.mem_of_getElem? (i := 734) (by decide +kernel)⟩
theorem lw_p29 : lw_okq (⟨"ProofPackerModel", "layNumber", "(I)V"⟩, 28) := ⟨⟨by decide +kernel, by decide +kernel⟩, List.mem_of_getElem? (i := 554) (by decide +kernel), List.mem_of_getElem? (i := 737) (by decide +kernel), List.mem_of_getElem? (i := 738) (by decide +kernel)⟩
theorem lw_p30 : lw_okq (⟨"ProofPackerModel", "putLetter", "(CI)V"⟩, 28) := ⟨⟨by decide +kernel, by decide +kernel⟩, List.mem_of_getElem? (i := 554) (by decide +kernel), List.mem_of_getElem? (i := 741) (by decide +kernel), List.mem_of_getElem? (i := 742) (by decide +kernel)⟩
def lw_privs_2 : List (MethodName × Nat) := [(⟨"ProofPacker$Telling", "kindMadeAt", "(II)I"⟩, 14), (⟨"ProofPackerModel", "isStatement", "(I)Z"⟩, 28), (⟨"ProofPackerModel", "mandatoryOf", "(I)I"⟩, 28), (⟨"ProofPackerModel", "findSame", "(I)V"⟩, 28), (⟨"ProofPackerModel", "isAlike", "(II)Z"⟩, 28), (⟨"ProofPackerModel", "findSize", "(I)V"⟩, 28), (⟨"ProofPackerModel", "isRow", "(I)Z"⟩, 28), (⟨"ProofPackerModel", "tellAll", "(I)V"⟩, 28), (⟨"ProofPackerModel", "tell", "(II)V"⟩, 28), (⟨"ProofPackerModel", "numberSaved", "()V"⟩, 28), (⟨"ProofPackerModel", "findLabels", "()V"⟩, 28), (⟨"ProofPackerModel", "labelOf", "(I)I"⟩, 28), (⟨"ProofPackerModel", "layLetters", "()V"⟩, 28), (⟨"ProofPackerModel", "layNumber", "(I)V"⟩, 28), (⟨"ProofPackerModel", "putLetter", "(CI)V"⟩, 28)]
theorem lw_r2 : ∀ q ∈ lw_privs_2, lw_okq q := List.forall_mem_cons.mpr ⟨lw_p16, List.forall_mem_cons.mpr ⟨lw_p17, List.forall_mem_cons.mpr ⟨lw_p18, List.forall_mem_cons.mpr ⟨lw_p19, List.forall_mem_cons.mpr ⟨lw_p20, List.forall_mem_cons.mpr ⟨lw_p21, List.forall_mem_cons.mpr ⟨lw_p22, List.forall_mem_cons.mpr ⟨lw_p23, List.forall_mem_cons.mpr ⟨lw_p24, List.forall_mem_cons.mpr ⟨lw_p25, List.forall_mem_cons.mpr ⟨lw_p26, List.forall_mem_cons.mpr ⟨lw_p27, List.forall_mem_cons.mpr ⟨lw_p28, List.forall_mem_cons.mpr ⟨lw_p29, List.forall_mem_cons.mpr ⟨lw_p30, fun _ h => absurd h List.not_mem_nil⟩⟩⟩⟩⟩⟩⟩⟩⟩⟩⟩⟩⟩⟩⟩
def lw_privs : List (MethodName × Nat) := lw_privs_1 ++ (lw_privs_2)
def lw_tbl : List Cond := k2_sels lw_privs ++ tables_1
theorem lw_privs_ok : ∀ q ∈ lw_privs, lw_okq q := by
  show ∀ q ∈ lw_privs_1 ++ (lw_privs_2), lw_okq q
  exact List.forall_mem_append.mpr ⟨lw_r1, lw_r2⟩

def RIL : String := "ProofPacker$IntList"
def RLL : String := "ProofPacker$LetterList"
def RRW : String := "ProofPacker$Rows"
def RST : String := "ProofPacker$Statements"
def RTL : String := "ProofPacker$Telling"
def RPP : String := "ProofPacker"
def RMD : String := "ProofPackerModel"
def RAR : String := "java/util/Arrays"
def RLW : String := "ProofPackerLaw"
def TIL : u_T := fun k => match k with
  | 0 => ("ProofPacker$IntList", "items", "[I", false)
  | _ => ("ProofPacker$IntList", "used", "I", false)
def tyIL : Nat → FieldType := fun k => match k with
  | 0 => .array .int
  | _ => .int
theorem nmIL : ∀ a, a < 2 → ∀ b, b < 2 → a ≠ b → (TIL a).2.1 ≠ (TIL b).2.1 := by decide +kernel
theorem tokIL : ∀ k, k < 2 → parseFieldDescriptor (TIL k).2.2.1 = some (tyIL k) := by decide +kernel
def TLL : u_T := fun k => match k with
  | _ => ("ProofPacker$LetterList", "letters", "LProofPacker$IntList;", true)
def tyLL : Nat → FieldType := fun k => match k with
  | _ => .object "ProofPacker$IntList"
theorem nmLL : ∀ a, a < 1 → ∀ b, b < 1 → a ≠ b → (TLL a).2.1 ≠ (TLL b).2.1 := by decide +kernel
theorem tokLL : ∀ k, k < 1 → parseFieldDescriptor (TLL k).2.2.1 = some (tyLL k) := by decide +kernel
def TRW : u_T := fun k => match k with
  | 0 => ("ProofPacker$Rows", "statements", "LProofPacker$IntList;", true)
  | 1 => ("ProofPacker$Rows", "starts", "LProofPacker$IntList;", true)
  | 2 => ("ProofPacker$Rows", "parts", "LProofPacker$IntList;", true)
  | 3 => ("ProofPacker$Rows", "partKinds", "LProofPacker$IntList;", true)
  | 4 => ("ProofPacker$Rows", "kinds", "LProofPacker$IntList;", true)
  | 5 => ("ProofPacker$Rows", "firstOfKind", "LProofPacker$IntList;", true)
  | 6 => ("ProofPacker$Rows", "olderKind", "LProofPacker$IntList;", true)
  | 7 => ("ProofPacker$Rows", "newestKind", "[I", true)
  | _ => ("ProofPacker$Rows", "steps", "[J", false)
def tyRW : Nat → FieldType := fun k => match k with
  | 0 => .object "ProofPacker$IntList"
  | 1 => .object "ProofPacker$IntList"
  | 2 => .object "ProofPacker$IntList"
  | 3 => .object "ProofPacker$IntList"
  | 4 => .object "ProofPacker$IntList"
  | 5 => .object "ProofPacker$IntList"
  | 6 => .object "ProofPacker$IntList"
  | 7 => .array .int
  | _ => .array .long
theorem nmRW : ∀ a, a < 9 → ∀ b, b < 9 → a ≠ b → (TRW a).2.1 ≠ (TRW b).2.1 := by decide +kernel
theorem tokRW : ∀ k, k < 9 → parseFieldDescriptor (TRW k).2.2.1 = some (tyRW k) := by decide +kernel
def TST : u_T := fun k => match k with
  | 0 => ("ProofPacker$Statements", "takings", "LProofPacker$IntList;", true)
  | 1 => ("ProofPacker$Statements", "places", "LProofPacker$IntList;", true)
  | _ => ("ProofPacker$Statements", "mandatories", "I", false)
def tyST : Nat → FieldType := fun k => match k with
  | 0 => .object "ProofPacker$IntList"
  | 1 => .object "ProofPacker$IntList"
  | _ => .int
theorem nmST : ∀ a, a < 3 → ∀ b, b < 3 → a ≠ b → (TST a).2.1 ≠ (TST b).2.1 := by decide +kernel
theorem tokST : ∀ k, k < 3 → parseFieldDescriptor (TST k).2.2.1 = some (tyST k) := by decide +kernel
def TTL : u_T := fun k => match k with
  | 0 => ("ProofPacker$Telling", "statements", "LProofPacker$Statements;", true)
  | 1 => ("ProofPacker$Telling", "rows", "LProofPacker$Rows;", true)
  | 2 => ("ProofPacker$Telling", "steps", "LProofPacker$IntList;", true)
  | 3 => ("ProofPacker$Telling", "savedAs", "LProofPacker$IntList;", true)
  | 4 => ("ProofPacker$Telling", "labels", "LProofPacker$IntList;", true)
  | 5 => ("ProofPacker$Telling", "letters", "LProofPacker$LetterList;", true)
  | 6 => ("ProofPacker$Telling", "rowTold", "I", false)
  | 7 => ("ProofPacker$Telling", "savedRows", "I", false)
  | 8 => ("ProofPacker$Telling", "openRows", "LProofPacker$IntList;", true)
  | 9 => ("ProofPacker$Telling", "openParts", "LProofPacker$IntList;", true)
  | 10 => ("ProofPacker$Telling", "toldAt", "LProofPacker$IntList;", true)
  | 11 => ("ProofPacker$Telling", "numbers", "LProofPacker$IntList;", true)
  | 12 => ("ProofPacker$Telling", "remade", "LProofPacker$IntList;", true)
  | _ => ("ProofPacker$Telling", "savedKinds", "LProofPacker$IntList;", true)
def tyTL : Nat → FieldType := fun k => match k with
  | 0 => .object "ProofPacker$Statements"
  | 1 => .object "ProofPacker$Rows"
  | 2 => .object "ProofPacker$IntList"
  | 3 => .object "ProofPacker$IntList"
  | 4 => .object "ProofPacker$IntList"
  | 5 => .object "ProofPacker$LetterList"
  | 6 => .int
  | 7 => .int
  | 8 => .object "ProofPacker$IntList"
  | 9 => .object "ProofPacker$IntList"
  | 10 => .object "ProofPacker$IntList"
  | 11 => .object "ProofPacker$IntList"
  | 12 => .object "ProofPacker$IntList"
  | _ => .object "ProofPacker$IntList"
theorem nmTL : ∀ a, a < 14 → ∀ b, b < 14 → a ≠ b → (TTL a).2.1 ≠ (TTL b).2.1 := by decide +kernel
theorem tokTL : ∀ k, k < 14 → parseFieldDescriptor (TTL k).2.2.1 = some (tyTL k) := by decide +kernel
def TPP : u_T := fun k => match k with
  | 0 => ("ProofPacker", "statements", "LProofPacker$Statements;", true)
  | 1 => ("ProofPacker", "rows", "LProofPacker$Rows;", true)
  | 2 => ("ProofPacker", "telling", "LProofPacker$Telling;", true)
  | 3 => ("ProofPacker", "pile", "LProofPacker$IntList;", true)
  | _ => ("ProofPacker", "puts", "I", false)
def tyPP : Nat → FieldType := fun k => match k with
  | 0 => .object "ProofPacker$Statements"
  | 1 => .object "ProofPacker$Rows"
  | 2 => .object "ProofPacker$Telling"
  | 3 => .object "ProofPacker$IntList"
  | _ => .int
theorem nmPP : ∀ a, a < 5 → ∀ b, b < 5 → a ≠ b → (TPP a).2.1 ≠ (TPP b).2.1 := by decide +kernel
theorem tokPP : ∀ k, k < 5 → parseFieldDescriptor (TPP k).2.2.1 = some (tyPP k) := by decide +kernel
def TMD : u_T := fun k => match k with
  | 0 => ("ProofPackerModel", "statements", "I", false)
  | 1 => ("ProofPackerModel", "takes", "[I", true)
  | 2 => ("ProofPackerModel", "mandatories", "[I", true)
  | 3 => ("ProofPackerModel", "mandatoryCount", "I", false)
  | 4 => ("ProofPackerModel", "rows", "I", false)
  | 5 => ("ProofPackerModel", "makers", "[I", true)
  | 6 => ("ProofPackerModel", "fromAt", "[I", true)
  | 7 => ("ProofPackerModel", "firstSame", "[I", true)
  | 8 => ("ProofPackerModel", "sizes", "[J", true)
  | 9 => ("ProofPackerModel", "froms", "[I", true)
  | 10 => ("ProofPackerModel", "fromCount", "I", false)
  | 11 => ("ProofPackerModel", "pile", "[I", true)
  | 12 => ("ProofPackerModel", "piled", "I", false)
  | 13 => ("ProofPackerModel", "puts", "I", false)
  | 14 => ("ProofPackerModel", "steps", "I", false)
  | 15 => ("ProofPackerModel", "toldStep", "[I", true)
  | 16 => ("ProofPackerModel", "stepRow", "[I", true)
  | 17 => ("ProofPackerModel", "isSaved", "[Z", true)
  | 18 => ("ProofPackerModel", "isTold", "[Z", true)
  | 19 => ("ProofPackerModel", "savedNumber", "[I", true)
  | 20 => ("ProofPackerModel", "savedCount", "I", false)
  | 21 => ("ProofPackerModel", "labels", "[I", true)
  | 22 => ("ProofPackerModel", "labelCount", "I", false)
  | 23 => ("ProofPackerModel", "letters", "[I", true)
  | 24 => ("ProofPackerModel", "letterCount", "I", false)
  | 25 => ("ProofPackerModel", "saving", "[Z", true)
  | 26 => ("ProofPackerModel", "walk", "[I", true)
  | _ => ("ProofPackerModel", "walkAt", "[I", true)
def tyMD : Nat → FieldType := fun k => match k with
  | 0 => .int
  | 1 => .array .int
  | 2 => .array .int
  | 3 => .int
  | 4 => .int
  | 5 => .array .int
  | 6 => .array .int
  | 7 => .array .int
  | 8 => .array .long
  | 9 => .array .int
  | 10 => .int
  | 11 => .array .int
  | 12 => .int
  | 13 => .int
  | 14 => .int
  | 15 => .array .int
  | 16 => .array .int
  | 17 => .array .boolean
  | 18 => .array .boolean
  | 19 => .array .int
  | 20 => .int
  | 21 => .array .int
  | 22 => .int
  | 23 => .array .int
  | 24 => .int
  | 25 => .array .boolean
  | 26 => .array .int
  | _ => .array .int
theorem nmMD : ∀ a, a < 28 → ∀ b, b < 28 → a ≠ b → (TMD a).2.1 ≠ (TMD b).2.1 := by decide +kernel
theorem tokMD : ∀ k, k < 28 → parseFieldDescriptor (TMD k).2.2.1 = some (tyMD k) := by decide +kernel
abbrev vwCl : List vw_C := [(RIL, TIL, 2), (RLL, TLL, 1), (RRW, TRW, 9), (RST, TST, 3), (RTL, TTL, 14), (RPP, TPP, 5), (RMD, TMD, 28)]
def lw_g : List Cond := lw_tbl.filter goodWord
theorem lw_gm {w : Cond} (h : w ∈ lw_tbl) (hg : goodWord w = true) : w ∈ lw_g := List.mem_filter.mpr ⟨h, hg⟩
theorem lw_gt {w : Cond} (h : w ∈ lw_g) : w ∈ lw_tbl := (List.mem_filter.mp h).1
theorem tbm0 {w : Cond} (i : Nat) (h : tables_1_1[i]? = some w) (hg : goodWord w = true) : w ∈ lw_g := lw_gm (List.mem_append_right _ (show w ∈ tables_1 from List.mem_append_left _ (List.mem_of_getElem? h))) hg
theorem tbm1 {w : Cond} (i : Nat) (h : tables_1_2[i]? = some w) (hg : goodWord w = true) : w ∈ lw_g := lw_gm (List.mem_append_right _ (show w ∈ tables_1 from List.mem_append_right _ (List.mem_append_left _ (List.mem_of_getElem? h)))) hg
theorem tbm2 {w : Cond} (i : Nat) (h : tables_1_3[i]? = some w) (hg : goodWord w = true) : w ∈ lw_g := lw_gm (List.mem_append_right _ (show w ∈ tables_1 from List.mem_append_right _ (List.mem_append_right _ (List.mem_append_left _ (List.mem_of_getElem? h))))) hg
theorem tbm3 {w : Cond} (i : Nat) (h : tables_1_4[i]? = some w) (hg : goodWord w = true) : w ∈ lw_g := lw_gm (List.mem_append_right _ (show w ∈ tables_1 from List.mem_append_right _ (List.mem_append_right _ (List.mem_append_right _ (List.mem_of_getElem? h))))) hg
theorem tbs {w : Cond} (i : Nat) (h : (k2_sels lw_privs)[i]? = some w) (hg : goodWord w = true) : w ∈ lw_g := lw_gm (List.mem_append_left _ (List.mem_of_getElem? h)) hg
theorem inIL : ∀ w ∈ u_ws RIL TIL 2, w ∈ lw_g := by
  intro w hw
  obtain ⟨k, hk, rfl⟩ := List.mem_map.mp hw
  have hk := List.mem_range.mp hk
  match k, hk with
  | 0, _ => exact tbm0 33 rfl rfl
  | 1, _ => exact tbm0 35 rfl rfl
  | k + 2, hk => exact absurd hk (by omega)
theorem inLL : ∀ w ∈ u_ws RLL TLL 1, w ∈ lw_g := by
  intro w hw
  obtain ⟨k, hk, rfl⟩ := List.mem_map.mp hw
  have hk := List.mem_range.mp hk
  match k, hk with
  | 0, _ => exact tbm0 126 rfl rfl
  | k + 1, hk => exact absurd hk (by omega)
theorem inRW : ∀ w ∈ u_ws RRW TRW 9, w ∈ lw_g := by
  intro w hw
  obtain ⟨k, hk, rfl⟩ := List.mem_map.mp hw
  have hk := List.mem_range.mp hk
  match k, hk with
  | 0, _ => exact tbm0 89 rfl rfl
  | 1, _ => exact tbm0 91 rfl rfl
  | 2, _ => exact tbm0 93 rfl rfl
  | 3, _ => exact tbm0 95 rfl rfl
  | 4, _ => exact tbm0 97 rfl rfl
  | 5, _ => exact tbm0 99 rfl rfl
  | 6, _ => exact tbm0 101 rfl rfl
  | 7, _ => exact tbm0 103 rfl rfl
  | 8, _ => exact tbm0 105 rfl rfl
  | k + 9, hk => exact absurd hk (by omega)
theorem inST : ∀ w ∈ u_ws RST TST 3, w ∈ lw_g := by
  intro w hw
  obtain ⟨k, hk, rfl⟩ := List.mem_map.mp hw
  have hk := List.mem_range.mp hk
  match k, hk with
  | 0, _ => exact tbm0 42 rfl rfl
  | 1, _ => exact tbm0 44 rfl rfl
  | 2, _ => exact tbm0 46 rfl rfl
  | k + 3, hk => exact absurd hk (by omega)
theorem inTL : ∀ w ∈ u_ws RTL TTL 14, w ∈ lw_g := by
  intro w hw
  obtain ⟨k, hk, rfl⟩ := List.mem_map.mp hw
  have hk := List.mem_range.mp hk
  match k, hk with
  | 0, _ => exact tbm0 143 rfl rfl
  | 1, _ => exact tbm0 145 rfl rfl
  | 2, _ => exact tbm0 147 rfl rfl
  | 3, _ => exact tbm0 149 rfl rfl
  | 4, _ => exact tbm0 151 rfl rfl
  | 5, _ => exact tbm0 153 rfl rfl
  | 6, _ => exact tbm0 155 rfl rfl
  | 7, _ => exact tbm0 157 rfl rfl
  | 8, _ => exact tbm0 159 rfl rfl
  | 9, _ => exact tbm0 161 rfl rfl
  | 10, _ => exact tbm0 163 rfl rfl
  | 11, _ => exact tbm0 165 rfl rfl
  | 12, _ => exact tbm0 167 rfl rfl
  | 13, _ => exact tbm0 169 rfl rfl
  | k + 14, hk => exact absurd hk (by omega)
theorem inPP : ∀ w ∈ u_ws RPP TPP 5, w ∈ lw_g := by
  intro w hw
  obtain ⟨k, hk, rfl⟩ := List.mem_map.mp hw
  have hk := List.mem_range.mp hk
  match k, hk with
  | 0, _ => exact tbm0 179 rfl rfl
  | 1, _ => exact tbm0 181 rfl rfl
  | 2, _ => exact tbm0 183 rfl rfl
  | 3, _ => exact tbm0 185 rfl rfl
  | 4, _ => exact tbm0 187 rfl rfl
  | k + 5, hk => exact absurd hk (by omega)
theorem inMD : ∀ w ∈ u_ws RMD TMD 28, w ∈ lw_g := by
  intro w hw
  obtain ⟨k, hk, rfl⟩ := List.mem_map.mp hw
  have hk := List.mem_range.mp hk
  match k, hk with
  | 0, _ => exact tbm2 108 rfl rfl
  | 1, _ => exact tbm2 110 rfl rfl
  | 2, _ => exact tbm2 112 rfl rfl
  | 3, _ => exact tbm2 114 rfl rfl
  | 4, _ => exact tbm2 116 rfl rfl
  | 5, _ => exact tbm2 118 rfl rfl
  | 6, _ => exact tbm2 120 rfl rfl
  | 7, _ => exact tbm2 122 rfl rfl
  | 8, _ => exact tbm2 124 rfl rfl
  | 9, _ => exact tbm2 126 rfl rfl
  | 10, _ => exact tbm2 128 rfl rfl
  | 11, _ => exact tbm2 130 rfl rfl
  | 12, _ => exact tbm2 132 rfl rfl
  | 13, _ => exact tbm2 134 rfl rfl
  | 14, _ => exact tbm2 136 rfl rfl
  | 15, _ => exact tbm2 138 rfl rfl
  | 16, _ => exact tbm2 140 rfl rfl
  | 17, _ => exact tbm2 142 rfl rfl
  | 18, _ => exact tbm2 144 rfl rfl
  | 19, _ => exact tbm2 146 rfl rfl
  | 20, _ => exact tbm2 148 rfl rfl
  | 21, _ => exact tbm2 150 rfl rfl
  | 22, _ => exact tbm2 152 rfl rfl
  | 23, _ => exact tbm2 154 rfl rfl
  | 24, _ => exact tbm2 156 rfl rfl
  | 25, _ => exact tbm2 158 rfl rfl
  | 26, _ => exact tbm2 160 rfl rfl
  | 27, _ => exact tbm2 162 rfl rfl
  | k + 28, hk => exact absurd hk (by omega)
theorem ini_LW : Cond.initialized RLW ∈ lw_g := tbm0 0 rfl rfl
theorem ini_PP : Cond.initialized RPP ∈ lw_g := tbm0 1 rfl rfl
theorem ini_ST : Cond.initialized RST ∈ lw_g := tbm0 2 rfl rfl
theorem ini_IL : Cond.initialized RIL ∈ lw_g := tbm0 3 rfl rfl
theorem ini_RW : Cond.initialized RRW ∈ lw_g := tbm0 4 rfl rfl
theorem ini_AR : Cond.initialized RAR ∈ lw_g := tbm0 5 rfl rfl
theorem ini_java_lang_Math : Cond.initialized "java/lang/Math" ∈ lw_g := tbm0 6 rfl rfl
theorem ini_java_lang_System : Cond.initialized "java/lang/System" ∈ lw_g := tbm0 7 rfl rfl
theorem ini_TL : Cond.initialized RTL ∈ lw_g := tbm0 8 rfl rfl
theorem ini_LL : Cond.initialized RLL ∈ lw_g := tbm0 9 rfl rfl
theorem ini_MD : Cond.initialized RMD ∈ lw_g := tbm0 10 rfl rfl
theorem cl_LW_7 : Cond.classLink RLW 7 RPP ∈ lw_g := tbm0 11 rfl rfl
theorem ist_PP : Cond.instantiable RPP 5 ∈ lw_g := tbm0 12 rfl rfl
theorem cl_PP_7 : Cond.classLink RPP 7 RST ∈ lw_g := tbm0 19 rfl rfl
theorem ist_ST : Cond.instantiable RST 3 ∈ lw_g := tbm0 20 rfl rfl
theorem cl_ST_9 : Cond.classLink RST 9 RIL ∈ lw_g := tbm0 25 rfl rfl
theorem ist_IL : Cond.instantiable RIL 2 ∈ lw_g := tbm0 26 rfl rfl
theorem fl_IL_11 : Cond.fieldLink RIL 11 "ProofPacker$IntList" "items" "[I" ∈ lw_g := tbm0 31 rfl rfl
theorem fl_IL_15 : Cond.fieldLink RIL 15 "ProofPacker$IntList" "used" "I" ∈ lw_g := tbm0 32 rfl rfl
theorem arr_int : Cond.arrayClass .int ∈ lw_g := tbm0 38 rfl rfl
theorem fl_ST_12 : Cond.fieldLink RST 12 "ProofPacker$Statements" "takings" "LProofPacker$IntList;" ∈ lw_g := tbm0 39 rfl rfl
theorem fl_ST_18 : Cond.fieldLink RST 18 "ProofPacker$Statements" "places" "LProofPacker$IntList;" ∈ lw_g := tbm0 40 rfl rfl
theorem fl_ST_21 : Cond.fieldLink RST 21 "ProofPacker$Statements" "mandatories" "I" ∈ lw_g := tbm0 41 rfl rfl
theorem cl_PP_16 : Cond.classLink RPP 16 RRW ∈ lw_g := tbm0 49 rfl rfl
theorem ist_RW : Cond.instantiable RRW 9 ∈ lw_g := tbm0 50 rfl rfl
theorem cl_RW_9 : Cond.classLink RRW 9 RIL ∈ lw_g := tbm0 55 rfl rfl
theorem cl_AR_317 : Cond.classLink RAR 317 "[I" ∈ lw_g := tbm0 70 rfl rfl
theorem fl_RW_12 : Cond.fieldLink RRW 12 "ProofPacker$Rows" "statements" "LProofPacker$IntList;" ∈ lw_g := tbm0 80 rfl rfl
theorem fl_RW_18 : Cond.fieldLink RRW 18 "ProofPacker$Rows" "starts" "LProofPacker$IntList;" ∈ lw_g := tbm0 81 rfl rfl
theorem fl_RW_25 : Cond.fieldLink RRW 25 "ProofPacker$Rows" "parts" "LProofPacker$IntList;" ∈ lw_g := tbm0 82 rfl rfl
theorem fl_RW_28 : Cond.fieldLink RRW 28 "ProofPacker$Rows" "partKinds" "LProofPacker$IntList;" ∈ lw_g := tbm0 83 rfl rfl
theorem fl_RW_31 : Cond.fieldLink RRW 31 "ProofPacker$Rows" "kinds" "LProofPacker$IntList;" ∈ lw_g := tbm0 84 rfl rfl
theorem fl_RW_34 : Cond.fieldLink RRW 34 "ProofPacker$Rows" "firstOfKind" "LProofPacker$IntList;" ∈ lw_g := tbm0 85 rfl rfl
theorem fl_RW_37 : Cond.fieldLink RRW 37 "ProofPacker$Rows" "olderKind" "LProofPacker$IntList;" ∈ lw_g := tbm0 86 rfl rfl
theorem fl_RW_40 : Cond.fieldLink RRW 40 "ProofPacker$Rows" "newestKind" "[I" ∈ lw_g := tbm0 87 rfl rfl
theorem fl_RW_50 : Cond.fieldLink RRW 50 "ProofPacker$Rows" "steps" "[J" ∈ lw_g := tbm0 88 rfl rfl
theorem arr_long : Cond.arrayClass .long ∈ lw_g := tbm0 108 rfl rfl
theorem cl_PP_23 : Cond.classLink RPP 23 RTL ∈ lw_g := tbm0 109 rfl rfl
theorem ist_TL : Cond.instantiable RTL 14 ∈ lw_g := tbm0 110 rfl rfl
theorem cl_TL_19 : Cond.classLink RTL 19 RIL ∈ lw_g := tbm0 115 rfl rfl
theorem cl_TL_32 : Cond.classLink RTL 32 RLL ∈ lw_g := tbm0 117 rfl rfl
theorem ist_LL : Cond.instantiable RLL 1 ∈ lw_g := tbm0 118 rfl rfl
theorem cl_LL_7 : Cond.classLink RLL 7 RIL ∈ lw_g := tbm0 123 rfl rfl
theorem fl_LL_10 : Cond.fieldLink RLL 10 "ProofPacker$LetterList" "letters" "LProofPacker$IntList;" ∈ lw_g := tbm0 125 rfl rfl
theorem fl_TL_9 : Cond.fieldLink RTL 9 "ProofPacker$Telling" "statements" "LProofPacker$Statements;" ∈ lw_g := tbm0 129 rfl rfl
theorem fl_TL_15 : Cond.fieldLink RTL 15 "ProofPacker$Telling" "rows" "LProofPacker$Rows;" ∈ lw_g := tbm0 130 rfl rfl
theorem fl_TL_22 : Cond.fieldLink RTL 22 "ProofPacker$Telling" "steps" "LProofPacker$IntList;" ∈ lw_g := tbm0 131 rfl rfl
theorem fl_TL_26 : Cond.fieldLink RTL 26 "ProofPacker$Telling" "savedAs" "LProofPacker$IntList;" ∈ lw_g := tbm0 132 rfl rfl
theorem fl_TL_29 : Cond.fieldLink RTL 29 "ProofPacker$Telling" "labels" "LProofPacker$IntList;" ∈ lw_g := tbm0 133 rfl rfl
theorem fl_TL_35 : Cond.fieldLink RTL 35 "ProofPacker$Telling" "letters" "LProofPacker$LetterList;" ∈ lw_g := tbm0 134 rfl rfl
theorem fl_TL_39 : Cond.fieldLink RTL 39 "ProofPacker$Telling" "rowTold" "I" ∈ lw_g := tbm0 135 rfl rfl
theorem fl_TL_43 : Cond.fieldLink RTL 43 "ProofPacker$Telling" "savedRows" "I" ∈ lw_g := tbm0 136 rfl rfl
theorem fl_TL_46 : Cond.fieldLink RTL 46 "ProofPacker$Telling" "openRows" "LProofPacker$IntList;" ∈ lw_g := tbm0 137 rfl rfl
theorem fl_TL_49 : Cond.fieldLink RTL 49 "ProofPacker$Telling" "openParts" "LProofPacker$IntList;" ∈ lw_g := tbm0 138 rfl rfl
theorem fl_TL_52 : Cond.fieldLink RTL 52 "ProofPacker$Telling" "toldAt" "LProofPacker$IntList;" ∈ lw_g := tbm0 139 rfl rfl
theorem fl_TL_55 : Cond.fieldLink RTL 55 "ProofPacker$Telling" "numbers" "LProofPacker$IntList;" ∈ lw_g := tbm0 140 rfl rfl
theorem fl_TL_58 : Cond.fieldLink RTL 58 "ProofPacker$Telling" "remade" "LProofPacker$IntList;" ∈ lw_g := tbm0 141 rfl rfl
theorem fl_TL_61 : Cond.fieldLink RTL 61 "ProofPacker$Telling" "savedKinds" "LProofPacker$IntList;" ∈ lw_g := tbm0 142 rfl rfl
theorem cl_PP_32 : Cond.classLink RPP 32 RIL ∈ lw_g := tbm0 172 rfl rfl
theorem fl_PP_10 : Cond.fieldLink RPP 10 "ProofPacker" "statements" "LProofPacker$Statements;" ∈ lw_g := tbm0 174 rfl rfl
theorem fl_PP_19 : Cond.fieldLink RPP 19 "ProofPacker" "rows" "LProofPacker$Rows;" ∈ lw_g := tbm0 175 rfl rfl
theorem fl_PP_28 : Cond.fieldLink RPP 28 "ProofPacker" "telling" "LProofPacker$Telling;" ∈ lw_g := tbm0 176 rfl rfl
theorem fl_PP_35 : Cond.fieldLink RPP 35 "ProofPacker" "pile" "LProofPacker$IntList;" ∈ lw_g := tbm0 177 rfl rfl
theorem fl_PP_39 : Cond.fieldLink RPP 39 "ProofPacker" "puts" "I" ∈ lw_g := tbm0 178 rfl rfl
theorem cl2_RW_113 : Cond.constantLong RRW 113 1000000000000000001 ∈ lw_g := tbm1 67 rfl rfl
theorem cl_AR_320 : Cond.classLink RAR 320 "[J" ∈ lw_g := tbm1 82 rfl rfl
theorem cn_TL_110 : Cond.constant RTL 110 1000000 ∈ lw_g := tbm1 161 rfl rfl
theorem cl2_PP_132 : Cond.constantLong RPP 132 (-1) ∈ lw_g := tbm2 42 rfl rfl
theorem cl2_PP_138 : Cond.constantLong RPP 138 1000000000000000000 ∈ lw_g := tbm2 44 rfl rfl
theorem cl2_PP_140 : Cond.constantLong RPP 140 (-2) ∈ lw_g := tbm2 45 rfl rfl
theorem cl2_PP_142 : Cond.constantLong RPP 142 4000 ∈ lw_g := tbm2 50 rfl rfl
theorem cl_LW_10 : Cond.classLink RLW 10 RMD ∈ lw_g := tbm2 73 rfl rfl
theorem ist_MD : Cond.instantiable RMD 28 ∈ lw_g := tbm2 74 rfl rfl
theorem cn_MD_54 : Cond.constant RMD 54 120000 ∈ lw_g := tbm2 79 rfl rfl
theorem fl_MD_67 : Cond.fieldLink RMD 67 "ProofPackerModel" "statements" "I" ∈ lw_g := tbm2 80 rfl rfl
theorem fl_MD_7 : Cond.fieldLink RMD 7 "ProofPackerModel" "takes" "[I" ∈ lw_g := tbm2 81 rfl rfl
theorem fl_MD_13 : Cond.fieldLink RMD 13 "ProofPackerModel" "mandatories" "[I" ∈ lw_g := tbm2 82 rfl rfl
theorem fl_MD_71 : Cond.fieldLink RMD 71 "ProofPackerModel" "mandatoryCount" "I" ∈ lw_g := tbm2 83 rfl rfl
theorem fl_MD_93 : Cond.fieldLink RMD 93 "ProofPackerModel" "rows" "I" ∈ lw_g := tbm2 84 rfl rfl
theorem fl_MD_16 : Cond.fieldLink RMD 16 "ProofPackerModel" "makers" "[I" ∈ lw_g := tbm2 85 rfl rfl
theorem fl_MD_19 : Cond.fieldLink RMD 19 "ProofPackerModel" "fromAt" "[I" ∈ lw_g := tbm2 86 rfl rfl
theorem fl_MD_22 : Cond.fieldLink RMD 22 "ProofPackerModel" "firstSame" "[I" ∈ lw_g := tbm2 87 rfl rfl
theorem fl_MD_25 : Cond.fieldLink RMD 25 "ProofPackerModel" "sizes" "[J" ∈ lw_g := tbm2 88 rfl rfl
theorem fl_MD_29 : Cond.fieldLink RMD 29 "ProofPackerModel" "froms" "[I" ∈ lw_g := tbm2 89 rfl rfl
theorem fl_MD_99 : Cond.fieldLink RMD 99 "ProofPackerModel" "fromCount" "I" ∈ lw_g := tbm2 90 rfl rfl
theorem fl_MD_32 : Cond.fieldLink RMD 32 "ProofPackerModel" "pile" "[I" ∈ lw_g := tbm2 91 rfl rfl
theorem fl_MD_90 : Cond.fieldLink RMD 90 "ProofPackerModel" "piled" "I" ∈ lw_g := tbm2 92 rfl rfl
theorem fl_MD_96 : Cond.fieldLink RMD 96 "ProofPackerModel" "puts" "I" ∈ lw_g := tbm2 93 rfl rfl
theorem fl_MD_112 : Cond.fieldLink RMD 112 "ProofPackerModel" "steps" "I" ∈ lw_g := tbm2 94 rfl rfl
theorem fl_MD_35 : Cond.fieldLink RMD 35 "ProofPackerModel" "toldStep" "[I" ∈ lw_g := tbm2 95 rfl rfl
theorem fl_MD_38 : Cond.fieldLink RMD 38 "ProofPackerModel" "stepRow" "[I" ∈ lw_g := tbm2 96 rfl rfl
theorem fl_MD_41 : Cond.fieldLink RMD 41 "ProofPackerModel" "isSaved" "[Z" ∈ lw_g := tbm2 97 rfl rfl
theorem fl_MD_45 : Cond.fieldLink RMD 45 "ProofPackerModel" "isTold" "[Z" ∈ lw_g := tbm2 98 rfl rfl
theorem fl_MD_48 : Cond.fieldLink RMD 48 "ProofPackerModel" "savedNumber" "[I" ∈ lw_g := tbm2 99 rfl rfl
theorem fl_MD_121 : Cond.fieldLink RMD 121 "ProofPackerModel" "savedCount" "I" ∈ lw_g := tbm2 100 rfl rfl
theorem fl_MD_51 : Cond.fieldLink RMD 51 "ProofPackerModel" "labels" "[I" ∈ lw_g := tbm2 101 rfl rfl
theorem fl_MD_115 : Cond.fieldLink RMD 115 "ProofPackerModel" "labelCount" "I" ∈ lw_g := tbm2 102 rfl rfl
theorem fl_MD_55 : Cond.fieldLink RMD 55 "ProofPackerModel" "letters" "[I" ∈ lw_g := tbm2 103 rfl rfl
theorem fl_MD_118 : Cond.fieldLink RMD 118 "ProofPackerModel" "letterCount" "I" ∈ lw_g := tbm2 104 rfl rfl
theorem fl_MD_58 : Cond.fieldLink RMD 58 "ProofPackerModel" "saving" "[Z" ∈ lw_g := tbm2 105 rfl rfl
theorem fl_MD_61 : Cond.fieldLink RMD 61 "ProofPackerModel" "walk" "[I" ∈ lw_g := tbm2 106 rfl rfl
theorem fl_MD_64 : Cond.fieldLink RMD 64 "ProofPackerModel" "walkAt" "[I" ∈ lw_g := tbm2 107 rfl rfl
theorem arr_boolean : Cond.arrayClass .boolean ∈ lw_g := tbm2 165 rfl rfl
theorem cl2_MD_86 : Cond.constantLong RMD 86 1000000000000000000 ∈ lw_g := tbm2 198 rfl rfl
theorem cl2_MD_88 : Cond.constantLong RMD 88 1000000000000000001 ∈ lw_g := tbm2 199 rfl rfl
theorem cl2_MD_150 : Cond.constantLong RMD 150 (-1) ∈ lw_g := tbm3 48 rfl rfl
theorem cl2_MD_152 : Cond.constantLong RMD 152 (-2) ∈ lw_g := tbm3 49 rfl rfl
theorem cl2_MD_154 : Cond.constantLong RMD 154 4000 ∈ lw_g := tbm3 54 rfl rfl
end
section
abbrev b_PP_init : ByteArray := prog_1_method_1_code
def y_PP_init : MethodName := ⟨RPP, "<init>", "()V"⟩
abbrev w_PP_init : List Cond := .code y_PP_init b_PP_init 1 none :: lw_g
theorem k_PP_init : Cond.code y_PP_init b_PP_init 1 none ∈ lw_g := tbm0 15 rfl rfl
abbrev b_ST_init : ByteArray := prog_5_method_1_code
def y_ST_init : MethodName := ⟨RST, "<init>", "()V"⟩
abbrev w_ST_init : List Cond := .code y_ST_init b_ST_init 1 none :: lw_g
theorem k_ST_init : Cond.code y_ST_init b_ST_init 1 none ∈ lw_g := tbm0 23 rfl rfl
abbrev b_IL_init : ByteArray := prog_2_method_1_code
def y_IL_init : MethodName := ⟨RIL, "<init>", "()V"⟩
abbrev w_IL_init : List Cond := .code y_IL_init b_IL_init 1 none :: lw_g
theorem k_IL_init : Cond.code y_IL_init b_IL_init 1 none ∈ lw_g := tbm0 29 rfl rfl
abbrev b_RW_init : ByteArray := prog_4_method_1_code
def y_RW_init : MethodName := ⟨RRW, "<init>", "()V"⟩
abbrev w_RW_init : List Cond := .code y_RW_init b_RW_init 1 none :: lw_g
theorem k_RW_init : Cond.code y_RW_init b_RW_init 1 none ∈ lw_g := tbm0 53 rfl rfl
abbrev b_IL_add : ByteArray := prog_2_method_4_code
def y_IL_add : MethodName := ⟨RIL, "add", "(I)V"⟩
abbrev w_IL_add : List Cond := .code y_IL_add b_IL_add 2 none :: lw_g
theorem k_IL_add : Cond.code y_IL_add b_IL_add 2 none ∈ lw_g := tbm0 60 rfl rfl
abbrev b_AR_copyI : ByteArray := prog_12_method_123_code
def y_AR_copyI : MethodName := ⟨RAR, "copyOf", "([II)[I"⟩
abbrev w_AR_copyI : List Cond := .code y_AR_copyI b_AR_copyI 3 (some (.array .int)) :: lw_g
theorem k_AR_copyI : Cond.code y_AR_copyI b_AR_copyI 3 (some (.array .int)) ∈ lw_g := tbm0 63 rfl rfl
abbrev b_AR_fill : ByteArray := prog_12_method_103_code
def y_AR_fill : MethodName := ⟨RAR, "fill", "([II)V"⟩
abbrev w_AR_fill : List Cond := .code y_AR_fill b_AR_fill 4 none :: lw_g
theorem k_AR_fill : Cond.code y_AR_fill b_AR_fill 4 none ∈ lw_g := tbm0 79 rfl rfl
abbrev b_TL_init : ByteArray := prog_6_method_1_code
def y_TL_init : MethodName := ⟨RTL, "<init>", "(LProofPacker$Statements;LProofPacker$Rows;)V"⟩
abbrev w_TL_init : List Cond := .code y_TL_init b_TL_init 3 none :: lw_g
theorem k_TL_init : Cond.code y_TL_init b_TL_init 3 none ∈ lw_g := tbm0 113 rfl rfl
abbrev b_LL_init : ByteArray := prog_3_method_1_code
def y_LL_init : MethodName := ⟨RLL, "<init>", "()V"⟩
abbrev w_LL_init : List Cond := .code y_LL_init b_LL_init 1 none :: lw_g
theorem k_LL_init : Cond.code y_LL_init b_LL_init 1 none ∈ lw_g := tbm0 121 rfl rfl
abbrev b_PP_statement : ByteArray := prog_1_method_2_code
def y_PP_statement : MethodName := ⟨RPP, "statement", "(I)I"⟩
abbrev w_PP_statement : List Cond := .code y_PP_statement b_PP_statement 2 (some .int) :: lw_g
theorem k_PP_statement : Cond.code y_PP_statement b_PP_statement 2 (some .int) ∈ lw_g := tbm0 193 rfl rfl
abbrev b_ST_amount : ByteArray := prog_5_method_2_code
def y_ST_amount : MethodName := ⟨RST, "amount", "()I"⟩
abbrev w_ST_amount : List Cond := .code y_ST_amount b_ST_amount 1 (some .int) :: lw_g
theorem k_ST_amount : Cond.code y_ST_amount b_ST_amount 1 (some .int) ∈ lw_g := tbm0 197 rfl rfl
abbrev b_IL_length : ByteArray := prog_2_method_2_code
def y_IL_length : MethodName := ⟨RIL, "length", "()I"⟩
abbrev w_IL_length : List Cond := .code y_IL_length b_IL_length 1 (some .int) :: lw_g
theorem k_IL_length : Cond.code y_IL_length b_IL_length 1 (some .int) ∈ lw_g := tbm0 201 rfl rfl
abbrev b_ST_add : ByteArray := prog_5_method_8_code
def y_ST_add : MethodName := ⟨RST, "add", "(I)I"⟩
abbrev w_ST_add : List Cond := .code y_ST_add b_ST_add 2 (some .int) :: lw_g
theorem k_ST_add : Cond.code y_ST_add b_ST_add 2 (some .int) ∈ lw_g := tbm0 205 rfl rfl
abbrev b_PP_mandatory : ByteArray := prog_1_method_3_code
def y_PP_mandatory : MethodName := ⟨RPP, "mandatory", "(I)I"⟩
abbrev w_PP_mandatory : List Cond := .code y_PP_mandatory b_PP_mandatory 2 (some .int) :: lw_g
theorem k_PP_mandatory : Cond.code y_PP_mandatory b_PP_mandatory 2 (some .int) ∈ lw_g := tbm0 210 rfl rfl
abbrev b_ST_has : ByteArray := prog_5_method_4_code
def y_ST_has : MethodName := ⟨RST, "has", "(I)Z"⟩
abbrev w_ST_has : List Cond := .code y_ST_has b_ST_has 2 (some .boolean) :: lw_g
theorem k_ST_has : Cond.code y_ST_has b_ST_has 2 (some .boolean) ∈ lw_g := tbm0 214 rfl rfl
abbrev b_ST_taking : ByteArray := prog_5_method_5_code
def y_ST_taking : MethodName := ⟨RST, "taking", "(I)I"⟩
abbrev w_ST_taking : List Cond := .code y_ST_taking b_ST_taking 2 (some .int) :: lw_g
theorem k_ST_taking : Cond.code y_ST_taking b_ST_taking 2 (some .int) ∈ lw_g := tbm0 218 rfl rfl
abbrev b_IL_at : ByteArray := prog_2_method_3_code
def y_IL_at : MethodName := ⟨RIL, "at", "(I)I"⟩
abbrev w_IL_at : List Cond := .code y_IL_at b_IL_at 2 (some .int) :: lw_g
theorem k_IL_at : Cond.code y_IL_at b_IL_at 2 (some .int) ∈ lw_g := tbm0 222 rfl rfl
abbrev b_ST_isMandatory : ByteArray := prog_5_method_6_code
def y_ST_isMandatory : MethodName := ⟨RST, "isMandatory", "(I)Z"⟩
abbrev w_ST_isMandatory : List Cond := .code y_ST_isMandatory b_ST_isMandatory 2 (some .boolean) :: lw_g
theorem k_ST_isMandatory : Cond.code y_ST_isMandatory b_ST_isMandatory 2 (some .boolean) ∈ lw_g := tbm0 226 rfl rfl
abbrev b_ST_mandatories : ByteArray := prog_5_method_3_code
def y_ST_mandatories : MethodName := ⟨RST, "mandatories", "()I"⟩
abbrev w_ST_mandatories : List Cond := .code y_ST_mandatories b_ST_mandatories 1 (some .int) :: lw_g
theorem k_ST_mandatories : Cond.code y_ST_mandatories b_ST_mandatories 1 (some .int) ∈ lw_g := tbm0 230 rfl rfl
abbrev b_ST_addMandatory : ByteArray := prog_5_method_9_code
def y_ST_addMandatory : MethodName := ⟨RST, "addMandatory", "(I)I"⟩
abbrev w_ST_addMandatory : List Cond := .code y_ST_addMandatory b_ST_addMandatory 2 (some .int) :: lw_g
theorem k_ST_addMandatory : Cond.code y_ST_addMandatory b_ST_addMandatory 2 (some .int) ∈ lw_g := tbm0 234 rfl rfl
abbrev b_IL_put : ByteArray := prog_2_method_5_code
def y_IL_put : MethodName := ⟨RIL, "put", "(II)V"⟩
abbrev w_IL_put : List Cond := .code y_IL_put b_IL_put 3 none :: lw_g
theorem k_IL_put : Cond.code y_IL_put b_IL_put 3 none ∈ lw_g := tbm0 238 rfl rfl
abbrev b_PP_make : ByteArray := prog_1_method_4_code
def y_PP_make : MethodName := ⟨RPP, "make", "(I)I"⟩
abbrev w_PP_make : List Cond := .code y_PP_make b_PP_make 4 (some .int) :: lw_g
theorem k_PP_make : Cond.code y_PP_make b_PP_make 4 (some .int) ∈ lw_g := tbm1 2 rfl rfl
abbrev b_RW_amount : ByteArray := prog_4_method_3_code
def y_RW_amount : MethodName := ⟨RRW, "amount", "()I"⟩
abbrev w_RW_amount : List Cond := .code y_RW_amount b_RW_amount 1 (some .int) :: lw_g
theorem k_RW_amount : Cond.code y_RW_amount b_RW_amount 1 (some .int) ∈ lw_g := tbm1 7 rfl rfl
abbrev b_PP_mayPutOn : ByteArray := prog_1_method_20_code
def y_PP_mayPutOn : MethodName := ⟨RPP, "mayPutOn", "(I)Z"⟩
abbrev w_PP_mayPutOn : List Cond := .code y_PP_mayPutOn b_PP_mayPutOn 2 (some .boolean) :: lw_g
theorem k_PP_mayPutOn : Cond.code y_PP_mayPutOn b_PP_mayPutOn 2 (some .boolean) ∈ lw_g := tbm1 12 rfl rfl
abbrev b_RW_add : ByteArray := prog_4_method_11_code
def y_RW_add : MethodName := ⟨RRW, "add", "(ILProofPacker$IntList;I)I"⟩
abbrev w_RW_add : List Cond := .code y_RW_add b_RW_add 7 (some .int) :: lw_g
theorem k_RW_add : Cond.code y_RW_add b_RW_add 7 (some .int) ∈ lw_g := tbm1 16 rfl rfl
abbrev b_RW_kindOf : ByteArray := prog_4_method_7_code
def y_RW_kindOf : MethodName := ⟨RRW, "kindOf", "(I)I"⟩
abbrev w_RW_kindOf : List Cond := .code y_RW_kindOf b_RW_kindOf 2 (some .int) :: lw_g
theorem k_RW_kindOf : Cond.code y_RW_kindOf b_RW_kindOf 2 (some .int) ∈ lw_g := tbm1 22 rfl rfl
abbrev b_RW_kindOfNewRow : ByteArray := prog_4_method_12_code
def y_RW_kindOfNewRow : MethodName := ⟨RRW, "kindOfNewRow", "(II)I"⟩
abbrev w_RW_kindOfNewRow : List Cond := .code y_RW_kindOfNewRow b_RW_kindOfNewRow 6 (some .int) :: lw_g
theorem k_RW_kindOfNewRow : Cond.code y_RW_kindOfNewRow b_RW_kindOfNewRow 6 (some .int) ∈ lw_g := tbm1 26 rfl rfl
abbrev b_RW_statementOf : ByteArray := prog_4_method_6_code
def y_RW_statementOf : MethodName := ⟨RRW, "statementOf", "(I)I"⟩
abbrev w_RW_statementOf : List Cond := .code y_RW_statementOf b_RW_statementOf 2 (some .int) :: lw_g
theorem k_RW_statementOf : Cond.code y_RW_statementOf b_RW_statementOf 2 (some .int) ∈ lw_g := tbm1 30 rfl rfl
abbrev b_RW_kindMadeOf : ByteArray := prog_4_method_13_code
def y_RW_kindMadeOf : MethodName := ⟨RRW, "kindMadeOf", "(ILProofPacker$IntList;I)I"⟩
abbrev w_RW_kindMadeOf : List Cond := .code y_RW_kindMadeOf b_RW_kindMadeOf 6 (some .int) :: lw_g
theorem k_RW_kindMadeOf : Cond.code y_RW_kindMadeOf b_RW_kindMadeOf 6 (some .int) ∈ lw_g := tbm1 34 rfl rfl
abbrev b_RW_bucketOf : ByteArray := prog_4_method_15_code
def y_RW_bucketOf : MethodName := ⟨RRW, "bucketOf", "(ILProofPacker$IntList;I)I"⟩
abbrev w_RW_bucketOf : List Cond := .code y_RW_bucketOf b_RW_bucketOf 6 (some .int) :: lw_g
theorem k_RW_bucketOf : Cond.code y_RW_bucketOf b_RW_bucketOf 6 (some .int) ∈ lw_g := tbm1 38 rfl rfl
abbrev b_RW_amountOfKinds : ByteArray := prog_4_method_4_code
def y_RW_amountOfKinds : MethodName := ⟨RRW, "amountOfKinds", "()I"⟩
abbrev w_RW_amountOfKinds : List Cond := .code y_RW_amountOfKinds b_RW_amountOfKinds 1 (some .int) :: lw_g
theorem k_RW_amountOfKinds : Cond.code y_RW_amountOfKinds b_RW_amountOfKinds 1 (some .int) ∈ lw_g := tbm1 42 rfl rfl
abbrev b_RW_isMadeOf : ByteArray := prog_4_method_14_code
def y_RW_isMadeOf : MethodName := ⟨RRW, "isMadeOf", "(IILProofPacker$IntList;I)Z"⟩
abbrev w_RW_isMadeOf : List Cond := .code y_RW_isMadeOf b_RW_isMadeOf 7 (some .boolean) :: lw_g
theorem k_RW_isMadeOf : Cond.code y_RW_isMadeOf b_RW_isMadeOf 7 (some .boolean) ∈ lw_g := tbm1 46 rfl rfl
abbrev b_RW_countSteps : ByteArray := prog_4_method_16_code
def y_RW_countSteps : MethodName := ⟨RRW, "countSteps", "(I)J"⟩
abbrev w_RW_countSteps : List Cond := .code y_RW_countSteps b_RW_countSteps 5 (some .long) :: lw_g
theorem k_RW_countSteps : Cond.code y_RW_countSteps b_RW_countSteps 5 (some .long) ∈ lw_g := tbm1 50 rfl rfl
abbrev b_RW_amountOfParts : ByteArray := prog_4_method_8_code
def y_RW_amountOfParts : MethodName := ⟨RRW, "amountOfParts", "(I)I"⟩
abbrev w_RW_amountOfParts : List Cond := .code y_RW_amountOfParts b_RW_amountOfParts 2 (some .int) :: lw_g
theorem k_RW_amountOfParts : Cond.code y_RW_amountOfParts b_RW_amountOfParts 2 (some .int) ∈ lw_g := tbm1 54 rfl rfl
abbrev b_RW_has : ByteArray := prog_4_method_5_code
def y_RW_has : MethodName := ⟨RRW, "has", "(I)Z"⟩
abbrev w_RW_has : List Cond := .code y_RW_has b_RW_has 2 (some .boolean) :: lw_g
theorem k_RW_has : Cond.code y_RW_has b_RW_has 2 (some .boolean) ∈ lw_g := tbm1 58 rfl rfl
abbrev b_RW_part : ByteArray := prog_4_method_9_code
def y_RW_part : MethodName := ⟨RRW, "part", "(II)I"⟩
abbrev w_RW_part : List Cond := .code y_RW_part b_RW_part 3 (some .int) :: lw_g
theorem k_RW_part : Cond.code y_RW_part b_RW_part 3 (some .int) ∈ lw_g := tbm1 62 rfl rfl
abbrev b_RW_stepsInFull : ByteArray := prog_4_method_10_code
def y_RW_stepsInFull : MethodName := ⟨RRW, "stepsInFull", "(I)J"⟩
abbrev w_RW_stepsInFull : List Cond := .code y_RW_stepsInFull b_RW_stepsInFull 2 (some .long) :: lw_g
theorem k_RW_stepsInFull : Cond.code y_RW_stepsInFull b_RW_stepsInFull 2 (some .long) ∈ lw_g := tbm1 66 rfl rfl
abbrev b_RW_keepSteps : ByteArray := prog_4_method_17_code
def y_RW_keepSteps : MethodName := ⟨RRW, "keepSteps", "(IJ)V"⟩
abbrev w_RW_keepSteps : List Cond := .code y_RW_keepSteps b_RW_keepSteps 4 none :: lw_g
theorem k_RW_keepSteps : Cond.code y_RW_keepSteps b_RW_keepSteps 4 none ∈ lw_g := tbm1 74 rfl rfl
abbrev b_AR_copyJ : ByteArray := prog_12_method_124_code
def y_AR_copyJ : MethodName := ⟨RAR, "copyOf", "([JI)[J"⟩
abbrev w_AR_copyJ : List Cond := .code y_AR_copyJ b_AR_copyJ 3 (some (.array .long)) :: lw_g
theorem k_AR_copyJ : Cond.code y_AR_copyJ b_AR_copyJ 3 (some (.array .long)) ∈ lw_g := tbm1 77 rfl rfl
abbrev b_IL_cut : ByteArray := prog_2_method_6_code
def y_IL_cut : MethodName := ⟨RIL, "cut", "(I)V"⟩
abbrev w_IL_cut : List Cond := .code y_IL_cut b_IL_cut 2 none :: lw_g
theorem k_IL_cut : Cond.code y_IL_cut b_IL_cut 2 none ∈ lw_g := tbm1 86 rfl rfl
abbrev b_PP_putOn : ByteArray := prog_1_method_21_code
def y_PP_putOn : MethodName := ⟨RPP, "putOn", "(I)V"⟩
abbrev w_PP_putOn : List Cond := .code y_PP_putOn b_PP_putOn 2 none :: lw_g
theorem k_PP_putOn : Cond.code y_PP_putOn b_PP_putOn 2 none ∈ lw_g := tbm1 90 rfl rfl
abbrev b_PP_again : ByteArray := prog_1_method_5_code
def y_PP_again : MethodName := ⟨RPP, "again", "(I)I"⟩
abbrev w_PP_again : List Cond := .code y_PP_again b_PP_again 2 (some .int) :: lw_g
theorem k_PP_again : Cond.code y_PP_again b_PP_again 2 (some .int) ∈ lw_g := tbm1 95 rfl rfl
abbrev b_PP_clear : ByteArray := prog_1_method_6_code
def y_PP_clear : MethodName := ⟨RPP, "clear", "()I"⟩
abbrev w_PP_clear : List Cond := .code y_PP_clear b_PP_clear 2 (some .int) :: lw_g
theorem k_PP_clear : Cond.code y_PP_clear b_PP_clear 2 (some .int) ∈ lw_g := tbm1 100 rfl rfl
abbrev b_RW_forget : ByteArray := prog_4_method_2_code
def y_RW_forget : MethodName := ⟨RRW, "forget", "()V"⟩
abbrev w_RW_forget : List Cond := .code y_RW_forget b_RW_forget 1 none :: lw_g
theorem k_RW_forget : Cond.code y_RW_forget b_RW_forget 1 none ∈ lw_g := tbm1 104 rfl rfl
abbrev b_TL_forget : ByteArray := prog_6_method_2_code
def y_TL_forget : MethodName := ⟨RTL, "forget", "()V"⟩
abbrev w_TL_forget : List Cond := .code y_TL_forget b_TL_forget 1 none :: lw_g
theorem k_TL_forget : Cond.code y_TL_forget b_TL_forget 1 none ∈ lw_g := tbm1 109 rfl rfl
abbrev b_LL_forget : ByteArray := prog_3_method_2_code
def y_LL_forget : MethodName := ⟨RLL, "forget", "()V"⟩
abbrev w_LL_forget : List Cond := .code y_LL_forget b_LL_forget 1 none :: lw_g
theorem k_LL_forget : Cond.code y_LL_forget b_LL_forget 1 none ∈ lw_g := tbm1 114 rfl rfl
abbrev b_PP_count : ByteArray := prog_1_method_7_code
def y_PP_count : MethodName := ⟨RPP, "count", "(I)I"⟩
abbrev w_PP_count : List Cond := .code y_PP_count b_PP_count 2 (some .int) :: lw_g
theorem k_PP_count : Cond.code y_PP_count b_PP_count 2 (some .int) ∈ lw_g := tbm1 119 rfl rfl
abbrev b_PP_row : ByteArray := prog_1_method_8_code
def y_PP_row : MethodName := ⟨RPP, "row", "(I)I"⟩
abbrev w_PP_row : List Cond := .code y_PP_row b_PP_row 2 (some .int) :: lw_g
theorem k_PP_row : Cond.code y_PP_row b_PP_row 2 (some .int) ∈ lw_g := tbm1 124 rfl rfl
abbrev b_PP_frm : ByteArray := prog_1_method_9_code
def y_PP_frm : MethodName := ⟨RPP, "from", "(II)I"⟩
abbrev w_PP_frm : List Cond := .code y_PP_frm b_PP_frm 3 (some .int) :: lw_g
theorem k_PP_frm : Cond.code y_PP_frm b_PP_frm 3 (some .int) ∈ lw_g := tbm1 129 rfl rfl
abbrev b_PP_same : ByteArray := prog_1_method_10_code
def y_PP_same : MethodName := ⟨RPP, "same", "(II)I"⟩
abbrev w_PP_same : List Cond := .code y_PP_same b_PP_same 3 (some .int) :: lw_g
theorem k_PP_same : Cond.code y_PP_same b_PP_same 3 (some .int) ∈ lw_g := tbm1 134 rfl rfl
abbrev b_PP_pack : ByteArray := prog_1_method_11_code
def y_PP_pack : MethodName := ⟨RPP, "pack", "()I"⟩
abbrev w_PP_pack : List Cond := .code y_PP_pack b_PP_pack 1 (some .int) :: lw_g
theorem k_PP_pack : Cond.code y_PP_pack b_PP_pack 1 (some .int) ∈ lw_g := tbm1 139 rfl rfl
abbrev b_TL_tell : ByteArray := prog_6_method_11_code
def y_TL_tell : MethodName := ⟨RTL, "tell", "(I)V"⟩
abbrev w_TL_tell : List Cond := .code y_TL_tell b_TL_tell 2 none :: lw_g
theorem k_TL_tell : Cond.code y_TL_tell b_TL_tell 2 none ∈ lw_g := tbm1 144 rfl rfl
abbrev b_TL_tellSteps : ByteArray := prog_6_method_12_code
def y_TL_tellSteps : MethodName := ⟨RTL, "tellSteps", "()V"⟩
abbrev w_TL_tellSteps : List Cond := .code y_TL_tellSteps b_TL_tellSteps 5 none :: lw_g
theorem k_TL_tellSteps : Cond.code y_TL_tellSteps b_TL_tellSteps 5 none ∈ lw_g := tbm1 149 rfl rfl
abbrev b_IL_fill : ByteArray := prog_2_method_7_code
def y_IL_fill : MethodName := ⟨RIL, "fill", "(II)V"⟩
abbrev w_IL_fill : List Cond := .code y_IL_fill b_IL_fill 4 none :: lw_g
theorem k_IL_fill : Cond.code y_IL_fill b_IL_fill 4 none ∈ lw_g := tbm1 154 rfl rfl
abbrev b_TL_opn : ByteArray := prog_6_method_13_code
def y_TL_opn : MethodName := ⟨RTL, "open", "(I)V"⟩
abbrev w_TL_opn : List Cond := .code y_TL_opn b_TL_opn 2 none :: lw_g
theorem k_TL_opn : Cond.code y_TL_opn b_TL_opn 2 none ∈ lw_g := tbm1 159 rfl rfl
abbrev b_TL_tellPart : ByteArray := prog_6_method_14_code
def y_TL_tellPart : MethodName := ⟨RTL, "tellPart", "(I)V"⟩
abbrev w_TL_tellPart : List Cond := .code y_TL_tellPart b_TL_tellPart 3 none :: lw_g
theorem k_TL_tellPart : Cond.code y_TL_tellPart b_TL_tellPart 3 none ∈ lw_g := tbm1 170 rfl rfl
abbrev b_TL_addStep : ByteArray := prog_6_method_15_code
def y_TL_addStep : MethodName := ⟨RTL, "addStep", "(I)V"⟩
abbrev w_TL_addStep : List Cond := .code y_TL_addStep b_TL_addStep 2 none :: lw_g
theorem k_TL_addStep : Cond.code y_TL_addStep b_TL_addStep 2 none ∈ lw_g := tbm1 175 rfl rfl
abbrev b_TL_numberSavedRows : ByteArray := prog_6_method_16_code
def y_TL_numberSavedRows : MethodName := ⟨RTL, "numberSavedRows", "()V"⟩
abbrev w_TL_numberSavedRows : List Cond := .code y_TL_numberSavedRows b_TL_numberSavedRows 3 none :: lw_g
theorem k_TL_numberSavedRows : Cond.code y_TL_numberSavedRows b_TL_numberSavedRows 3 none ∈ lw_g := tbm1 180 rfl rfl
abbrev b_TL_isSavedAt : ByteArray := prog_6_method_8_code
def y_TL_isSavedAt : MethodName := ⟨RTL, "isSavedAt", "(I)Z"⟩
abbrev w_TL_isSavedAt : List Cond := .code y_TL_isSavedAt b_TL_isSavedAt 2 (some .boolean) :: lw_g
theorem k_TL_isSavedAt : Cond.code y_TL_isSavedAt b_TL_isSavedAt 2 (some .boolean) ∈ lw_g := tbm1 184 rfl rfl
abbrev b_TL_numberStatements : ByteArray := prog_6_method_17_code
def y_TL_numberStatements : MethodName := ⟨RTL, "numberStatements", "()V"⟩
abbrev w_TL_numberStatements : List Cond := .code y_TL_numberStatements b_TL_numberStatements 3 none :: lw_g
theorem k_TL_numberStatements : Cond.code y_TL_numberStatements b_TL_numberStatements 3 none ∈ lw_g := tbm1 188 rfl rfl
abbrev b_TL_numberOfNew : ByteArray := prog_6_method_18_code
def y_TL_numberOfNew : MethodName := ⟨RTL, "numberOfNew", "(I)I"⟩
abbrev w_TL_numberOfNew : List Cond := .code y_TL_numberOfNew b_TL_numberOfNew 2 (some .int) :: lw_g
theorem k_TL_numberOfNew : Cond.code y_TL_numberOfNew b_TL_numberOfNew 2 (some .int) ∈ lw_g := tbm1 193 rfl rfl
abbrev b_ST_placeOf : ByteArray := prog_5_method_7_code
def y_ST_placeOf : MethodName := ⟨RST, "placeOf", "(I)I"⟩
abbrev w_ST_placeOf : List Cond := .code y_ST_placeOf b_ST_placeOf 2 (some .int) :: lw_g
theorem k_ST_placeOf : Cond.code y_ST_placeOf b_ST_placeOf 2 (some .int) ∈ lw_g := tbm1 198 rfl rfl
abbrev b_TL_tellLetters : ByteArray := prog_6_method_19_code
def y_TL_tellLetters : MethodName := ⟨RTL, "tellLetters", "()V"⟩
abbrev w_TL_tellLetters : List Cond := .code y_TL_tellLetters b_TL_tellLetters 4 none :: lw_g
theorem k_TL_tellLetters : Cond.code y_TL_tellLetters b_TL_tellLetters 4 none ∈ lw_g := tbm1 203 rfl rfl
abbrev b_LL_addNumber : ByteArray := prog_3_method_6_code
def y_LL_addNumber : MethodName := ⟨RLL, "addNumber", "(I)V"⟩
abbrev w_LL_addNumber : List Cond := .code y_LL_addNumber b_LL_addNumber 5 none :: lw_g
theorem k_LL_addNumber : Cond.code y_LL_addNumber b_LL_addNumber 5 none ∈ lw_g := tbm1 207 rfl rfl
abbrev b_IL_turnRound : ByteArray := prog_2_method_8_code
def y_IL_turnRound : MethodName := ⟨RIL, "turnRound", "(I)V"⟩
abbrev w_IL_turnRound : List Cond := .code y_IL_turnRound b_IL_turnRound 5 none :: lw_g
theorem k_IL_turnRound : Cond.code y_IL_turnRound b_IL_turnRound 5 none ∈ lw_g := tbm1 213 rfl rfl
abbrev b_LL_addMark : ByteArray := prog_3_method_5_code
def y_LL_addMark : MethodName := ⟨RLL, "addMark", "()V"⟩
abbrev w_LL_addMark : List Cond := .code y_LL_addMark b_LL_addMark 1 none :: lw_g
theorem k_LL_addMark : Cond.code y_LL_addMark b_LL_addMark 1 none ∈ lw_g := tbm1 219 rfl rfl
abbrev b_TL_amountOfSteps : ByteArray := prog_6_method_3_code
def y_TL_amountOfSteps : MethodName := ⟨RTL, "amountOfSteps", "()I"⟩
abbrev w_TL_amountOfSteps : List Cond := .code y_TL_amountOfSteps b_TL_amountOfSteps 1 (some .int) :: lw_g
theorem k_TL_amountOfSteps : Cond.code y_TL_amountOfSteps b_TL_amountOfSteps 1 (some .int) ∈ lw_g := tbm1 223 rfl rfl
abbrev b_PP_step : ByteArray := prog_1_method_12_code
def y_PP_step : MethodName := ⟨RPP, "step", "(I)I"⟩
abbrev w_PP_step : List Cond := .code y_PP_step b_PP_step 2 (some .int) :: lw_g
theorem k_PP_step : Cond.code y_PP_step b_PP_step 2 (some .int) ∈ lw_g := tbm1 227 rfl rfl
abbrev b_TL_stepAt : ByteArray := prog_6_method_7_code
def y_TL_stepAt : MethodName := ⟨RTL, "stepAt", "(I)I"⟩
abbrev w_TL_stepAt : List Cond := .code y_TL_stepAt b_TL_stepAt 2 (some .int) :: lw_g
theorem k_TL_stepAt : Cond.code y_TL_stepAt b_TL_stepAt 2 (some .int) ∈ lw_g := tbm1 231 rfl rfl
abbrev b_PP_saves : ByteArray := prog_1_method_13_code
def y_PP_saves : MethodName := ⟨RPP, "saves", "(I)I"⟩
abbrev w_PP_saves : List Cond := .code y_PP_saves b_PP_saves 2 (some .int) :: lw_g
theorem k_PP_saves : Cond.code y_PP_saves b_PP_saves 2 (some .int) ∈ lw_g := tbm1 235 rfl rfl
abbrev b_PP_label : ByteArray := prog_1_method_14_code
def y_PP_label : MethodName := ⟨RPP, "label", "(I)I"⟩
abbrev w_PP_label : List Cond := .code y_PP_label b_PP_label 2 (some .int) :: lw_g
theorem k_PP_label : Cond.code y_PP_label b_PP_label 2 (some .int) ∈ lw_g := tbm2 0 rfl rfl
abbrev b_TL_labelAt : ByteArray := prog_6_method_9_code
def y_TL_labelAt : MethodName := ⟨RTL, "labelAt", "(I)I"⟩
abbrev w_TL_labelAt : List Cond := .code y_TL_labelAt b_TL_labelAt 2 (some .int) :: lw_g
theorem k_TL_labelAt : Cond.code y_TL_labelAt b_TL_labelAt 2 (some .int) ∈ lw_g := tbm2 4 rfl rfl
abbrev b_PP_packed : ByteArray := prog_1_method_15_code
def y_PP_packed : MethodName := ⟨RPP, "packed", "(I)I"⟩
abbrev w_PP_packed : List Cond := .code y_PP_packed b_PP_packed 2 (some .int) :: lw_g
theorem k_PP_packed : Cond.code y_PP_packed b_PP_packed 2 (some .int) ∈ lw_g := tbm2 8 rfl rfl
abbrev b_TL_amountOfLabels : ByteArray := prog_6_method_4_code
def y_TL_amountOfLabels : MethodName := ⟨RTL, "amountOfLabels", "()I"⟩
abbrev w_TL_amountOfLabels : List Cond := .code y_TL_amountOfLabels b_TL_amountOfLabels 1 (some .int) :: lw_g
theorem k_TL_amountOfLabels : Cond.code y_TL_amountOfLabels b_TL_amountOfLabels 1 (some .int) ∈ lw_g := tbm2 12 rfl rfl
abbrev b_TL_amountOfLetters : ByteArray := prog_6_method_5_code
def y_TL_amountOfLetters : MethodName := ⟨RTL, "amountOfLetters", "()I"⟩
abbrev w_TL_amountOfLetters : List Cond := .code y_TL_amountOfLetters b_TL_amountOfLetters 1 (some .int) :: lw_g
theorem k_TL_amountOfLetters : Cond.code y_TL_amountOfLetters b_TL_amountOfLetters 1 (some .int) ∈ lw_g := tbm2 16 rfl rfl
abbrev b_LL_amount : ByteArray := prog_3_method_3_code
def y_LL_amount : MethodName := ⟨RLL, "amount", "()I"⟩
abbrev w_LL_amount : List Cond := .code y_LL_amount b_LL_amount 1 (some .int) :: lw_g
theorem k_LL_amount : Cond.code y_LL_amount b_LL_amount 1 (some .int) ∈ lw_g := tbm2 20 rfl rfl
abbrev b_TL_amountOfSaved : ByteArray := prog_6_method_6_code
def y_TL_amountOfSaved : MethodName := ⟨RTL, "amountOfSaved", "()I"⟩
abbrev w_TL_amountOfSaved : List Cond := .code y_TL_amountOfSaved b_TL_amountOfSaved 1 (some .int) :: lw_g
theorem k_TL_amountOfSaved : Cond.code y_TL_amountOfSaved b_TL_amountOfSaved 1 (some .int) ∈ lw_g := tbm2 24 rfl rfl
abbrev b_PP_letter : ByteArray := prog_1_method_16_code
def y_PP_letter : MethodName := ⟨RPP, "letter", "(I)I"⟩
abbrev w_PP_letter : List Cond := .code y_PP_letter b_PP_letter 2 (some .int) :: lw_g
theorem k_PP_letter : Cond.code y_PP_letter b_PP_letter 2 (some .int) ∈ lw_g := tbm2 28 rfl rfl
abbrev b_TL_letterAt : ByteArray := prog_6_method_10_code
def y_TL_letterAt : MethodName := ⟨RTL, "letterAt", "(I)I"⟩
abbrev w_TL_letterAt : List Cond := .code y_TL_letterAt b_TL_letterAt 2 (some .int) :: lw_g
theorem k_TL_letterAt : Cond.code y_TL_letterAt b_TL_letterAt 2 (some .int) ∈ lw_g := tbm2 32 rfl rfl
abbrev b_LL_letterAt : ByteArray := prog_3_method_4_code
def y_LL_letterAt : MethodName := ⟨RLL, "letterAt", "(I)I"⟩
abbrev w_LL_letterAt : List Cond := .code y_LL_letterAt b_LL_letterAt 2 (some .int) :: lw_g
theorem k_LL_letterAt : Cond.code y_LL_letterAt b_LL_letterAt 2 (some .int) ∈ lw_g := tbm2 36 rfl rfl
abbrev b_PP_size : ByteArray := prog_1_method_17_code
def y_PP_size : MethodName := ⟨RPP, "size", "(I)J"⟩
abbrev w_PP_size : List Cond := .code y_PP_size b_PP_size 4 (some .long) :: lw_g
theorem k_PP_size : Cond.code y_PP_size b_PP_size 4 (some .long) ∈ lw_g := tbm2 41 rfl rfl
abbrev b_PP_full : ByteArray := prog_1_method_18_code
def y_PP_full : MethodName := ⟨RPP, "full", "(II)I"⟩
abbrev w_PP_full : List Cond := .code y_PP_full b_PP_full 5 (some .int) :: lw_g
theorem k_PP_full : Cond.code y_PP_full b_PP_full 5 (some .int) ∈ lw_g := tbm2 49 rfl rfl
abbrev b_RW_statementInFull : ByteArray := prog_4_method_18_code
def y_RW_statementInFull : MethodName := ⟨RRW, "statementInFull", "(II)I"⟩
abbrev w_RW_statementInFull : List Cond := .code y_RW_statementInFull b_RW_statementInFull 8 (some .int) :: lw_g
theorem k_RW_statementInFull : Cond.code y_RW_statementInFull b_RW_statementInFull 8 (some .int) ∈ lw_g := tbm2 54 rfl rfl
abbrev b_PP_check : ByteArray := prog_1_method_19_code
def y_PP_check : MethodName := ⟨RPP, "check", "()I"⟩
abbrev w_PP_check : List Cond := .code y_PP_check b_PP_check 1 (some .int) :: lw_g
theorem k_PP_check : Cond.code y_PP_check b_PP_check 1 (some .int) ∈ lw_g := tbm2 58 rfl rfl
abbrev b_TL_makesItsRow : ByteArray := prog_6_method_20_code
def y_TL_makesItsRow : MethodName := ⟨RTL, "makesItsRow", "()Z"⟩
abbrev w_TL_makesItsRow : List Cond := .code y_TL_makesItsRow b_TL_makesItsRow 4 (some .boolean) :: lw_g
theorem k_TL_makesItsRow : Cond.code y_TL_makesItsRow b_TL_makesItsRow 4 (some .boolean) ∈ lw_g := tbm2 62 rfl rfl
abbrev b_TL_rowsTakenAt : ByteArray := prog_6_method_21_code
def y_TL_rowsTakenAt : MethodName := ⟨RTL, "rowsTakenAt", "(I)I"⟩
abbrev w_TL_rowsTakenAt : List Cond := .code y_TL_rowsTakenAt b_TL_rowsTakenAt 3 (some .int) :: lw_g
theorem k_TL_rowsTakenAt : Cond.code y_TL_rowsTakenAt b_TL_rowsTakenAt 3 (some .int) ∈ lw_g := tbm2 66 rfl rfl
abbrev b_TL_kindMadeAt : ByteArray := prog_6_method_22_code
def y_TL_kindMadeAt : MethodName := ⟨RTL, "kindMadeAt", "(II)I"⟩
abbrev w_TL_kindMadeAt : List Cond := .code y_TL_kindMadeAt b_TL_kindMadeAt 4 (some .int) :: lw_g
theorem k_TL_kindMadeAt : Cond.code y_TL_kindMadeAt b_TL_kindMadeAt 4 (some .int) ∈ lw_g := tbm2 71 rfl rfl
abbrev b_MD_init : ByteArray := prog_8_method_1_code
def y_MD_init : MethodName := ⟨RMD, "<init>", "()V"⟩
abbrev w_MD_init : List Cond := .code y_MD_init b_MD_init 1 none :: lw_g
theorem k_MD_init : Cond.code y_MD_init b_MD_init 1 none ∈ lw_g := tbm2 77 rfl rfl
abbrev b_MD_statement : ByteArray := prog_8_method_3_code
def y_MD_statement : MethodName := ⟨RMD, "statement", "(I)I"⟩
abbrev w_MD_statement : List Cond := .code y_MD_statement b_MD_statement 2 (some .int) :: lw_g
theorem k_MD_statement : Cond.code y_MD_statement b_MD_statement 2 (some .int) ∈ lw_g := tbm2 169 rfl rfl
abbrev b_MD_mandatory : ByteArray := prog_8_method_6_code
def y_MD_mandatory : MethodName := ⟨RMD, "mandatory", "(I)I"⟩
abbrev w_MD_mandatory : List Cond := .code y_MD_mandatory b_MD_mandatory 2 (some .int) :: lw_g
theorem k_MD_mandatory : Cond.code y_MD_mandatory b_MD_mandatory 2 (some .int) ∈ lw_g := tbm2 173 rfl rfl
abbrev b_MD_isStatement : ByteArray := prog_8_method_4_code
def y_MD_isStatement : MethodName := ⟨RMD, "isStatement", "(I)Z"⟩
abbrev w_MD_isStatement : List Cond := .code y_MD_isStatement b_MD_isStatement 2 (some .boolean) :: lw_g
theorem k_MD_isStatement : Cond.code y_MD_isStatement b_MD_isStatement 2 (some .boolean) ∈ lw_g := tbm2 177 rfl rfl
abbrev b_MD_mandatoryOf : ByteArray := prog_8_method_5_code
def y_MD_mandatoryOf : MethodName := ⟨RMD, "mandatoryOf", "(I)I"⟩
abbrev w_MD_mandatoryOf : List Cond := .code y_MD_mandatoryOf b_MD_mandatoryOf 3 (some .int) :: lw_g
theorem k_MD_mandatoryOf : Cond.code y_MD_mandatoryOf b_MD_mandatoryOf 3 (some .int) ∈ lw_g := tbm2 181 rfl rfl
abbrev b_MD_make : ByteArray := prog_8_method_10_code
def y_MD_make : MethodName := ⟨RMD, "make", "(I)I"⟩
abbrev w_MD_make : List Cond := .code y_MD_make b_MD_make 4 (some .int) :: lw_g
theorem k_MD_make : Cond.code y_MD_make b_MD_make 4 (some .int) ∈ lw_g := tbm2 185 rfl rfl
abbrev b_MD_findSame : ByteArray := prog_8_method_8_code
def y_MD_findSame : MethodName := ⟨RMD, "findSame", "(I)V"⟩
abbrev w_MD_findSame : List Cond := .code y_MD_findSame b_MD_findSame 3 none :: lw_g
theorem k_MD_findSame : Cond.code y_MD_findSame b_MD_findSame 3 none ∈ lw_g := tbm2 189 rfl rfl
abbrev b_MD_isAlike : ByteArray := prog_8_method_7_code
def y_MD_isAlike : MethodName := ⟨RMD, "isAlike", "(II)Z"⟩
abbrev w_MD_isAlike : List Cond := .code y_MD_isAlike b_MD_isAlike 5 (some .boolean) :: lw_g
theorem k_MD_isAlike : Cond.code y_MD_isAlike b_MD_isAlike 5 (some .boolean) ∈ lw_g := tbm2 193 rfl rfl
abbrev b_MD_findSize : ByteArray := prog_8_method_9_code
def y_MD_findSize : MethodName := ⟨RMD, "findSize", "(I)V"⟩
abbrev w_MD_findSize : List Cond := .code y_MD_findSize b_MD_findSize 5 none :: lw_g
theorem k_MD_findSize : Cond.code y_MD_findSize b_MD_findSize 5 none ∈ lw_g := tbm2 197 rfl rfl
abbrev b_MD_again : ByteArray := prog_8_method_12_code
def y_MD_again : MethodName := ⟨RMD, "again", "(I)I"⟩
abbrev w_MD_again : List Cond := .code y_MD_again b_MD_again 2 (some .int) :: lw_g
theorem k_MD_again : Cond.code y_MD_again b_MD_again 2 (some .int) ∈ lw_g := tbm2 203 rfl rfl
abbrev b_MD_isRow : ByteArray := prog_8_method_11_code
def y_MD_isRow : MethodName := ⟨RMD, "isRow", "(I)Z"⟩
abbrev w_MD_isRow : List Cond := .code y_MD_isRow b_MD_isRow 2 (some .boolean) :: lw_g
theorem k_MD_isRow : Cond.code y_MD_isRow b_MD_isRow 2 (some .boolean) ∈ lw_g := tbm2 207 rfl rfl
abbrev b_MD_clear : ByteArray := prog_8_method_13_code
def y_MD_clear : MethodName := ⟨RMD, "clear", "()I"⟩
abbrev w_MD_clear : List Cond := .code y_MD_clear b_MD_clear 2 (some .int) :: lw_g
theorem k_MD_clear : Cond.code y_MD_clear b_MD_clear 2 (some .int) ∈ lw_g := tbm2 211 rfl rfl
abbrev b_MD_count : ByteArray := prog_8_method_14_code
def y_MD_count : MethodName := ⟨RMD, "count", "(I)I"⟩
abbrev w_MD_count : List Cond := .code y_MD_count b_MD_count 4 (some .int) :: lw_g
theorem k_MD_count : Cond.code y_MD_count b_MD_count 4 (some .int) ∈ lw_g := tbm2 215 rfl rfl
abbrev b_MD_row : ByteArray := prog_8_method_15_code
def y_MD_row : MethodName := ⟨RMD, "row", "(I)I"⟩
abbrev w_MD_row : List Cond := .code y_MD_row b_MD_row 2 (some .int) :: lw_g
theorem k_MD_row : Cond.code y_MD_row b_MD_row 2 (some .int) ∈ lw_g := tbm2 219 rfl rfl
abbrev b_MD_frm : ByteArray := prog_8_method_16_code
def y_MD_frm : MethodName := ⟨RMD, "from", "(II)I"⟩
abbrev w_MD_frm : List Cond := .code y_MD_frm b_MD_frm 3 (some .int) :: lw_g
theorem k_MD_frm : Cond.code y_MD_frm b_MD_frm 3 (some .int) ∈ lw_g := tbm2 223 rfl rfl
abbrev b_MD_same : ByteArray := prog_8_method_17_code
def y_MD_same : MethodName := ⟨RMD, "same", "(II)I"⟩
abbrev w_MD_same : List Cond := .code y_MD_same b_MD_same 3 (some .int) :: lw_g
theorem k_MD_same : Cond.code y_MD_same b_MD_same 3 (some .int) ∈ lw_g := tbm2 227 rfl rfl
abbrev b_MD_pack : ByteArray := prog_8_method_26_code
def y_MD_pack : MethodName := ⟨RMD, "pack", "()I"⟩
abbrev w_MD_pack : List Cond := .code y_MD_pack b_MD_pack 1 (some .int) :: lw_g
theorem k_MD_pack : Cond.code y_MD_pack b_MD_pack 1 (some .int) ∈ lw_g := tbm2 231 rfl rfl
abbrev b_MD_tellAll : ByteArray := prog_8_method_19_code
def y_MD_tellAll : MethodName := ⟨RMD, "tellAll", "(I)V"⟩
abbrev w_MD_tellAll : List Cond := .code y_MD_tellAll b_MD_tellAll 7 none :: lw_g
theorem k_MD_tellAll : Cond.code y_MD_tellAll b_MD_tellAll 7 none ∈ lw_g := tbm2 235 rfl rfl
abbrev b_MD_tell : ByteArray := prog_8_method_18_code
def y_MD_tell : MethodName := ⟨RMD, "tell", "(II)V"⟩
abbrev w_MD_tell : List Cond := .code y_MD_tell b_MD_tell 3 none :: lw_g
theorem k_MD_tell : Cond.code y_MD_tell b_MD_tell 3 none ∈ lw_g := tbm2 239 rfl rfl
abbrev b_MD_numberSaved : ByteArray := prog_8_method_20_code
def y_MD_numberSaved : MethodName := ⟨RMD, "numberSaved", "()V"⟩
abbrev w_MD_numberSaved : List Cond := .code y_MD_numberSaved b_MD_numberSaved 2 none :: lw_g
theorem k_MD_numberSaved : Cond.code y_MD_numberSaved b_MD_numberSaved 2 none ∈ lw_g := tbm3 3 rfl rfl
abbrev b_MD_findLabels : ByteArray := prog_8_method_22_code
def y_MD_findLabels : MethodName := ⟨RMD, "findLabels", "()V"⟩
abbrev w_MD_findLabels : List Cond := .code y_MD_findLabels b_MD_findLabels 2 none :: lw_g
theorem k_MD_findLabels : Cond.code y_MD_findLabels b_MD_findLabels 2 none ∈ lw_g := tbm3 7 rfl rfl
abbrev b_MD_labelOf : ByteArray := prog_8_method_21_code
def y_MD_labelOf : MethodName := ⟨RMD, "labelOf", "(I)I"⟩
abbrev w_MD_labelOf : List Cond := .code y_MD_labelOf b_MD_labelOf 3 (some .int) :: lw_g
theorem k_MD_labelOf : Cond.code y_MD_labelOf b_MD_labelOf 3 (some .int) ∈ lw_g := tbm3 11 rfl rfl
abbrev b_MD_layLetters : ByteArray := prog_8_method_25_code
def y_MD_layLetters : MethodName := ⟨RMD, "layLetters", "()V"⟩
abbrev w_MD_layLetters : List Cond := .code y_MD_layLetters b_MD_layLetters 4 none :: lw_g
theorem k_MD_layLetters : Cond.code y_MD_layLetters b_MD_layLetters 4 none ∈ lw_g := tbm3 15 rfl rfl
abbrev b_MD_layNumber : ByteArray := prog_8_method_24_code
def y_MD_layNumber : MethodName := ⟨RMD, "layNumber", "(I)V"⟩
abbrev w_MD_layNumber : List Cond := .code y_MD_layNumber b_MD_layNumber 8 none :: lw_g
theorem k_MD_layNumber : Cond.code y_MD_layNumber b_MD_layNumber 8 none ∈ lw_g := tbm3 19 rfl rfl
abbrev b_MD_putLetter : ByteArray := prog_8_method_23_code
def y_MD_putLetter : MethodName := ⟨RMD, "putLetter", "(CI)V"⟩
abbrev w_MD_putLetter : List Cond := .code y_MD_putLetter b_MD_putLetter 3 none :: lw_g
theorem k_MD_putLetter : Cond.code y_MD_putLetter b_MD_putLetter 3 none ∈ lw_g := tbm3 23 rfl rfl
abbrev b_MD_step : ByteArray := prog_8_method_27_code
def y_MD_step : MethodName := ⟨RMD, "step", "(I)I"⟩
abbrev w_MD_step : List Cond := .code y_MD_step b_MD_step 2 (some .int) :: lw_g
theorem k_MD_step : Cond.code y_MD_step b_MD_step 2 (some .int) ∈ lw_g := tbm3 27 rfl rfl
abbrev b_MD_saves : ByteArray := prog_8_method_28_code
def y_MD_saves : MethodName := ⟨RMD, "saves", "(I)I"⟩
abbrev w_MD_saves : List Cond := .code y_MD_saves b_MD_saves 2 (some .int) :: lw_g
theorem k_MD_saves : Cond.code y_MD_saves b_MD_saves 2 (some .int) ∈ lw_g := tbm3 31 rfl rfl
abbrev b_MD_label : ByteArray := prog_8_method_29_code
def y_MD_label : MethodName := ⟨RMD, "label", "(I)I"⟩
abbrev w_MD_label : List Cond := .code y_MD_label b_MD_label 2 (some .int) :: lw_g
theorem k_MD_label : Cond.code y_MD_label b_MD_label 2 (some .int) ∈ lw_g := tbm3 35 rfl rfl
abbrev b_MD_packed : ByteArray := prog_8_method_30_code
def y_MD_packed : MethodName := ⟨RMD, "packed", "(I)I"⟩
abbrev w_MD_packed : List Cond := .code y_MD_packed b_MD_packed 2 (some .int) :: lw_g
theorem k_MD_packed : Cond.code y_MD_packed b_MD_packed 2 (some .int) ∈ lw_g := tbm3 39 rfl rfl
abbrev b_MD_letter : ByteArray := prog_8_method_31_code
def y_MD_letter : MethodName := ⟨RMD, "letter", "(I)I"⟩
abbrev w_MD_letter : List Cond := .code y_MD_letter b_MD_letter 2 (some .int) :: lw_g
theorem k_MD_letter : Cond.code y_MD_letter b_MD_letter 2 (some .int) ∈ lw_g := tbm3 43 rfl rfl
abbrev b_MD_size : ByteArray := prog_8_method_32_code
def y_MD_size : MethodName := ⟨RMD, "size", "(I)J"⟩
abbrev w_MD_size : List Cond := .code y_MD_size b_MD_size 2 (some .long) :: lw_g
theorem k_MD_size : Cond.code y_MD_size b_MD_size 2 (some .long) ∈ lw_g := tbm3 47 rfl rfl
abbrev b_MD_full : ByteArray := prog_8_method_33_code
def y_MD_full : MethodName := ⟨RMD, "full", "(II)I"⟩
abbrev w_MD_full : List Cond := .code y_MD_full b_MD_full 7 (some .int) :: lw_g
theorem k_MD_full : Cond.code y_MD_full b_MD_full 7 (some .int) ∈ lw_g := tbm3 53 rfl rfl
abbrev b_MD_check : ByteArray := prog_8_method_34_code
def y_MD_check : MethodName := ⟨RMD, "check", "()I"⟩
abbrev w_MD_check : List Cond := .code y_MD_check b_MD_check 1 (some .int) :: lw_g
theorem k_MD_check : Cond.code y_MD_check b_MD_check 1 (some .int) ∈ lw_g := tbm3 58 rfl rfl
theorem ml_LW_9 : Cond.methodLink RLW 9 y_PP_init ∈ lw_g := tbm0 13 rfl rfl
theorem im_PP_init : Cond.instanceMethod y_PP_init ∈ lw_g := tbm0 14 rfl rfl
theorem ml_PP_1 : Cond.methodLink RPP 1 objectInit ∈ lw_g := tbm0 16 rfl rfl
theorem im_obj_init : Cond.instanceMethod objectInit ∈ lw_g := tbm0 17 rfl rfl
theorem k_obj_init : Cond.code objectInit ⟨#[0xb1]⟩ 1 none ∈ lw_g := tbm0 18 rfl rfl
theorem ml_PP_9 : Cond.methodLink RPP 9 y_ST_init ∈ lw_g := tbm0 21 rfl rfl
theorem im_ST_init : Cond.instanceMethod y_ST_init ∈ lw_g := tbm0 22 rfl rfl
theorem ml_ST_3 : Cond.methodLink RST 3 objectInit ∈ lw_g := tbm0 24 rfl rfl
theorem ml_ST_11 : Cond.methodLink RST 11 y_IL_init ∈ lw_g := tbm0 27 rfl rfl
theorem im_IL_init : Cond.instanceMethod y_IL_init ∈ lw_g := tbm0 28 rfl rfl
theorem ml_IL_3 : Cond.methodLink RIL 3 objectInit ∈ lw_g := tbm0 30 rfl rfl
theorem ml_PP_18 : Cond.methodLink RPP 18 y_RW_init ∈ lw_g := tbm0 51 rfl rfl
theorem im_RW_init : Cond.instanceMethod y_RW_init ∈ lw_g := tbm0 52 rfl rfl
theorem ml_RW_3 : Cond.methodLink RRW 3 objectInit ∈ lw_g := tbm0 54 rfl rfl
theorem ml_RW_11 : Cond.methodLink RRW 11 y_IL_init ∈ lw_g := tbm0 56 rfl rfl
theorem ml_RW_21 : Cond.methodLink RRW 21 y_IL_add ∈ lw_g := tbm0 57 rfl rfl
theorem im_IL_add : Cond.instanceMethod y_IL_add ∈ lw_g := tbm0 58 rfl rfl
theorem sl_IL_add : Cond.selects RIL y_IL_add y_IL_add ∈ lw_g := tbm0 59 rfl rfl
theorem ml_IL_19 : Cond.methodLink RIL 19 y_AR_copyI ∈ lw_g := tbm0 61 rfl rfl
theorem sm_AR_copyI : Cond.static y_AR_copyI ∈ lw_g := tbm0 62 rfl rfl
theorem ml_AR_304 : Cond.methodLink RAR 304 Lib.Math.min.name ∈ lw_g := tbm0 71 rfl rfl
theorem sm_math_min : Cond.static Lib.Math.min.name ∈ lw_g := tbm0 72 rfl rfl
theorem k_math_min : Cond.code Lib.Math.min.name Lib.Math.min.code 2 (some .int) ∈ lw_g := tbm0 73 rfl rfl
theorem ml_AR_150 : Cond.methodLink RAR 150 arraycopyName ∈ lw_g := tbm0 74 rfl rfl
theorem sm_sys_copy : Cond.static arraycopyName ∈ lw_g := tbm0 75 rfl rfl
theorem nv_sys_copy : Cond.native arraycopyName ∈ lw_g := tbm0 76 rfl rfl
theorem ml_RW_44 : Cond.methodLink RRW 44 y_AR_fill ∈ lw_g := tbm0 77 rfl rfl
theorem sm_AR_fill : Cond.static y_AR_fill ∈ lw_g := tbm0 78 rfl rfl
theorem ml_PP_25 : Cond.methodLink RPP 25 y_TL_init ∈ lw_g := tbm0 111 rfl rfl
theorem im_TL_init : Cond.instanceMethod y_TL_init ∈ lw_g := tbm0 112 rfl rfl
theorem ml_TL_3 : Cond.methodLink RTL 3 objectInit ∈ lw_g := tbm0 114 rfl rfl
theorem ml_TL_21 : Cond.methodLink RTL 21 y_IL_init ∈ lw_g := tbm0 116 rfl rfl
theorem ml_TL_34 : Cond.methodLink RTL 34 y_LL_init ∈ lw_g := tbm0 119 rfl rfl
theorem im_LL_init : Cond.instanceMethod y_LL_init ∈ lw_g := tbm0 120 rfl rfl
theorem ml_LL_1 : Cond.methodLink RLL 1 objectInit ∈ lw_g := tbm0 122 rfl rfl
theorem ml_LL_9 : Cond.methodLink RLL 9 y_IL_init ∈ lw_g := tbm0 124 rfl rfl
theorem ml_PP_34 : Cond.methodLink RPP 34 y_IL_init ∈ lw_g := tbm0 173 rfl rfl
theorem ml_LW_13 : Cond.methodLink RLW 13 y_PP_statement ∈ lw_g := tbm0 190 rfl rfl
theorem im_PP_statement : Cond.instanceMethod y_PP_statement ∈ lw_g := tbm0 191 rfl rfl
theorem sl_PP_statement : Cond.selects RPP y_PP_statement y_PP_statement ∈ lw_g := tbm0 192 rfl rfl
theorem ml_PP_43 : Cond.methodLink RPP 43 y_ST_amount ∈ lw_g := tbm0 194 rfl rfl
theorem im_ST_amount : Cond.instanceMethod y_ST_amount ∈ lw_g := tbm0 195 rfl rfl
theorem sl_ST_amount : Cond.selects RST y_ST_amount y_ST_amount ∈ lw_g := tbm0 196 rfl rfl
theorem ml_ST_25 : Cond.methodLink RST 25 y_IL_length ∈ lw_g := tbm0 198 rfl rfl
theorem im_IL_length : Cond.instanceMethod y_IL_length ∈ lw_g := tbm0 199 rfl rfl
theorem sl_IL_length : Cond.selects RIL y_IL_length y_IL_length ∈ lw_g := tbm0 200 rfl rfl
theorem ml_PP_47 : Cond.methodLink RPP 47 y_ST_add ∈ lw_g := tbm0 202 rfl rfl
theorem im_ST_add : Cond.instanceMethod y_ST_add ∈ lw_g := tbm0 203 rfl rfl
theorem sl_ST_add : Cond.selects RST y_ST_add y_ST_add ∈ lw_g := tbm0 204 rfl rfl
theorem ml_ST_33 : Cond.methodLink RST 33 y_IL_add ∈ lw_g := tbm0 206 rfl rfl
theorem ml_LW_18 : Cond.methodLink RLW 18 y_PP_mandatory ∈ lw_g := tbm0 207 rfl rfl
theorem im_PP_mandatory : Cond.instanceMethod y_PP_mandatory ∈ lw_g := tbm0 208 rfl rfl
theorem sl_PP_mandatory : Cond.selects RPP y_PP_mandatory y_PP_mandatory ∈ lw_g := tbm0 209 rfl rfl
theorem ml_PP_51 : Cond.methodLink RPP 51 y_ST_has ∈ lw_g := tbm0 211 rfl rfl
theorem im_ST_has : Cond.instanceMethod y_ST_has ∈ lw_g := tbm0 212 rfl rfl
theorem sl_ST_has : Cond.selects RST y_ST_has y_ST_has ∈ lw_g := tbm0 213 rfl rfl
theorem ml_PP_55 : Cond.methodLink RPP 55 y_ST_taking ∈ lw_g := tbm0 215 rfl rfl
theorem im_ST_taking : Cond.instanceMethod y_ST_taking ∈ lw_g := tbm0 216 rfl rfl
theorem sl_ST_taking : Cond.selects RST y_ST_taking y_ST_taking ∈ lw_g := tbm0 217 rfl rfl
theorem ml_ST_29 : Cond.methodLink RST 29 y_IL_at ∈ lw_g := tbm0 219 rfl rfl
theorem im_IL_at : Cond.instanceMethod y_IL_at ∈ lw_g := tbm0 220 rfl rfl
theorem sl_IL_at : Cond.selects RIL y_IL_at y_IL_at ∈ lw_g := tbm0 221 rfl rfl
theorem ml_PP_58 : Cond.methodLink RPP 58 y_ST_isMandatory ∈ lw_g := tbm0 223 rfl rfl
theorem im_ST_isMandatory : Cond.instanceMethod y_ST_isMandatory ∈ lw_g := tbm0 224 rfl rfl
theorem sl_ST_isMandatory : Cond.selects RST y_ST_isMandatory y_ST_isMandatory ∈ lw_g := tbm0 225 rfl rfl
theorem ml_PP_61 : Cond.methodLink RPP 61 y_ST_mandatories ∈ lw_g := tbm0 227 rfl rfl
theorem im_ST_mandatories : Cond.instanceMethod y_ST_mandatories ∈ lw_g := tbm0 228 rfl rfl
theorem sl_ST_mandatories : Cond.selects RST y_ST_mandatories y_ST_mandatories ∈ lw_g := tbm0 229 rfl rfl
theorem ml_PP_64 : Cond.methodLink RPP 64 y_ST_addMandatory ∈ lw_g := tbm0 231 rfl rfl
theorem im_ST_addMandatory : Cond.instanceMethod y_ST_addMandatory ∈ lw_g := tbm0 232 rfl rfl
theorem sl_ST_addMandatory : Cond.selects RST y_ST_addMandatory y_ST_addMandatory ∈ lw_g := tbm0 233 rfl rfl
theorem ml_ST_37 : Cond.methodLink RST 37 y_IL_put ∈ lw_g := tbm0 235 rfl rfl
theorem im_IL_put : Cond.instanceMethod y_IL_put ∈ lw_g := tbm0 236 rfl rfl
theorem sl_IL_put : Cond.selects RIL y_IL_put y_IL_put ∈ lw_g := tbm0 237 rfl rfl
theorem ml_LW_22 : Cond.methodLink RLW 22 y_PP_make ∈ lw_g := tbm0 239 rfl rfl
theorem im_PP_make : Cond.instanceMethod y_PP_make ∈ lw_g := tbm1 0 rfl rfl
theorem sl_PP_make : Cond.selects RPP y_PP_make y_PP_make ∈ lw_g := tbm1 1 rfl rfl
theorem ml_PP_67 : Cond.methodLink RPP 67 y_IL_length ∈ lw_g := tbm1 3 rfl rfl
theorem ml_PP_70 : Cond.methodLink RPP 70 y_RW_amount ∈ lw_g := tbm1 4 rfl rfl
theorem im_RW_amount : Cond.instanceMethod y_RW_amount ∈ lw_g := tbm1 5 rfl rfl
theorem sl_RW_amount : Cond.selects RRW y_RW_amount y_RW_amount ∈ lw_g := tbm1 6 rfl rfl
theorem ml_RW_57 : Cond.methodLink RRW 57 y_IL_length ∈ lw_g := tbm1 8 rfl rfl
theorem ml_PP_71 : Cond.methodLink RPP 71 y_PP_mayPutOn ∈ lw_g := tbm1 9 rfl rfl
theorem im_PP_mayPutOn : Cond.instanceMethod y_PP_mayPutOn ∈ lw_g := tbm1 11 rfl rfl
theorem ml_PP_74 : Cond.methodLink RPP 74 y_RW_add ∈ lw_g := tbm1 13 rfl rfl
theorem im_RW_add : Cond.instanceMethod y_RW_add ∈ lw_g := tbm1 14 rfl rfl
theorem sl_RW_add : Cond.selects RRW y_RW_add y_RW_add ∈ lw_g := tbm1 15 rfl rfl
theorem ml_RW_72 : Cond.methodLink RRW 72 y_RW_amount ∈ lw_g := tbm1 17 rfl rfl
theorem ml_RW_61 : Cond.methodLink RRW 61 y_IL_at ∈ lw_g := tbm1 18 rfl rfl
theorem ml_RW_75 : Cond.methodLink RRW 75 y_RW_kindOf ∈ lw_g := tbm1 19 rfl rfl
theorem im_RW_kindOf : Cond.instanceMethod y_RW_kindOf ∈ lw_g := tbm1 20 rfl rfl
theorem sl_RW_kindOf : Cond.selects RRW y_RW_kindOf y_RW_kindOf ∈ lw_g := tbm1 21 rfl rfl
theorem ml_RW_78 : Cond.methodLink RRW 78 y_RW_kindOfNewRow ∈ lw_g := tbm1 23 rfl rfl
theorem im_RW_kindOfNewRow : Cond.instanceMethod y_RW_kindOfNewRow ∈ lw_g := tbm1 25 rfl rfl
theorem ml_RW_90 : Cond.methodLink RRW 90 y_RW_statementOf ∈ lw_g := tbm1 27 rfl rfl
theorem im_RW_statementOf : Cond.instanceMethod y_RW_statementOf ∈ lw_g := tbm1 28 rfl rfl
theorem sl_RW_statementOf : Cond.selects RRW y_RW_statementOf y_RW_statementOf ∈ lw_g := tbm1 29 rfl rfl
theorem ml_RW_93 : Cond.methodLink RRW 93 y_RW_kindMadeOf ∈ lw_g := tbm1 31 rfl rfl
theorem im_RW_kindMadeOf : Cond.instanceMethod y_RW_kindMadeOf ∈ lw_g := tbm1 32 rfl rfl
theorem sl_RW_kindMadeOf : Cond.selects RRW y_RW_kindMadeOf y_RW_kindMadeOf ∈ lw_g := tbm1 33 rfl rfl
theorem ml_RW_100 : Cond.methodLink RRW 100 y_RW_bucketOf ∈ lw_g := tbm1 35 rfl rfl
theorem im_RW_bucketOf : Cond.instanceMethod y_RW_bucketOf ∈ lw_g := tbm1 37 rfl rfl
theorem ml_RW_97 : Cond.methodLink RRW 97 y_RW_amountOfKinds ∈ lw_g := tbm1 39 rfl rfl
theorem im_RW_amountOfKinds : Cond.instanceMethod y_RW_amountOfKinds ∈ lw_g := tbm1 40 rfl rfl
theorem sl_RW_amountOfKinds : Cond.selects RRW y_RW_amountOfKinds y_RW_amountOfKinds ∈ lw_g := tbm1 41 rfl rfl
theorem ml_RW_103 : Cond.methodLink RRW 103 y_RW_isMadeOf ∈ lw_g := tbm1 43 rfl rfl
theorem im_RW_isMadeOf : Cond.instanceMethod y_RW_isMadeOf ∈ lw_g := tbm1 45 rfl rfl
theorem ml_RW_82 : Cond.methodLink RRW 82 y_RW_countSteps ∈ lw_g := tbm1 47 rfl rfl
theorem im_RW_countSteps : Cond.instanceMethod y_RW_countSteps ∈ lw_g := tbm1 49 rfl rfl
theorem ml_RW_69 : Cond.methodLink RRW 69 y_RW_amountOfParts ∈ lw_g := tbm1 51 rfl rfl
theorem im_RW_amountOfParts : Cond.instanceMethod y_RW_amountOfParts ∈ lw_g := tbm1 52 rfl rfl
theorem sl_RW_amountOfParts : Cond.selects RRW y_RW_amountOfParts y_RW_amountOfParts ∈ lw_g := tbm1 53 rfl rfl
theorem ml_RW_65 : Cond.methodLink RRW 65 y_RW_has ∈ lw_g := tbm1 55 rfl rfl
theorem im_RW_has : Cond.instanceMethod y_RW_has ∈ lw_g := tbm1 56 rfl rfl
theorem sl_RW_has : Cond.selects RRW y_RW_has y_RW_has ∈ lw_g := tbm1 57 rfl rfl
theorem ml_RW_107 : Cond.methodLink RRW 107 y_RW_part ∈ lw_g := tbm1 59 rfl rfl
theorem im_RW_part : Cond.instanceMethod y_RW_part ∈ lw_g := tbm1 60 rfl rfl
theorem sl_RW_part : Cond.selects RRW y_RW_part y_RW_part ∈ lw_g := tbm1 61 rfl rfl
theorem ml_RW_110 : Cond.methodLink RRW 110 y_RW_stepsInFull ∈ lw_g := tbm1 63 rfl rfl
theorem im_RW_stepsInFull : Cond.instanceMethod y_RW_stepsInFull ∈ lw_g := tbm1 64 rfl rfl
theorem sl_RW_stepsInFull : Cond.selects RRW y_RW_stepsInFull y_RW_stepsInFull ∈ lw_g := tbm1 65 rfl rfl
theorem ml_RW_115 : Cond.methodLink RRW 115 Lib.MathLoose.min_long.x ∈ lw_g := tbm1 68 rfl rfl
theorem sm_math_minJ : Cond.static Lib.MathLoose.min_long.x ∈ lw_g := tbm1 69 rfl rfl
theorem k_math_minJ : Cond.code Lib.MathLoose.min_long.x Lib.MathLoose.min_long.code 4 (some .long) ∈ lw_g := tbm1 70 rfl rfl
theorem ml_RW_86 : Cond.methodLink RRW 86 y_RW_keepSteps ∈ lw_g := tbm1 71 rfl rfl
theorem im_RW_keepSteps : Cond.instanceMethod y_RW_keepSteps ∈ lw_g := tbm1 73 rfl rfl
theorem ml_RW_121 : Cond.methodLink RRW 121 y_AR_copyJ ∈ lw_g := tbm1 75 rfl rfl
theorem sm_AR_copyJ : Cond.static y_AR_copyJ ∈ lw_g := tbm1 76 rfl rfl
theorem ml_PP_77 : Cond.methodLink RPP 77 y_IL_cut ∈ lw_g := tbm1 83 rfl rfl
theorem im_IL_cut : Cond.instanceMethod y_IL_cut ∈ lw_g := tbm1 84 rfl rfl
theorem sl_IL_cut : Cond.selects RIL y_IL_cut y_IL_cut ∈ lw_g := tbm1 85 rfl rfl
theorem ml_PP_81 : Cond.methodLink RPP 81 y_PP_putOn ∈ lw_g := tbm1 87 rfl rfl
theorem im_PP_putOn : Cond.instanceMethod y_PP_putOn ∈ lw_g := tbm1 89 rfl rfl
theorem ml_PP_151 : Cond.methodLink RPP 151 y_IL_add ∈ lw_g := tbm1 91 rfl rfl
theorem ml_LW_26 : Cond.methodLink RLW 26 y_PP_again ∈ lw_g := tbm1 92 rfl rfl
theorem im_PP_again : Cond.instanceMethod y_PP_again ∈ lw_g := tbm1 93 rfl rfl
theorem sl_PP_again : Cond.selects RPP y_PP_again y_PP_again ∈ lw_g := tbm1 94 rfl rfl
theorem ml_PP_84 : Cond.methodLink RPP 84 y_RW_has ∈ lw_g := tbm1 96 rfl rfl
theorem ml_LW_30 : Cond.methodLink RLW 30 y_PP_clear ∈ lw_g := tbm1 97 rfl rfl
theorem im_PP_clear : Cond.instanceMethod y_PP_clear ∈ lw_g := tbm1 98 rfl rfl
theorem sl_PP_clear : Cond.selects RPP y_PP_clear y_PP_clear ∈ lw_g := tbm1 99 rfl rfl
theorem ml_PP_85 : Cond.methodLink RPP 85 y_RW_forget ∈ lw_g := tbm1 101 rfl rfl
theorem im_RW_forget : Cond.instanceMethod y_RW_forget ∈ lw_g := tbm1 102 rfl rfl
theorem sl_RW_forget : Cond.selects RRW y_RW_forget y_RW_forget ∈ lw_g := tbm1 103 rfl rfl
theorem ml_RW_54 : Cond.methodLink RRW 54 y_IL_cut ∈ lw_g := tbm1 105 rfl rfl
theorem ml_PP_88 : Cond.methodLink RPP 88 y_TL_forget ∈ lw_g := tbm1 106 rfl rfl
theorem im_TL_forget : Cond.instanceMethod y_TL_forget ∈ lw_g := tbm1 107 rfl rfl
theorem sl_TL_forget : Cond.selects RTL y_TL_forget y_TL_forget ∈ lw_g := tbm1 108 rfl rfl
theorem ml_TL_64 : Cond.methodLink RTL 64 y_IL_cut ∈ lw_g := tbm1 110 rfl rfl
theorem ml_TL_68 : Cond.methodLink RTL 68 y_LL_forget ∈ lw_g := tbm1 111 rfl rfl
theorem im_LL_forget : Cond.instanceMethod y_LL_forget ∈ lw_g := tbm1 112 rfl rfl
theorem sl_LL_forget : Cond.selects RLL y_LL_forget y_LL_forget ∈ lw_g := tbm1 113 rfl rfl
theorem ml_LL_16 : Cond.methodLink RLL 16 y_IL_cut ∈ lw_g := tbm1 115 rfl rfl
theorem ml_LW_35 : Cond.methodLink RLW 35 y_PP_count ∈ lw_g := tbm1 116 rfl rfl
theorem im_PP_count : Cond.instanceMethod y_PP_count ∈ lw_g := tbm1 117 rfl rfl
theorem sl_PP_count : Cond.selects RPP y_PP_count y_PP_count ∈ lw_g := tbm1 118 rfl rfl
theorem ml_PP_89 : Cond.methodLink RPP 89 y_RW_amountOfKinds ∈ lw_g := tbm1 120 rfl rfl
theorem ml_LW_39 : Cond.methodLink RLW 39 y_PP_row ∈ lw_g := tbm1 121 rfl rfl
theorem im_PP_row : Cond.instanceMethod y_PP_row ∈ lw_g := tbm1 122 rfl rfl
theorem sl_PP_row : Cond.selects RPP y_PP_row y_PP_row ∈ lw_g := tbm1 123 rfl rfl
theorem ml_PP_92 : Cond.methodLink RPP 92 y_RW_statementOf ∈ lw_g := tbm1 125 rfl rfl
theorem ml_LW_43 : Cond.methodLink RLW 43 y_PP_frm ∈ lw_g := tbm1 126 rfl rfl
theorem im_PP_frm : Cond.instanceMethod y_PP_frm ∈ lw_g := tbm1 127 rfl rfl
theorem sl_PP_frm : Cond.selects RPP y_PP_frm y_PP_frm ∈ lw_g := tbm1 128 rfl rfl
theorem ml_PP_95 : Cond.methodLink RPP 95 y_RW_part ∈ lw_g := tbm1 130 rfl rfl
theorem ml_LW_48 : Cond.methodLink RLW 48 y_PP_same ∈ lw_g := tbm1 131 rfl rfl
theorem im_PP_same : Cond.instanceMethod y_PP_same ∈ lw_g := tbm1 132 rfl rfl
theorem sl_PP_same : Cond.selects RPP y_PP_same y_PP_same ∈ lw_g := tbm1 133 rfl rfl
theorem ml_PP_99 : Cond.methodLink RPP 99 y_RW_kindOf ∈ lw_g := tbm1 135 rfl rfl
theorem ml_LW_52 : Cond.methodLink RLW 52 y_PP_pack ∈ lw_g := tbm1 136 rfl rfl
theorem im_PP_pack : Cond.instanceMethod y_PP_pack ∈ lw_g := tbm1 137 rfl rfl
theorem sl_PP_pack : Cond.selects RPP y_PP_pack y_PP_pack ∈ lw_g := tbm1 138 rfl rfl
theorem ml_PP_102 : Cond.methodLink RPP 102 y_IL_at ∈ lw_g := tbm1 140 rfl rfl
theorem ml_PP_105 : Cond.methodLink RPP 105 y_TL_tell ∈ lw_g := tbm1 141 rfl rfl
theorem im_TL_tell : Cond.instanceMethod y_TL_tell ∈ lw_g := tbm1 142 rfl rfl
theorem sl_TL_tell : Cond.selects RTL y_TL_tell y_TL_tell ∈ lw_g := tbm1 143 rfl rfl
theorem ml_TL_85 : Cond.methodLink RTL 85 y_TL_forget ∈ lw_g := tbm1 145 rfl rfl
theorem ml_TL_86 : Cond.methodLink RTL 86 y_TL_tellSteps ∈ lw_g := tbm1 146 rfl rfl
theorem im_TL_tellSteps : Cond.instanceMethod y_TL_tellSteps ∈ lw_g := tbm1 148 rfl rfl
theorem ml_TL_98 : Cond.methodLink RTL 98 y_RW_amountOfKinds ∈ lw_g := tbm1 150 rfl rfl
theorem ml_TL_103 : Cond.methodLink RTL 103 y_IL_fill ∈ lw_g := tbm1 151 rfl rfl
theorem im_IL_fill : Cond.instanceMethod y_IL_fill ∈ lw_g := tbm1 152 rfl rfl
theorem sl_IL_fill : Cond.selects RIL y_IL_fill y_IL_fill ∈ lw_g := tbm1 153 rfl rfl
theorem ml_IL_25 : Cond.methodLink RIL 25 y_IL_add ∈ lw_g := tbm1 155 rfl rfl
theorem ml_TL_107 : Cond.methodLink RTL 107 y_TL_opn ∈ lw_g := tbm1 156 rfl rfl
theorem im_TL_opn : Cond.instanceMethod y_TL_opn ∈ lw_g := tbm1 158 rfl rfl
theorem ml_TL_133 : Cond.methodLink RTL 133 y_IL_add ∈ lw_g := tbm1 160 rfl rfl
theorem ml_TL_71 : Cond.methodLink RTL 71 y_IL_length ∈ lw_g := tbm1 162 rfl rfl
theorem ml_TL_78 : Cond.methodLink RTL 78 y_IL_at ∈ lw_g := tbm1 163 rfl rfl
theorem ml_TL_111 : Cond.methodLink RTL 111 y_RW_amountOfParts ∈ lw_g := tbm1 164 rfl rfl
theorem ml_TL_114 : Cond.methodLink RTL 114 y_IL_put ∈ lw_g := tbm1 165 rfl rfl
theorem ml_TL_117 : Cond.methodLink RTL 117 y_RW_part ∈ lw_g := tbm1 166 rfl rfl
theorem ml_TL_121 : Cond.methodLink RTL 121 y_TL_tellPart ∈ lw_g := tbm1 167 rfl rfl
theorem im_TL_tellPart : Cond.instanceMethod y_TL_tellPart ∈ lw_g := tbm1 169 rfl rfl
theorem ml_TL_124 : Cond.methodLink RTL 124 y_RW_kindOf ∈ lw_g := tbm1 171 rfl rfl
theorem ml_TL_130 : Cond.methodLink RTL 130 y_TL_addStep ∈ lw_g := tbm1 172 rfl rfl
theorem im_TL_addStep : Cond.instanceMethod y_TL_addStep ∈ lw_g := tbm1 174 rfl rfl
theorem ml_TL_127 : Cond.methodLink RTL 127 y_RW_statementOf ∈ lw_g := tbm1 176 rfl rfl
theorem ml_TL_89 : Cond.methodLink RTL 89 y_TL_numberSavedRows ∈ lw_g := tbm1 177 rfl rfl
theorem im_TL_numberSavedRows : Cond.instanceMethod y_TL_numberSavedRows ∈ lw_g := tbm1 179 rfl rfl
theorem ml_TL_136 : Cond.methodLink RTL 136 y_TL_isSavedAt ∈ lw_g := tbm1 181 rfl rfl
theorem im_TL_isSavedAt : Cond.instanceMethod y_TL_isSavedAt ∈ lw_g := tbm1 182 rfl rfl
theorem sl_TL_isSavedAt : Cond.selects RTL y_TL_isSavedAt y_TL_isSavedAt ∈ lw_g := tbm1 183 rfl rfl
theorem ml_TL_92 : Cond.methodLink RTL 92 y_TL_numberStatements ∈ lw_g := tbm1 185 rfl rfl
theorem im_TL_numberStatements : Cond.instanceMethod y_TL_numberStatements ∈ lw_g := tbm1 187 rfl rfl
theorem ml_TL_140 : Cond.methodLink RTL 140 y_ST_amount ∈ lw_g := tbm1 189 rfl rfl
theorem ml_TL_143 : Cond.methodLink RTL 143 y_TL_numberOfNew ∈ lw_g := tbm1 190 rfl rfl
theorem im_TL_numberOfNew : Cond.instanceMethod y_TL_numberOfNew ∈ lw_g := tbm1 192 rfl rfl
theorem ml_TL_146 : Cond.methodLink RTL 146 y_ST_isMandatory ∈ lw_g := tbm1 194 rfl rfl
theorem ml_TL_149 : Cond.methodLink RTL 149 y_ST_placeOf ∈ lw_g := tbm1 195 rfl rfl
theorem im_ST_placeOf : Cond.instanceMethod y_ST_placeOf ∈ lw_g := tbm1 196 rfl rfl
theorem sl_ST_placeOf : Cond.selects RST y_ST_placeOf y_ST_placeOf ∈ lw_g := tbm1 197 rfl rfl
theorem ml_TL_152 : Cond.methodLink RTL 152 y_ST_mandatories ∈ lw_g := tbm1 199 rfl rfl
theorem ml_TL_95 : Cond.methodLink RTL 95 y_TL_tellLetters ∈ lw_g := tbm1 200 rfl rfl
theorem im_TL_tellLetters : Cond.instanceMethod y_TL_tellLetters ∈ lw_g := tbm1 202 rfl rfl
theorem ml_TL_155 : Cond.methodLink RTL 155 y_LL_addNumber ∈ lw_g := tbm1 204 rfl rfl
theorem im_LL_addNumber : Cond.instanceMethod y_LL_addNumber ∈ lw_g := tbm1 205 rfl rfl
theorem sl_LL_addNumber : Cond.selects RLL y_LL_addNumber y_LL_addNumber ∈ lw_g := tbm1 206 rfl rfl
theorem ml_LL_20 : Cond.methodLink RLL 20 y_IL_length ∈ lw_g := tbm1 208 rfl rfl
theorem ml_LL_28 : Cond.methodLink RLL 28 y_IL_add ∈ lw_g := tbm1 209 rfl rfl
theorem ml_LL_31 : Cond.methodLink RLL 31 y_IL_turnRound ∈ lw_g := tbm1 210 rfl rfl
theorem im_IL_turnRound : Cond.instanceMethod y_IL_turnRound ∈ lw_g := tbm1 211 rfl rfl
theorem sl_IL_turnRound : Cond.selects RIL y_IL_turnRound y_IL_turnRound ∈ lw_g := tbm1 212 rfl rfl
theorem ml_IL_29 : Cond.methodLink RIL 29 y_IL_at ∈ lw_g := tbm1 214 rfl rfl
theorem ml_IL_33 : Cond.methodLink RIL 33 y_IL_put ∈ lw_g := tbm1 215 rfl rfl
theorem ml_TL_158 : Cond.methodLink RTL 158 y_LL_addMark ∈ lw_g := tbm1 216 rfl rfl
theorem im_LL_addMark : Cond.instanceMethod y_LL_addMark ∈ lw_g := tbm1 217 rfl rfl
theorem sl_LL_addMark : Cond.selects RLL y_LL_addMark y_LL_addMark ∈ lw_g := tbm1 218 rfl rfl
theorem ml_PP_108 : Cond.methodLink RPP 108 y_TL_amountOfSteps ∈ lw_g := tbm1 220 rfl rfl
theorem im_TL_amountOfSteps : Cond.instanceMethod y_TL_amountOfSteps ∈ lw_g := tbm1 221 rfl rfl
theorem sl_TL_amountOfSteps : Cond.selects RTL y_TL_amountOfSteps y_TL_amountOfSteps ∈ lw_g := tbm1 222 rfl rfl
theorem ml_LW_56 : Cond.methodLink RLW 56 y_PP_step ∈ lw_g := tbm1 224 rfl rfl
theorem im_PP_step : Cond.instanceMethod y_PP_step ∈ lw_g := tbm1 225 rfl rfl
theorem sl_PP_step : Cond.selects RPP y_PP_step y_PP_step ∈ lw_g := tbm1 226 rfl rfl
theorem ml_PP_111 : Cond.methodLink RPP 111 y_TL_stepAt ∈ lw_g := tbm1 228 rfl rfl
theorem im_TL_stepAt : Cond.instanceMethod y_TL_stepAt ∈ lw_g := tbm1 229 rfl rfl
theorem sl_TL_stepAt : Cond.selects RTL y_TL_stepAt y_TL_stepAt ∈ lw_g := tbm1 230 rfl rfl
theorem ml_LW_60 : Cond.methodLink RLW 60 y_PP_saves ∈ lw_g := tbm1 232 rfl rfl
theorem im_PP_saves : Cond.instanceMethod y_PP_saves ∈ lw_g := tbm1 233 rfl rfl
theorem sl_PP_saves : Cond.selects RPP y_PP_saves y_PP_saves ∈ lw_g := tbm1 234 rfl rfl
theorem ml_PP_114 : Cond.methodLink RPP 114 y_TL_isSavedAt ∈ lw_g := tbm1 236 rfl rfl
theorem ml_LW_64 : Cond.methodLink RLW 64 y_PP_label ∈ lw_g := tbm1 237 rfl rfl
theorem im_PP_label : Cond.instanceMethod y_PP_label ∈ lw_g := tbm1 238 rfl rfl
theorem sl_PP_label : Cond.selects RPP y_PP_label y_PP_label ∈ lw_g := tbm1 239 rfl rfl
theorem ml_PP_117 : Cond.methodLink RPP 117 y_TL_labelAt ∈ lw_g := tbm2 1 rfl rfl
theorem im_TL_labelAt : Cond.instanceMethod y_TL_labelAt ∈ lw_g := tbm2 2 rfl rfl
theorem sl_TL_labelAt : Cond.selects RTL y_TL_labelAt y_TL_labelAt ∈ lw_g := tbm2 3 rfl rfl
theorem ml_LW_68 : Cond.methodLink RLW 68 y_PP_packed ∈ lw_g := tbm2 5 rfl rfl
theorem im_PP_packed : Cond.instanceMethod y_PP_packed ∈ lw_g := tbm2 6 rfl rfl
theorem sl_PP_packed : Cond.selects RPP y_PP_packed y_PP_packed ∈ lw_g := tbm2 7 rfl rfl
theorem ml_PP_120 : Cond.methodLink RPP 120 y_TL_amountOfLabels ∈ lw_g := tbm2 9 rfl rfl
theorem im_TL_amountOfLabels : Cond.instanceMethod y_TL_amountOfLabels ∈ lw_g := tbm2 10 rfl rfl
theorem sl_TL_amountOfLabels : Cond.selects RTL y_TL_amountOfLabels y_TL_amountOfLabels ∈ lw_g := tbm2 11 rfl rfl
theorem ml_PP_123 : Cond.methodLink RPP 123 y_TL_amountOfLetters ∈ lw_g := tbm2 13 rfl rfl
theorem im_TL_amountOfLetters : Cond.instanceMethod y_TL_amountOfLetters ∈ lw_g := tbm2 14 rfl rfl
theorem sl_TL_amountOfLetters : Cond.selects RTL y_TL_amountOfLetters y_TL_amountOfLetters ∈ lw_g := tbm2 15 rfl rfl
theorem ml_TL_75 : Cond.methodLink RTL 75 y_LL_amount ∈ lw_g := tbm2 17 rfl rfl
theorem im_LL_amount : Cond.instanceMethod y_LL_amount ∈ lw_g := tbm2 18 rfl rfl
theorem sl_LL_amount : Cond.selects RLL y_LL_amount y_LL_amount ∈ lw_g := tbm2 19 rfl rfl
theorem ml_PP_126 : Cond.methodLink RPP 126 y_TL_amountOfSaved ∈ lw_g := tbm2 21 rfl rfl
theorem im_TL_amountOfSaved : Cond.instanceMethod y_TL_amountOfSaved ∈ lw_g := tbm2 22 rfl rfl
theorem sl_TL_amountOfSaved : Cond.selects RTL y_TL_amountOfSaved y_TL_amountOfSaved ∈ lw_g := tbm2 23 rfl rfl
theorem ml_LW_72 : Cond.methodLink RLW 72 y_PP_letter ∈ lw_g := tbm2 25 rfl rfl
theorem im_PP_letter : Cond.instanceMethod y_PP_letter ∈ lw_g := tbm2 26 rfl rfl
theorem sl_PP_letter : Cond.selects RPP y_PP_letter y_PP_letter ∈ lw_g := tbm2 27 rfl rfl
theorem ml_PP_129 : Cond.methodLink RPP 129 y_TL_letterAt ∈ lw_g := tbm2 29 rfl rfl
theorem im_TL_letterAt : Cond.instanceMethod y_TL_letterAt ∈ lw_g := tbm2 30 rfl rfl
theorem sl_TL_letterAt : Cond.selects RTL y_TL_letterAt y_TL_letterAt ∈ lw_g := tbm2 31 rfl rfl
theorem ml_TL_82 : Cond.methodLink RTL 82 y_LL_letterAt ∈ lw_g := tbm2 33 rfl rfl
theorem im_LL_letterAt : Cond.instanceMethod y_LL_letterAt ∈ lw_g := tbm2 34 rfl rfl
theorem sl_LL_letterAt : Cond.selects RLL y_LL_letterAt y_LL_letterAt ∈ lw_g := tbm2 35 rfl rfl
theorem ml_LL_24 : Cond.methodLink RLL 24 y_IL_at ∈ lw_g := tbm2 37 rfl rfl
theorem ml_LW_76 : Cond.methodLink RLW 76 y_PP_size ∈ lw_g := tbm2 38 rfl rfl
theorem im_PP_size : Cond.instanceMethod y_PP_size ∈ lw_g := tbm2 39 rfl rfl
theorem sl_PP_size : Cond.selects RPP y_PP_size y_PP_size ∈ lw_g := tbm2 40 rfl rfl
theorem ml_PP_134 : Cond.methodLink RPP 134 y_RW_stepsInFull ∈ lw_g := tbm2 43 rfl rfl
theorem ml_LW_81 : Cond.methodLink RLW 81 y_PP_full ∈ lw_g := tbm2 46 rfl rfl
theorem im_PP_full : Cond.instanceMethod y_PP_full ∈ lw_g := tbm2 47 rfl rfl
theorem sl_PP_full : Cond.selects RPP y_PP_full y_PP_full ∈ lw_g := tbm2 48 rfl rfl
theorem ml_PP_144 : Cond.methodLink RPP 144 y_RW_statementInFull ∈ lw_g := tbm2 51 rfl rfl
theorem im_RW_statementInFull : Cond.instanceMethod y_RW_statementInFull ∈ lw_g := tbm2 52 rfl rfl
theorem sl_RW_statementInFull : Cond.selects RRW y_RW_statementInFull y_RW_statementInFull ∈ lw_g := tbm2 53 rfl rfl
theorem ml_LW_85 : Cond.methodLink RLW 85 y_PP_check ∈ lw_g := tbm2 55 rfl rfl
theorem im_PP_check : Cond.instanceMethod y_PP_check ∈ lw_g := tbm2 56 rfl rfl
theorem sl_PP_check : Cond.selects RPP y_PP_check y_PP_check ∈ lw_g := tbm2 57 rfl rfl
theorem ml_PP_147 : Cond.methodLink RPP 147 y_TL_makesItsRow ∈ lw_g := tbm2 59 rfl rfl
theorem im_TL_makesItsRow : Cond.instanceMethod y_TL_makesItsRow ∈ lw_g := tbm2 60 rfl rfl
theorem sl_TL_makesItsRow : Cond.selects RTL y_TL_makesItsRow y_TL_makesItsRow ∈ lw_g := tbm2 61 rfl rfl
theorem ml_TL_161 : Cond.methodLink RTL 161 y_TL_rowsTakenAt ∈ lw_g := tbm2 63 rfl rfl
theorem im_TL_rowsTakenAt : Cond.instanceMethod y_TL_rowsTakenAt ∈ lw_g := tbm2 65 rfl rfl
theorem ml_TL_167 : Cond.methodLink RTL 167 y_ST_taking ∈ lw_g := tbm2 67 rfl rfl
theorem ml_TL_164 : Cond.methodLink RTL 164 y_TL_kindMadeAt ∈ lw_g := tbm2 68 rfl rfl
theorem im_TL_kindMadeAt : Cond.instanceMethod y_TL_kindMadeAt ∈ lw_g := tbm2 70 rfl rfl
theorem ml_TL_170 : Cond.methodLink RTL 170 y_RW_kindMadeOf ∈ lw_g := tbm2 72 rfl rfl
theorem ml_LW_12 : Cond.methodLink RLW 12 y_MD_init ∈ lw_g := tbm2 75 rfl rfl
theorem im_MD_init : Cond.instanceMethod y_MD_init ∈ lw_g := tbm2 76 rfl rfl
theorem ml_MD_1 : Cond.methodLink RMD 1 objectInit ∈ lw_g := tbm2 78 rfl rfl
theorem ml_LW_17 : Cond.methodLink RLW 17 y_MD_statement ∈ lw_g := tbm2 166 rfl rfl
theorem im_MD_statement : Cond.instanceMethod y_MD_statement ∈ lw_g := tbm2 167 rfl rfl
theorem sl_MD_statement : Cond.selects RMD y_MD_statement y_MD_statement ∈ lw_g := tbm2 168 rfl rfl
theorem ml_LW_21 : Cond.methodLink RLW 21 y_MD_mandatory ∈ lw_g := tbm2 170 rfl rfl
theorem im_MD_mandatory : Cond.instanceMethod y_MD_mandatory ∈ lw_g := tbm2 171 rfl rfl
theorem sl_MD_mandatory : Cond.selects RMD y_MD_mandatory y_MD_mandatory ∈ lw_g := tbm2 172 rfl rfl
theorem ml_MD_74 : Cond.methodLink RMD 74 y_MD_isStatement ∈ lw_g := tbm2 174 rfl rfl
theorem im_MD_isStatement : Cond.instanceMethod y_MD_isStatement ∈ lw_g := tbm2 176 rfl rfl
theorem ml_MD_78 : Cond.methodLink RMD 78 y_MD_mandatoryOf ∈ lw_g := tbm2 178 rfl rfl
theorem im_MD_mandatoryOf : Cond.instanceMethod y_MD_mandatoryOf ∈ lw_g := tbm2 180 rfl rfl
theorem ml_LW_25 : Cond.methodLink RLW 25 y_MD_make ∈ lw_g := tbm2 182 rfl rfl
theorem im_MD_make : Cond.instanceMethod y_MD_make ∈ lw_g := tbm2 183 rfl rfl
theorem sl_MD_make : Cond.selects RMD y_MD_make y_MD_make ∈ lw_g := tbm2 184 rfl rfl
theorem ml_MD_102 : Cond.methodLink RMD 102 y_MD_findSame ∈ lw_g := tbm2 186 rfl rfl
theorem im_MD_findSame : Cond.instanceMethod y_MD_findSame ∈ lw_g := tbm2 188 rfl rfl
theorem ml_MD_82 : Cond.methodLink RMD 82 y_MD_isAlike ∈ lw_g := tbm2 190 rfl rfl
theorem im_MD_isAlike : Cond.instanceMethod y_MD_isAlike ∈ lw_g := tbm2 192 rfl rfl
theorem ml_MD_106 : Cond.methodLink RMD 106 y_MD_findSize ∈ lw_g := tbm2 194 rfl rfl
theorem im_MD_findSize : Cond.instanceMethod y_MD_findSize ∈ lw_g := tbm2 196 rfl rfl
theorem ml_LW_29 : Cond.methodLink RLW 29 y_MD_again ∈ lw_g := tbm2 200 rfl rfl
theorem im_MD_again : Cond.instanceMethod y_MD_again ∈ lw_g := tbm2 201 rfl rfl
theorem sl_MD_again : Cond.selects RMD y_MD_again y_MD_again ∈ lw_g := tbm2 202 rfl rfl
theorem ml_MD_109 : Cond.methodLink RMD 109 y_MD_isRow ∈ lw_g := tbm2 204 rfl rfl
theorem im_MD_isRow : Cond.instanceMethod y_MD_isRow ∈ lw_g := tbm2 206 rfl rfl
theorem ml_LW_34 : Cond.methodLink RLW 34 y_MD_clear ∈ lw_g := tbm2 208 rfl rfl
theorem im_MD_clear : Cond.instanceMethod y_MD_clear ∈ lw_g := tbm2 209 rfl rfl
theorem sl_MD_clear : Cond.selects RMD y_MD_clear y_MD_clear ∈ lw_g := tbm2 210 rfl rfl
theorem ml_LW_38 : Cond.methodLink RLW 38 y_MD_count ∈ lw_g := tbm2 212 rfl rfl
theorem im_MD_count : Cond.instanceMethod y_MD_count ∈ lw_g := tbm2 213 rfl rfl
theorem sl_MD_count : Cond.selects RMD y_MD_count y_MD_count ∈ lw_g := tbm2 214 rfl rfl
theorem ml_LW_42 : Cond.methodLink RLW 42 y_MD_row ∈ lw_g := tbm2 216 rfl rfl
theorem im_MD_row : Cond.instanceMethod y_MD_row ∈ lw_g := tbm2 217 rfl rfl
theorem sl_MD_row : Cond.selects RMD y_MD_row y_MD_row ∈ lw_g := tbm2 218 rfl rfl
theorem ml_LW_47 : Cond.methodLink RLW 47 y_MD_frm ∈ lw_g := tbm2 220 rfl rfl
theorem im_MD_frm : Cond.instanceMethod y_MD_frm ∈ lw_g := tbm2 221 rfl rfl
theorem sl_MD_frm : Cond.selects RMD y_MD_frm y_MD_frm ∈ lw_g := tbm2 222 rfl rfl
theorem ml_LW_51 : Cond.methodLink RLW 51 y_MD_same ∈ lw_g := tbm2 224 rfl rfl
theorem im_MD_same : Cond.instanceMethod y_MD_same ∈ lw_g := tbm2 225 rfl rfl
theorem sl_MD_same : Cond.selects RMD y_MD_same y_MD_same ∈ lw_g := tbm2 226 rfl rfl
theorem ml_LW_55 : Cond.methodLink RLW 55 y_MD_pack ∈ lw_g := tbm2 228 rfl rfl
theorem im_MD_pack : Cond.instanceMethod y_MD_pack ∈ lw_g := tbm2 229 rfl rfl
theorem sl_MD_pack : Cond.selects RMD y_MD_pack y_MD_pack ∈ lw_g := tbm2 230 rfl rfl
theorem ml_MD_138 : Cond.methodLink RMD 138 y_MD_tellAll ∈ lw_g := tbm2 232 rfl rfl
theorem im_MD_tellAll : Cond.instanceMethod y_MD_tellAll ∈ lw_g := tbm2 234 rfl rfl
theorem ml_MD_124 : Cond.methodLink RMD 124 y_MD_tell ∈ lw_g := tbm2 236 rfl rfl
theorem im_MD_tell : Cond.instanceMethod y_MD_tell ∈ lw_g := tbm2 238 rfl rfl
theorem ml_MD_141 : Cond.methodLink RMD 141 y_MD_numberSaved ∈ lw_g := tbm3 0 rfl rfl
theorem im_MD_numberSaved : Cond.instanceMethod y_MD_numberSaved ∈ lw_g := tbm3 2 rfl rfl
theorem ml_MD_144 : Cond.methodLink RMD 144 y_MD_findLabels ∈ lw_g := tbm3 4 rfl rfl
theorem im_MD_findLabels : Cond.instanceMethod y_MD_findLabels ∈ lw_g := tbm3 6 rfl rfl
theorem ml_MD_128 : Cond.methodLink RMD 128 y_MD_labelOf ∈ lw_g := tbm3 8 rfl rfl
theorem im_MD_labelOf : Cond.instanceMethod y_MD_labelOf ∈ lw_g := tbm3 10 rfl rfl
theorem ml_MD_147 : Cond.methodLink RMD 147 y_MD_layLetters ∈ lw_g := tbm3 12 rfl rfl
theorem im_MD_layLetters : Cond.instanceMethod y_MD_layLetters ∈ lw_g := tbm3 14 rfl rfl
theorem ml_MD_135 : Cond.methodLink RMD 135 y_MD_layNumber ∈ lw_g := tbm3 16 rfl rfl
theorem im_MD_layNumber : Cond.instanceMethod y_MD_layNumber ∈ lw_g := tbm3 18 rfl rfl
theorem ml_MD_131 : Cond.methodLink RMD 131 y_MD_putLetter ∈ lw_g := tbm3 20 rfl rfl
theorem im_MD_putLetter : Cond.instanceMethod y_MD_putLetter ∈ lw_g := tbm3 22 rfl rfl
theorem ml_LW_59 : Cond.methodLink RLW 59 y_MD_step ∈ lw_g := tbm3 24 rfl rfl
theorem im_MD_step : Cond.instanceMethod y_MD_step ∈ lw_g := tbm3 25 rfl rfl
theorem sl_MD_step : Cond.selects RMD y_MD_step y_MD_step ∈ lw_g := tbm3 26 rfl rfl
theorem ml_LW_63 : Cond.methodLink RLW 63 y_MD_saves ∈ lw_g := tbm3 28 rfl rfl
theorem im_MD_saves : Cond.instanceMethod y_MD_saves ∈ lw_g := tbm3 29 rfl rfl
theorem sl_MD_saves : Cond.selects RMD y_MD_saves y_MD_saves ∈ lw_g := tbm3 30 rfl rfl
theorem ml_LW_67 : Cond.methodLink RLW 67 y_MD_label ∈ lw_g := tbm3 32 rfl rfl
theorem im_MD_label : Cond.instanceMethod y_MD_label ∈ lw_g := tbm3 33 rfl rfl
theorem sl_MD_label : Cond.selects RMD y_MD_label y_MD_label ∈ lw_g := tbm3 34 rfl rfl
theorem ml_LW_71 : Cond.methodLink RLW 71 y_MD_packed ∈ lw_g := tbm3 36 rfl rfl
theorem im_MD_packed : Cond.instanceMethod y_MD_packed ∈ lw_g := tbm3 37 rfl rfl
theorem sl_MD_packed : Cond.selects RMD y_MD_packed y_MD_packed ∈ lw_g := tbm3 38 rfl rfl
theorem ml_LW_75 : Cond.methodLink RLW 75 y_MD_letter ∈ lw_g := tbm3 40 rfl rfl
theorem im_MD_letter : Cond.instanceMethod y_MD_letter ∈ lw_g := tbm3 41 rfl rfl
theorem sl_MD_letter : Cond.selects RMD y_MD_letter y_MD_letter ∈ lw_g := tbm3 42 rfl rfl
theorem ml_LW_80 : Cond.methodLink RLW 80 y_MD_size ∈ lw_g := tbm3 44 rfl rfl
theorem im_MD_size : Cond.instanceMethod y_MD_size ∈ lw_g := tbm3 45 rfl rfl
theorem sl_MD_size : Cond.selects RMD y_MD_size y_MD_size ∈ lw_g := tbm3 46 rfl rfl
theorem ml_LW_84 : Cond.methodLink RLW 84 y_MD_full ∈ lw_g := tbm3 50 rfl rfl
theorem im_MD_full : Cond.instanceMethod y_MD_full ∈ lw_g := tbm3 51 rfl rfl
theorem sl_MD_full : Cond.selects RMD y_MD_full y_MD_full ∈ lw_g := tbm3 52 rfl rfl
theorem ml_LW_88 : Cond.methodLink RLW 88 y_MD_check ∈ lw_g := tbm3 55 rfl rfl
theorem im_MD_check : Cond.instanceMethod y_MD_check ∈ lw_g := tbm3 56 rfl rfl
theorem sl_MD_check : Cond.selects RMD y_MD_check y_MD_check ∈ lw_g := tbm3 57 rfl rfl
theorem sl_PP_mayPutOn : Cond.selects RPP y_PP_mayPutOn y_PP_mayPutOn ∈ lw_g := tbs 0 rfl rfl
theorem sl_RW_kindOfNewRow : Cond.selects RRW y_RW_kindOfNewRow y_RW_kindOfNewRow ∈ lw_g := tbs 1 rfl rfl
theorem sl_RW_bucketOf : Cond.selects RRW y_RW_bucketOf y_RW_bucketOf ∈ lw_g := tbs 2 rfl rfl
theorem sl_RW_isMadeOf : Cond.selects RRW y_RW_isMadeOf y_RW_isMadeOf ∈ lw_g := tbs 3 rfl rfl
theorem sl_RW_countSteps : Cond.selects RRW y_RW_countSteps y_RW_countSteps ∈ lw_g := tbs 4 rfl rfl
theorem sl_RW_keepSteps : Cond.selects RRW y_RW_keepSteps y_RW_keepSteps ∈ lw_g := tbs 5 rfl rfl
theorem sl_PP_putOn : Cond.selects RPP y_PP_putOn y_PP_putOn ∈ lw_g := tbs 6 rfl rfl
theorem sl_TL_tellSteps : Cond.selects RTL y_TL_tellSteps y_TL_tellSteps ∈ lw_g := tbs 7 rfl rfl
theorem sl_TL_opn : Cond.selects RTL y_TL_opn y_TL_opn ∈ lw_g := tbs 8 rfl rfl
theorem sl_TL_tellPart : Cond.selects RTL y_TL_tellPart y_TL_tellPart ∈ lw_g := tbs 9 rfl rfl
theorem sl_TL_addStep : Cond.selects RTL y_TL_addStep y_TL_addStep ∈ lw_g := tbs 10 rfl rfl
theorem sl_TL_numberSavedRows : Cond.selects RTL y_TL_numberSavedRows y_TL_numberSavedRows ∈ lw_g := tbs 11 rfl rfl
theorem sl_TL_numberStatements : Cond.selects RTL y_TL_numberStatements y_TL_numberStatements ∈ lw_g := tbs 12 rfl rfl
theorem sl_TL_numberOfNew : Cond.selects RTL y_TL_numberOfNew y_TL_numberOfNew ∈ lw_g := tbs 13 rfl rfl
theorem sl_TL_tellLetters : Cond.selects RTL y_TL_tellLetters y_TL_tellLetters ∈ lw_g := tbs 14 rfl rfl
theorem sl_TL_rowsTakenAt : Cond.selects RTL y_TL_rowsTakenAt y_TL_rowsTakenAt ∈ lw_g := tbs 15 rfl rfl
theorem sl_TL_kindMadeAt : Cond.selects RTL y_TL_kindMadeAt y_TL_kindMadeAt ∈ lw_g := tbs 16 rfl rfl
theorem sl_MD_isStatement : Cond.selects RMD y_MD_isStatement y_MD_isStatement ∈ lw_g := tbs 17 rfl rfl
theorem sl_MD_mandatoryOf : Cond.selects RMD y_MD_mandatoryOf y_MD_mandatoryOf ∈ lw_g := tbs 18 rfl rfl
theorem sl_MD_findSame : Cond.selects RMD y_MD_findSame y_MD_findSame ∈ lw_g := tbs 19 rfl rfl
theorem sl_MD_isAlike : Cond.selects RMD y_MD_isAlike y_MD_isAlike ∈ lw_g := tbs 20 rfl rfl
theorem sl_MD_findSize : Cond.selects RMD y_MD_findSize y_MD_findSize ∈ lw_g := tbs 21 rfl rfl
theorem sl_MD_isRow : Cond.selects RMD y_MD_isRow y_MD_isRow ∈ lw_g := tbs 22 rfl rfl
theorem sl_MD_tellAll : Cond.selects RMD y_MD_tellAll y_MD_tellAll ∈ lw_g := tbs 23 rfl rfl
theorem sl_MD_tell : Cond.selects RMD y_MD_tell y_MD_tell ∈ lw_g := tbs 24 rfl rfl
theorem sl_MD_numberSaved : Cond.selects RMD y_MD_numberSaved y_MD_numberSaved ∈ lw_g := tbs 25 rfl rfl
theorem sl_MD_findLabels : Cond.selects RMD y_MD_findLabels y_MD_findLabels ∈ lw_g := tbs 26 rfl rfl
theorem sl_MD_labelOf : Cond.selects RMD y_MD_labelOf y_MD_labelOf ∈ lw_g := tbs 27 rfl rfl
theorem sl_MD_layLetters : Cond.selects RMD y_MD_layLetters y_MD_layLetters ∈ lw_g := tbs 28 rfl rfl
theorem sl_MD_layNumber : Cond.selects RMD y_MD_layNumber y_MD_layNumber ∈ lw_g := tbs 29 rfl rfl
theorem sl_MD_putLetter : Cond.selects RMD y_MD_putLetter y_MD_putLetter ∈ lw_g := tbs 30 rfl rfl
end
section
theorem d_AR_fill_0 : decode b_AR_fill 0 = .ok (.iconst 0, 1) := by decide +kernel
theorem d_AR_fill_1 : decode b_AR_fill 1 = .ok (.istore_n 2, 1) := by decide +kernel
theorem d_AR_fill_2 : decode b_AR_fill 2 = .ok (.aload_n 0, 1) := by decide +kernel
theorem d_AR_fill_3 : decode b_AR_fill 3 = .ok (.arraylength, 1) := by decide +kernel
theorem d_AR_fill_4 : decode b_AR_fill 4 = .ok (.istore_n 3, 1) := by decide +kernel
theorem d_AR_fill_5 : decode b_AR_fill 5 = .ok (.iload_n 2, 1) := by decide +kernel
theorem d_AR_fill_6 : decode b_AR_fill 6 = .ok (.iload_n 3, 1) := by decide +kernel
theorem d_AR_fill_7 : decode b_AR_fill 7 = .ok (.if_icmp .ge 13, 3) := by decide +kernel
theorem d_AR_fill_10 : decode b_AR_fill 10 = .ok (.aload_n 0, 1) := by decide +kernel
theorem d_AR_fill_11 : decode b_AR_fill 11 = .ok (.iload_n 2, 1) := by decide +kernel
theorem d_AR_fill_12 : decode b_AR_fill 12 = .ok (.iload_n 1, 1) := by decide +kernel
theorem d_AR_fill_13 : decode b_AR_fill 13 = .ok (.iastore, 1) := by decide +kernel
theorem d_AR_fill_14 : decode b_AR_fill 14 = .ok (.iinc 2 1, 3) := by decide +kernel
theorem d_AR_fill_17 : decode b_AR_fill 17 = .ok (.goto (-12), 3) := by decide +kernel
theorem d_AR_fill_20 : decode b_AR_fill 20 = .ok (.return_, 1) := by decide +kernel
theorem d_AR_copyI_0 : decode b_AR_copyI 0 = .ok (.iload_n 1, 1) := by decide +kernel
theorem d_AR_copyI_1 : decode b_AR_copyI 1 = .ok (.aload_n 0, 1) := by decide +kernel
theorem d_AR_copyI_2 : decode b_AR_copyI 2 = .ok (.arraylength, 1) := by decide +kernel
theorem d_AR_copyI_3 : decode b_AR_copyI 3 = .ok (.if_icmp .ne 11, 3) := by decide +kernel
theorem d_AR_copyI_14 : decode b_AR_copyI 14 = .ok (.iload_n 1, 1) := by decide +kernel
theorem d_AR_copyI_15 : decode b_AR_copyI 15 = .ok (.newarray .int, 2) := by decide +kernel
theorem d_AR_copyI_17 : decode b_AR_copyI 17 = .ok (.astore_n 2, 1) := by decide +kernel
theorem d_AR_copyI_18 : decode b_AR_copyI 18 = .ok (.aload_n 0, 1) := by decide +kernel
theorem d_AR_copyI_19 : decode b_AR_copyI 19 = .ok (.iconst 0, 1) := by decide +kernel
theorem d_AR_copyI_20 : decode b_AR_copyI 20 = .ok (.aload_n 2, 1) := by decide +kernel
theorem d_AR_copyI_21 : decode b_AR_copyI 21 = .ok (.iconst 0, 1) := by decide +kernel
theorem d_AR_copyI_22 : decode b_AR_copyI 22 = .ok (.aload_n 0, 1) := by decide +kernel
theorem d_AR_copyI_23 : decode b_AR_copyI 23 = .ok (.arraylength, 1) := by decide +kernel
theorem d_AR_copyI_24 : decode b_AR_copyI 24 = .ok (.iload_n 1, 1) := by decide +kernel
theorem d_AR_copyI_25 : decode b_AR_copyI 25 = .ok (.invokestatic 304, 3) := by decide +kernel
theorem d_AR_copyI_28 : decode b_AR_copyI 28 = .ok (.invokestatic 150, 3) := by decide +kernel
theorem d_AR_copyI_31 : decode b_AR_copyI 31 = .ok (.aload_n 2, 1) := by decide +kernel
theorem d_AR_copyI_32 : decode b_AR_copyI 32 = .ok (.areturn, 1) := by decide +kernel
theorem d_AR_copyJ_0 : decode b_AR_copyJ 0 = .ok (.iload_n 1, 1) := by decide +kernel
theorem d_AR_copyJ_1 : decode b_AR_copyJ 1 = .ok (.aload_n 0, 1) := by decide +kernel
theorem d_AR_copyJ_2 : decode b_AR_copyJ 2 = .ok (.arraylength, 1) := by decide +kernel
theorem d_AR_copyJ_3 : decode b_AR_copyJ 3 = .ok (.if_icmp .ne 11, 3) := by decide +kernel
theorem d_AR_copyJ_14 : decode b_AR_copyJ 14 = .ok (.iload_n 1, 1) := by decide +kernel
theorem d_AR_copyJ_15 : decode b_AR_copyJ 15 = .ok (.newarray .long, 2) := by decide +kernel
theorem d_AR_copyJ_17 : decode b_AR_copyJ 17 = .ok (.astore_n 2, 1) := by decide +kernel
theorem d_AR_copyJ_18 : decode b_AR_copyJ 18 = .ok (.aload_n 0, 1) := by decide +kernel
theorem d_AR_copyJ_19 : decode b_AR_copyJ 19 = .ok (.iconst 0, 1) := by decide +kernel
theorem d_AR_copyJ_20 : decode b_AR_copyJ 20 = .ok (.aload_n 2, 1) := by decide +kernel
theorem d_AR_copyJ_21 : decode b_AR_copyJ 21 = .ok (.iconst 0, 1) := by decide +kernel
theorem d_AR_copyJ_22 : decode b_AR_copyJ 22 = .ok (.aload_n 0, 1) := by decide +kernel
theorem d_AR_copyJ_23 : decode b_AR_copyJ 23 = .ok (.arraylength, 1) := by decide +kernel
theorem d_AR_copyJ_24 : decode b_AR_copyJ 24 = .ok (.iload_n 1, 1) := by decide +kernel
theorem d_AR_copyJ_25 : decode b_AR_copyJ 25 = .ok (.invokestatic 304, 3) := by decide +kernel
theorem d_AR_copyJ_28 : decode b_AR_copyJ 28 = .ok (.invokestatic 150, 3) := by decide +kernel
theorem d_AR_copyJ_31 : decode b_AR_copyJ 31 = .ok (.aload_n 2, 1) := by decide +kernel
theorem d_AR_copyJ_32 : decode b_AR_copyJ 32 = .ok (.areturn, 1) := by decide +kernel
theorem d_IL_init_0 : decode b_IL_init 0 = .ok (.aload_n 0, 1) := by decide +kernel
theorem d_IL_init_1 : decode b_IL_init 1 = .ok (.invokespecial 3, 3) := by decide +kernel
theorem d_IL_init_4 : decode b_IL_init 4 = .ok (.aload_n 0, 1) := by decide +kernel
theorem d_IL_init_5 : decode b_IL_init 5 = .ok (.bipush 16, 2) := by decide +kernel
theorem d_IL_init_7 : decode b_IL_init 7 = .ok (.newarray .int, 2) := by decide +kernel
theorem d_IL_init_9 : decode b_IL_init 9 = .ok (.putfield 11, 3) := by decide +kernel
theorem d_IL_init_12 : decode b_IL_init 12 = .ok (.aload_n 0, 1) := by decide +kernel
theorem d_IL_init_13 : decode b_IL_init 13 = .ok (.iconst 0, 1) := by decide +kernel
theorem d_IL_init_14 : decode b_IL_init 14 = .ok (.putfield 15, 3) := by decide +kernel
theorem d_IL_init_17 : decode b_IL_init 17 = .ok (.return_, 1) := by decide +kernel
theorem d_IL_length_0 : decode b_IL_length 0 = .ok (.aload_n 0, 1) := by decide +kernel
theorem d_IL_length_1 : decode b_IL_length 1 = .ok (.getfield 15, 3) := by decide +kernel
theorem d_IL_length_4 : decode b_IL_length 4 = .ok (.ireturn, 1) := by decide +kernel
theorem d_IL_at_0 : decode b_IL_at 0 = .ok (.iload_n 1, 1) := by decide +kernel
theorem d_IL_at_1 : decode b_IL_at 1 = .ok (.ifCond .lt 20, 3) := by decide +kernel
theorem d_IL_at_4 : decode b_IL_at 4 = .ok (.iload_n 1, 1) := by decide +kernel
theorem d_IL_at_5 : decode b_IL_at 5 = .ok (.aload_n 0, 1) := by decide +kernel
theorem d_IL_at_6 : decode b_IL_at 6 = .ok (.getfield 15, 3) := by decide +kernel
theorem d_IL_at_9 : decode b_IL_at 9 = .ok (.if_icmp .ge 12, 3) := by decide +kernel
theorem d_IL_at_12 : decode b_IL_at 12 = .ok (.aload_n 0, 1) := by decide +kernel
theorem d_IL_at_13 : decode b_IL_at 13 = .ok (.getfield 11, 3) := by decide +kernel
theorem d_IL_at_16 : decode b_IL_at 16 = .ok (.iload_n 1, 1) := by decide +kernel
theorem d_IL_at_17 : decode b_IL_at 17 = .ok (.iaload, 1) := by decide +kernel
theorem d_IL_at_18 : decode b_IL_at 18 = .ok (.goto 4, 3) := by decide +kernel
theorem d_IL_at_21 : decode b_IL_at 21 = .ok (.iconst (-1), 1) := by decide +kernel
theorem d_IL_at_22 : decode b_IL_at 22 = .ok (.ireturn, 1) := by decide +kernel
theorem d_IL_add_0 : decode b_IL_add 0 = .ok (.aload_n 0, 1) := by decide +kernel
theorem d_IL_add_1 : decode b_IL_add 1 = .ok (.getfield 15, 3) := by decide +kernel
theorem d_IL_add_4 : decode b_IL_add 4 = .ok (.aload_n 0, 1) := by decide +kernel
theorem d_IL_add_5 : decode b_IL_add 5 = .ok (.getfield 11, 3) := by decide +kernel
theorem d_IL_add_8 : decode b_IL_add 8 = .ok (.arraylength, 1) := by decide +kernel
theorem d_IL_add_9 : decode b_IL_add 9 = .ok (.if_icmp .lt 20, 3) := by decide +kernel
theorem d_IL_add_12 : decode b_IL_add 12 = .ok (.aload_n 0, 1) := by decide +kernel
theorem d_IL_add_13 : decode b_IL_add 13 = .ok (.aload_n 0, 1) := by decide +kernel
theorem d_IL_add_14 : decode b_IL_add 14 = .ok (.getfield 11, 3) := by decide +kernel
theorem d_IL_add_17 : decode b_IL_add 17 = .ok (.iconst 2, 1) := by decide +kernel
theorem d_IL_add_18 : decode b_IL_add 18 = .ok (.aload_n 0, 1) := by decide +kernel
theorem d_IL_add_19 : decode b_IL_add 19 = .ok (.getfield 15, 3) := by decide +kernel
theorem d_IL_add_22 : decode b_IL_add 22 = .ok (.imul, 1) := by decide +kernel
theorem d_IL_add_23 : decode b_IL_add 23 = .ok (.invokestatic 19, 3) := by decide +kernel
theorem d_IL_add_26 : decode b_IL_add 26 = .ok (.putfield 11, 3) := by decide +kernel
theorem d_IL_add_29 : decode b_IL_add 29 = .ok (.aload_n 0, 1) := by decide +kernel
theorem d_IL_add_30 : decode b_IL_add 30 = .ok (.getfield 11, 3) := by decide +kernel
theorem d_IL_add_33 : decode b_IL_add 33 = .ok (.aload_n 0, 1) := by decide +kernel
theorem d_IL_add_34 : decode b_IL_add 34 = .ok (.getfield 15, 3) := by decide +kernel
theorem d_IL_add_37 : decode b_IL_add 37 = .ok (.iload_n 1, 1) := by decide +kernel
theorem d_IL_add_38 : decode b_IL_add 38 = .ok (.iastore, 1) := by decide +kernel
theorem d_IL_add_39 : decode b_IL_add 39 = .ok (.aload_n 0, 1) := by decide +kernel
theorem d_IL_add_40 : decode b_IL_add 40 = .ok (.dup, 1) := by decide +kernel
theorem d_IL_add_41 : decode b_IL_add 41 = .ok (.getfield 15, 3) := by decide +kernel
theorem d_IL_add_44 : decode b_IL_add 44 = .ok (.iconst 1, 1) := by decide +kernel
theorem d_IL_add_45 : decode b_IL_add 45 = .ok (.iadd, 1) := by decide +kernel
theorem d_IL_add_46 : decode b_IL_add 46 = .ok (.putfield 15, 3) := by decide +kernel
theorem d_IL_add_49 : decode b_IL_add 49 = .ok (.return_, 1) := by decide +kernel
theorem d_IL_put_0 : decode b_IL_put 0 = .ok (.iload_n 1, 1) := by decide +kernel
theorem d_IL_put_1 : decode b_IL_put 1 = .ok (.ifCond .lt 18, 3) := by decide +kernel
theorem d_IL_put_4 : decode b_IL_put 4 = .ok (.iload_n 1, 1) := by decide +kernel
theorem d_IL_put_5 : decode b_IL_put 5 = .ok (.aload_n 0, 1) := by decide +kernel
theorem d_IL_put_6 : decode b_IL_put 6 = .ok (.getfield 15, 3) := by decide +kernel
theorem d_IL_put_9 : decode b_IL_put 9 = .ok (.if_icmp .ge 10, 3) := by decide +kernel
theorem d_IL_put_12 : decode b_IL_put 12 = .ok (.aload_n 0, 1) := by decide +kernel
theorem d_IL_put_13 : decode b_IL_put 13 = .ok (.getfield 11, 3) := by decide +kernel
theorem d_IL_put_16 : decode b_IL_put 16 = .ok (.iload_n 1, 1) := by decide +kernel
theorem d_IL_put_17 : decode b_IL_put 17 = .ok (.iload_n 2, 1) := by decide +kernel
theorem d_IL_put_18 : decode b_IL_put 18 = .ok (.iastore, 1) := by decide +kernel
theorem d_IL_put_19 : decode b_IL_put 19 = .ok (.return_, 1) := by decide +kernel
theorem d_IL_cut_0 : decode b_IL_cut 0 = .ok (.iload_n 1, 1) := by decide +kernel
theorem d_IL_cut_1 : decode b_IL_cut 1 = .ok (.ifCond .lt 16, 3) := by decide +kernel
theorem d_IL_cut_4 : decode b_IL_cut 4 = .ok (.iload_n 1, 1) := by decide +kernel
theorem d_IL_cut_5 : decode b_IL_cut 5 = .ok (.aload_n 0, 1) := by decide +kernel
theorem d_IL_cut_6 : decode b_IL_cut 6 = .ok (.getfield 15, 3) := by decide +kernel
theorem d_IL_cut_9 : decode b_IL_cut 9 = .ok (.if_icmp .ge 8, 3) := by decide +kernel
theorem d_IL_cut_12 : decode b_IL_cut 12 = .ok (.aload_n 0, 1) := by decide +kernel
theorem d_IL_cut_13 : decode b_IL_cut 13 = .ok (.iload_n 1, 1) := by decide +kernel
theorem d_IL_cut_14 : decode b_IL_cut 14 = .ok (.putfield 15, 3) := by decide +kernel
theorem d_IL_cut_17 : decode b_IL_cut 17 = .ok (.return_, 1) := by decide +kernel
theorem d_IL_fill_0 : decode b_IL_fill 0 = .ok (.aload_n 0, 1) := by decide +kernel
theorem d_IL_fill_1 : decode b_IL_fill 1 = .ok (.iconst 0, 1) := by decide +kernel
theorem d_IL_fill_2 : decode b_IL_fill 2 = .ok (.putfield 15, 3) := by decide +kernel
theorem d_IL_fill_5 : decode b_IL_fill 5 = .ok (.iconst 0, 1) := by decide +kernel
theorem d_IL_fill_6 : decode b_IL_fill 6 = .ok (.istore_n 3, 1) := by decide +kernel
theorem d_IL_fill_7 : decode b_IL_fill 7 = .ok (.iload_n 3, 1) := by decide +kernel
theorem d_IL_fill_8 : decode b_IL_fill 8 = .ok (.iload_n 1, 1) := by decide +kernel
theorem d_IL_fill_9 : decode b_IL_fill 9 = .ok (.if_icmp .ge 14, 3) := by decide +kernel
theorem d_IL_fill_12 : decode b_IL_fill 12 = .ok (.aload_n 0, 1) := by decide +kernel
theorem d_IL_fill_13 : decode b_IL_fill 13 = .ok (.iload_n 2, 1) := by decide +kernel
theorem d_IL_fill_14 : decode b_IL_fill 14 = .ok (.invokevirtual 25, 3) := by decide +kernel
theorem d_IL_fill_17 : decode b_IL_fill 17 = .ok (.iinc 3 1, 3) := by decide +kernel
theorem d_IL_fill_20 : decode b_IL_fill 20 = .ok (.goto (-13), 3) := by decide +kernel
theorem d_IL_fill_23 : decode b_IL_fill 23 = .ok (.return_, 1) := by decide +kernel
theorem d_IL_turnRound_0 : decode b_IL_turnRound 0 = .ok (.iload_n 1, 1) := by decide +kernel
theorem d_IL_turnRound_1 : decode b_IL_turnRound 1 = .ok (.istore_n 2, 1) := by decide +kernel
theorem d_IL_turnRound_2 : decode b_IL_turnRound 2 = .ok (.aload_n 0, 1) := by decide +kernel
theorem d_IL_turnRound_3 : decode b_IL_turnRound 3 = .ok (.getfield 15, 3) := by decide +kernel
theorem d_IL_turnRound_6 : decode b_IL_turnRound 6 = .ok (.iconst 1, 1) := by decide +kernel
theorem d_IL_turnRound_7 : decode b_IL_turnRound 7 = .ok (.isub, 1) := by decide +kernel
theorem d_IL_turnRound_8 : decode b_IL_turnRound 8 = .ok (.istore_n 3, 1) := by decide +kernel
theorem d_IL_turnRound_9 : decode b_IL_turnRound 9 = .ok (.iload_n 2, 1) := by decide +kernel
theorem d_IL_turnRound_10 : decode b_IL_turnRound 10 = .ok (.iload_n 3, 1) := by decide +kernel
theorem d_IL_turnRound_11 : decode b_IL_turnRound 11 = .ok (.if_icmp .ge 36, 3) := by decide +kernel
theorem d_IL_turnRound_14 : decode b_IL_turnRound 14 = .ok (.aload_n 0, 1) := by decide +kernel
theorem d_IL_turnRound_15 : decode b_IL_turnRound 15 = .ok (.iload_n 2, 1) := by decide +kernel
theorem d_IL_turnRound_16 : decode b_IL_turnRound 16 = .ok (.invokevirtual 29, 3) := by decide +kernel
theorem d_IL_turnRound_19 : decode b_IL_turnRound 19 = .ok (.istore 4, 2) := by decide +kernel
theorem d_IL_turnRound_21 : decode b_IL_turnRound 21 = .ok (.aload_n 0, 1) := by decide +kernel
theorem d_IL_turnRound_22 : decode b_IL_turnRound 22 = .ok (.iload_n 2, 1) := by decide +kernel
theorem d_IL_turnRound_23 : decode b_IL_turnRound 23 = .ok (.aload_n 0, 1) := by decide +kernel
theorem d_IL_turnRound_24 : decode b_IL_turnRound 24 = .ok (.iload_n 3, 1) := by decide +kernel
theorem d_IL_turnRound_25 : decode b_IL_turnRound 25 = .ok (.invokevirtual 29, 3) := by decide +kernel
theorem d_IL_turnRound_28 : decode b_IL_turnRound 28 = .ok (.invokevirtual 33, 3) := by decide +kernel
theorem d_IL_turnRound_31 : decode b_IL_turnRound 31 = .ok (.aload_n 0, 1) := by decide +kernel
theorem d_IL_turnRound_32 : decode b_IL_turnRound 32 = .ok (.iload_n 3, 1) := by decide +kernel
theorem d_IL_turnRound_33 : decode b_IL_turnRound 33 = .ok (.iload 4, 2) := by decide +kernel
theorem d_IL_turnRound_35 : decode b_IL_turnRound 35 = .ok (.invokevirtual 33, 3) := by decide +kernel
theorem d_IL_turnRound_38 : decode b_IL_turnRound 38 = .ok (.iinc 2 1, 3) := by decide +kernel
theorem d_IL_turnRound_41 : decode b_IL_turnRound 41 = .ok (.iinc 3 (-1), 3) := by decide +kernel
theorem d_IL_turnRound_44 : decode b_IL_turnRound 44 = .ok (.goto (-35), 3) := by decide +kernel
theorem d_IL_turnRound_47 : decode b_IL_turnRound 47 = .ok (.return_, 1) := by decide +kernel
theorem d_LL_init_0 : decode b_LL_init 0 = .ok (.aload_n 0, 1) := by decide +kernel
theorem d_LL_init_1 : decode b_LL_init 1 = .ok (.invokespecial 1, 3) := by decide +kernel
theorem d_LL_init_4 : decode b_LL_init 4 = .ok (.aload_n 0, 1) := by decide +kernel
theorem d_LL_init_5 : decode b_LL_init 5 = .ok (.new 7, 3) := by decide +kernel
theorem d_LL_init_8 : decode b_LL_init 8 = .ok (.dup, 1) := by decide +kernel
theorem d_LL_init_9 : decode b_LL_init 9 = .ok (.invokespecial 9, 3) := by decide +kernel
theorem d_LL_init_12 : decode b_LL_init 12 = .ok (.putfield 10, 3) := by decide +kernel
theorem d_LL_init_15 : decode b_LL_init 15 = .ok (.return_, 1) := by decide +kernel
theorem d_LL_forget_0 : decode b_LL_forget 0 = .ok (.aload_n 0, 1) := by decide +kernel
theorem d_LL_forget_1 : decode b_LL_forget 1 = .ok (.getfield 10, 3) := by decide +kernel
theorem d_LL_forget_4 : decode b_LL_forget 4 = .ok (.iconst 0, 1) := by decide +kernel
theorem d_LL_forget_5 : decode b_LL_forget 5 = .ok (.invokevirtual 16, 3) := by decide +kernel
theorem d_LL_forget_8 : decode b_LL_forget 8 = .ok (.return_, 1) := by decide +kernel
theorem d_LL_amount_0 : decode b_LL_amount 0 = .ok (.aload_n 0, 1) := by decide +kernel
theorem d_LL_amount_1 : decode b_LL_amount 1 = .ok (.getfield 10, 3) := by decide +kernel
theorem d_LL_amount_4 : decode b_LL_amount 4 = .ok (.invokevirtual 20, 3) := by decide +kernel
theorem d_LL_amount_7 : decode b_LL_amount 7 = .ok (.ireturn, 1) := by decide +kernel
theorem d_LL_letterAt_0 : decode b_LL_letterAt 0 = .ok (.aload_n 0, 1) := by decide +kernel
theorem d_LL_letterAt_1 : decode b_LL_letterAt 1 = .ok (.getfield 10, 3) := by decide +kernel
theorem d_LL_letterAt_4 : decode b_LL_letterAt 4 = .ok (.iload_n 1, 1) := by decide +kernel
theorem d_LL_letterAt_5 : decode b_LL_letterAt 5 = .ok (.invokevirtual 24, 3) := by decide +kernel
theorem d_LL_letterAt_8 : decode b_LL_letterAt 8 = .ok (.ireturn, 1) := by decide +kernel
theorem d_LL_addMark_0 : decode b_LL_addMark 0 = .ok (.aload_n 0, 1) := by decide +kernel
theorem d_LL_addMark_1 : decode b_LL_addMark 1 = .ok (.getfield 10, 3) := by decide +kernel
theorem d_LL_addMark_4 : decode b_LL_addMark 4 = .ok (.bipush 90, 2) := by decide +kernel
theorem d_LL_addMark_6 : decode b_LL_addMark 6 = .ok (.invokevirtual 28, 3) := by decide +kernel
theorem d_LL_addMark_9 : decode b_LL_addMark 9 = .ok (.return_, 1) := by decide +kernel
theorem d_LL_addNumber_0 : decode b_LL_addNumber 0 = .ok (.aload_n 0, 1) := by decide +kernel
theorem d_LL_addNumber_1 : decode b_LL_addNumber 1 = .ok (.getfield 10, 3) := by decide +kernel
theorem d_LL_addNumber_4 : decode b_LL_addNumber 4 = .ok (.invokevirtual 20, 3) := by decide +kernel
theorem d_LL_addNumber_7 : decode b_LL_addNumber 7 = .ok (.istore_n 2, 1) := by decide +kernel
theorem d_LL_addNumber_8 : decode b_LL_addNumber 8 = .ok (.aload_n 0, 1) := by decide +kernel
theorem d_LL_addNumber_9 : decode b_LL_addNumber 9 = .ok (.getfield 10, 3) := by decide +kernel
theorem d_LL_addNumber_12 : decode b_LL_addNumber 12 = .ok (.bipush 65, 2) := by decide +kernel
theorem d_LL_addNumber_14 : decode b_LL_addNumber 14 = .ok (.iload_n 1, 1) := by decide +kernel
theorem d_LL_addNumber_15 : decode b_LL_addNumber 15 = .ok (.iconst 1, 1) := by decide +kernel
theorem d_LL_addNumber_16 : decode b_LL_addNumber 16 = .ok (.isub, 1) := by decide +kernel
theorem d_LL_addNumber_17 : decode b_LL_addNumber 17 = .ok (.bipush 20, 2) := by decide +kernel
theorem d_LL_addNumber_19 : decode b_LL_addNumber 19 = .ok (.irem, 1) := by decide +kernel
theorem d_LL_addNumber_20 : decode b_LL_addNumber 20 = .ok (.iadd, 1) := by decide +kernel
theorem d_LL_addNumber_21 : decode b_LL_addNumber 21 = .ok (.invokevirtual 28, 3) := by decide +kernel
theorem d_LL_addNumber_24 : decode b_LL_addNumber 24 = .ok (.iload_n 1, 1) := by decide +kernel
theorem d_LL_addNumber_25 : decode b_LL_addNumber 25 = .ok (.iconst 1, 1) := by decide +kernel
theorem d_LL_addNumber_26 : decode b_LL_addNumber 26 = .ok (.isub, 1) := by decide +kernel
theorem d_LL_addNumber_27 : decode b_LL_addNumber 27 = .ok (.bipush 20, 2) := by decide +kernel
theorem d_LL_addNumber_29 : decode b_LL_addNumber 29 = .ok (.idiv, 1) := by decide +kernel
theorem d_LL_addNumber_30 : decode b_LL_addNumber 30 = .ok (.istore_n 3, 1) := by decide +kernel
theorem d_LL_addNumber_31 : decode b_LL_addNumber 31 = .ok (.iconst 0, 1) := by decide +kernel
theorem d_LL_addNumber_32 : decode b_LL_addNumber 32 = .ok (.istore 4, 2) := by decide +kernel
theorem d_LL_addNumber_34 : decode b_LL_addNumber 34 = .ok (.iload 4, 2) := by decide +kernel
theorem d_LL_addNumber_36 : decode b_LL_addNumber 36 = .ok (.bipush 14, 2) := by decide +kernel
theorem d_LL_addNumber_38 : decode b_LL_addNumber 38 = .ok (.if_icmp .ge 34, 3) := by decide +kernel
theorem d_LL_addNumber_41 : decode b_LL_addNumber 41 = .ok (.iload_n 3, 1) := by decide +kernel
theorem d_LL_addNumber_42 : decode b_LL_addNumber 42 = .ok (.ifCond .le 30, 3) := by decide +kernel
theorem d_LL_addNumber_45 : decode b_LL_addNumber 45 = .ok (.aload_n 0, 1) := by decide +kernel
theorem d_LL_addNumber_46 : decode b_LL_addNumber 46 = .ok (.getfield 10, 3) := by decide +kernel
theorem d_LL_addNumber_49 : decode b_LL_addNumber 49 = .ok (.bipush 85, 2) := by decide +kernel
theorem d_LL_addNumber_51 : decode b_LL_addNumber 51 = .ok (.iload_n 3, 1) := by decide +kernel
theorem d_LL_addNumber_52 : decode b_LL_addNumber 52 = .ok (.iconst 1, 1) := by decide +kernel
theorem d_LL_addNumber_53 : decode b_LL_addNumber 53 = .ok (.isub, 1) := by decide +kernel
theorem d_LL_addNumber_54 : decode b_LL_addNumber 54 = .ok (.iconst 5, 1) := by decide +kernel
theorem d_LL_addNumber_55 : decode b_LL_addNumber 55 = .ok (.irem, 1) := by decide +kernel
theorem d_LL_addNumber_56 : decode b_LL_addNumber 56 = .ok (.iadd, 1) := by decide +kernel
theorem d_LL_addNumber_57 : decode b_LL_addNumber 57 = .ok (.invokevirtual 28, 3) := by decide +kernel
theorem d_LL_addNumber_60 : decode b_LL_addNumber 60 = .ok (.iload_n 3, 1) := by decide +kernel
theorem d_LL_addNumber_61 : decode b_LL_addNumber 61 = .ok (.iconst 1, 1) := by decide +kernel
theorem d_LL_addNumber_62 : decode b_LL_addNumber 62 = .ok (.isub, 1) := by decide +kernel
theorem d_LL_addNumber_63 : decode b_LL_addNumber 63 = .ok (.iconst 5, 1) := by decide +kernel
theorem d_LL_addNumber_64 : decode b_LL_addNumber 64 = .ok (.idiv, 1) := by decide +kernel
theorem d_LL_addNumber_65 : decode b_LL_addNumber 65 = .ok (.istore_n 3, 1) := by decide +kernel
theorem d_LL_addNumber_66 : decode b_LL_addNumber 66 = .ok (.iinc 4 1, 3) := by decide +kernel
theorem d_LL_addNumber_69 : decode b_LL_addNumber 69 = .ok (.goto (-35), 3) := by decide +kernel
theorem d_LL_addNumber_72 : decode b_LL_addNumber 72 = .ok (.aload_n 0, 1) := by decide +kernel
theorem d_LL_addNumber_73 : decode b_LL_addNumber 73 = .ok (.getfield 10, 3) := by decide +kernel
theorem d_LL_addNumber_76 : decode b_LL_addNumber 76 = .ok (.iload_n 2, 1) := by decide +kernel
theorem d_LL_addNumber_77 : decode b_LL_addNumber 77 = .ok (.invokevirtual 31, 3) := by decide +kernel
theorem d_LL_addNumber_80 : decode b_LL_addNumber 80 = .ok (.return_, 1) := by decide +kernel
theorem d_ST_init_0 : decode b_ST_init 0 = .ok (.aload_n 0, 1) := by decide +kernel
theorem d_ST_init_1 : decode b_ST_init 1 = .ok (.invokespecial 3, 3) := by decide +kernel
theorem d_ST_init_4 : decode b_ST_init 4 = .ok (.aload_n 0, 1) := by decide +kernel
theorem d_ST_init_5 : decode b_ST_init 5 = .ok (.new 9, 3) := by decide +kernel
theorem d_ST_init_8 : decode b_ST_init 8 = .ok (.dup, 1) := by decide +kernel
theorem d_ST_init_9 : decode b_ST_init 9 = .ok (.invokespecial 11, 3) := by decide +kernel
theorem d_ST_init_12 : decode b_ST_init 12 = .ok (.putfield 12, 3) := by decide +kernel
theorem d_ST_init_15 : decode b_ST_init 15 = .ok (.aload_n 0, 1) := by decide +kernel
theorem d_ST_init_16 : decode b_ST_init 16 = .ok (.new 9, 3) := by decide +kernel
theorem d_ST_init_19 : decode b_ST_init 19 = .ok (.dup, 1) := by decide +kernel
theorem d_ST_init_20 : decode b_ST_init 20 = .ok (.invokespecial 11, 3) := by decide +kernel
theorem d_ST_init_23 : decode b_ST_init 23 = .ok (.putfield 18, 3) := by decide +kernel
theorem d_ST_init_26 : decode b_ST_init 26 = .ok (.aload_n 0, 1) := by decide +kernel
theorem d_ST_init_27 : decode b_ST_init 27 = .ok (.iconst 0, 1) := by decide +kernel
theorem d_ST_init_28 : decode b_ST_init 28 = .ok (.putfield 21, 3) := by decide +kernel
theorem d_ST_init_31 : decode b_ST_init 31 = .ok (.return_, 1) := by decide +kernel
theorem d_ST_amount_0 : decode b_ST_amount 0 = .ok (.aload_n 0, 1) := by decide +kernel
theorem d_ST_amount_1 : decode b_ST_amount 1 = .ok (.getfield 12, 3) := by decide +kernel
theorem d_ST_amount_4 : decode b_ST_amount 4 = .ok (.invokevirtual 25, 3) := by decide +kernel
theorem d_ST_amount_7 : decode b_ST_amount 7 = .ok (.ireturn, 1) := by decide +kernel
theorem d_ST_mandatories_0 : decode b_ST_mandatories 0 = .ok (.aload_n 0, 1) := by decide +kernel
theorem d_ST_mandatories_1 : decode b_ST_mandatories 1 = .ok (.getfield 21, 3) := by decide +kernel
theorem d_ST_mandatories_4 : decode b_ST_mandatories 4 = .ok (.ireturn, 1) := by decide +kernel
theorem d_ST_has_0 : decode b_ST_has 0 = .ok (.iload_n 1, 1) := by decide +kernel
theorem d_ST_has_1 : decode b_ST_has 1 = .ok (.ifCond .lt 18, 3) := by decide +kernel
theorem d_ST_has_4 : decode b_ST_has 4 = .ok (.iload_n 1, 1) := by decide +kernel
theorem d_ST_has_5 : decode b_ST_has 5 = .ok (.aload_n 0, 1) := by decide +kernel
theorem d_ST_has_6 : decode b_ST_has 6 = .ok (.getfield 12, 3) := by decide +kernel
theorem d_ST_has_9 : decode b_ST_has 9 = .ok (.invokevirtual 25, 3) := by decide +kernel
theorem d_ST_has_12 : decode b_ST_has 12 = .ok (.if_icmp .ge 7, 3) := by decide +kernel
theorem d_ST_has_15 : decode b_ST_has 15 = .ok (.iconst 1, 1) := by decide +kernel
theorem d_ST_has_16 : decode b_ST_has 16 = .ok (.goto 4, 3) := by decide +kernel
theorem d_ST_has_19 : decode b_ST_has 19 = .ok (.iconst 0, 1) := by decide +kernel
theorem d_ST_has_20 : decode b_ST_has 20 = .ok (.ireturn, 1) := by decide +kernel
theorem d_ST_taking_0 : decode b_ST_taking 0 = .ok (.aload_n 0, 1) := by decide +kernel
theorem d_ST_taking_1 : decode b_ST_taking 1 = .ok (.getfield 12, 3) := by decide +kernel
theorem d_ST_taking_4 : decode b_ST_taking 4 = .ok (.iload_n 1, 1) := by decide +kernel
theorem d_ST_taking_5 : decode b_ST_taking 5 = .ok (.invokevirtual 29, 3) := by decide +kernel
theorem d_ST_taking_8 : decode b_ST_taking 8 = .ok (.ireturn, 1) := by decide +kernel
theorem d_ST_isMandatory_0 : decode b_ST_isMandatory 0 = .ok (.aload_n 0, 1) := by decide +kernel
theorem d_ST_isMandatory_1 : decode b_ST_isMandatory 1 = .ok (.getfield 18, 3) := by decide +kernel
theorem d_ST_isMandatory_4 : decode b_ST_isMandatory 4 = .ok (.iload_n 1, 1) := by decide +kernel
theorem d_ST_isMandatory_5 : decode b_ST_isMandatory 5 = .ok (.invokevirtual 29, 3) := by decide +kernel
theorem d_ST_isMandatory_8 : decode b_ST_isMandatory 8 = .ok (.iconst (-1), 1) := by decide +kernel
theorem d_ST_isMandatory_9 : decode b_ST_isMandatory 9 = .ok (.if_icmp .eq 7, 3) := by decide +kernel
theorem d_ST_isMandatory_12 : decode b_ST_isMandatory 12 = .ok (.iconst 1, 1) := by decide +kernel
theorem d_ST_isMandatory_13 : decode b_ST_isMandatory 13 = .ok (.goto 4, 3) := by decide +kernel
theorem d_ST_isMandatory_16 : decode b_ST_isMandatory 16 = .ok (.iconst 0, 1) := by decide +kernel
theorem d_ST_isMandatory_17 : decode b_ST_isMandatory 17 = .ok (.ireturn, 1) := by decide +kernel
theorem d_ST_placeOf_0 : decode b_ST_placeOf 0 = .ok (.aload_n 0, 1) := by decide +kernel
theorem d_ST_placeOf_1 : decode b_ST_placeOf 1 = .ok (.getfield 18, 3) := by decide +kernel
theorem d_ST_placeOf_4 : decode b_ST_placeOf 4 = .ok (.iload_n 1, 1) := by decide +kernel
theorem d_ST_placeOf_5 : decode b_ST_placeOf 5 = .ok (.invokevirtual 29, 3) := by decide +kernel
theorem d_ST_placeOf_8 : decode b_ST_placeOf 8 = .ok (.ireturn, 1) := by decide +kernel
theorem d_ST_add_0 : decode b_ST_add 0 = .ok (.aload_n 0, 1) := by decide +kernel
theorem d_ST_add_1 : decode b_ST_add 1 = .ok (.getfield 12, 3) := by decide +kernel
theorem d_ST_add_4 : decode b_ST_add 4 = .ok (.iload_n 1, 1) := by decide +kernel
theorem d_ST_add_5 : decode b_ST_add 5 = .ok (.invokevirtual 33, 3) := by decide +kernel
theorem d_ST_add_8 : decode b_ST_add 8 = .ok (.aload_n 0, 1) := by decide +kernel
theorem d_ST_add_9 : decode b_ST_add 9 = .ok (.getfield 18, 3) := by decide +kernel
theorem d_ST_add_12 : decode b_ST_add 12 = .ok (.iconst (-1), 1) := by decide +kernel
theorem d_ST_add_13 : decode b_ST_add 13 = .ok (.invokevirtual 33, 3) := by decide +kernel
theorem d_ST_add_16 : decode b_ST_add 16 = .ok (.aload_n 0, 1) := by decide +kernel
theorem d_ST_add_17 : decode b_ST_add 17 = .ok (.getfield 12, 3) := by decide +kernel
theorem d_ST_add_20 : decode b_ST_add 20 = .ok (.invokevirtual 25, 3) := by decide +kernel
theorem d_ST_add_23 : decode b_ST_add 23 = .ok (.iconst 1, 1) := by decide +kernel
theorem d_ST_add_24 : decode b_ST_add 24 = .ok (.isub, 1) := by decide +kernel
theorem d_ST_add_25 : decode b_ST_add 25 = .ok (.ireturn, 1) := by decide +kernel
theorem d_ST_addMandatory_0 : decode b_ST_addMandatory 0 = .ok (.aload_n 0, 1) := by decide +kernel
theorem d_ST_addMandatory_1 : decode b_ST_addMandatory 1 = .ok (.getfield 18, 3) := by decide +kernel
theorem d_ST_addMandatory_4 : decode b_ST_addMandatory 4 = .ok (.iload_n 1, 1) := by decide +kernel
theorem d_ST_addMandatory_5 : decode b_ST_addMandatory 5 = .ok (.aload_n 0, 1) := by decide +kernel
theorem d_ST_addMandatory_6 : decode b_ST_addMandatory 6 = .ok (.getfield 21, 3) := by decide +kernel
theorem d_ST_addMandatory_9 : decode b_ST_addMandatory 9 = .ok (.invokevirtual 37, 3) := by decide +kernel
theorem d_ST_addMandatory_12 : decode b_ST_addMandatory 12 = .ok (.aload_n 0, 1) := by decide +kernel
theorem d_ST_addMandatory_13 : decode b_ST_addMandatory 13 = .ok (.dup, 1) := by decide +kernel
theorem d_ST_addMandatory_14 : decode b_ST_addMandatory 14 = .ok (.getfield 21, 3) := by decide +kernel
theorem d_ST_addMandatory_17 : decode b_ST_addMandatory 17 = .ok (.iconst 1, 1) := by decide +kernel
theorem d_ST_addMandatory_18 : decode b_ST_addMandatory 18 = .ok (.iadd, 1) := by decide +kernel
theorem d_ST_addMandatory_19 : decode b_ST_addMandatory 19 = .ok (.putfield 21, 3) := by decide +kernel
theorem d_ST_addMandatory_22 : decode b_ST_addMandatory 22 = .ok (.aload_n 0, 1) := by decide +kernel
theorem d_ST_addMandatory_23 : decode b_ST_addMandatory 23 = .ok (.getfield 21, 3) := by decide +kernel
theorem d_ST_addMandatory_26 : decode b_ST_addMandatory 26 = .ok (.ireturn, 1) := by decide +kernel
end
section
/-! THE LAYER: worlds by blocks, readers' and writers' contracts, calls by them -/
theorem bk_mem {D : va_G} {cl : List vw_C} {ws : va_W} {H : Heap} : va_P D cl ws H ↔ ∀ q ∈ ws, va_at D cl q H := by
  constructor
  · intro h q hq
    obtain ⟨k, hk⟩ := List.getElem?_of_mem hq
    exact h k q hk
  · intro h k q hk
    exact h q (List.mem_of_getElem? hk)
theorem bk_nd {A : Nat → Prop} {ws : va_W} : va_D A ws ↔ (ws.map Prod.fst).Nodup ∧ ∀ q ∈ ws, A q.1 := by
  constructor
  · intro h
    refine ⟨?_, fun q hq => ?_⟩
    · rw [List.Nodup, List.pairwise_map, List.pairwise_iff_getElem]
      intro i j hi hj hij he
      have := h.1 i j ws[i] ws[j] (List.getElem?_eq_getElem hi) (List.getElem?_eq_getElem hj) he
      omega
    · obtain ⟨k, hk⟩ := List.getElem?_of_mem hq
      exact h.2 k q hk
  · intro ⟨h1, h2⟩
    refine ⟨fun i j p q hi hj he => ?_, fun k q hk => h2 q (List.mem_of_getElem? hk)⟩
    rw [List.Nodup, List.pairwise_map, List.pairwise_iff_getElem] at h1
    obtain ⟨hi', rfl⟩ := List.getElem?_eq_some_iff.mp hi
    obtain ⟨hj', rfl⟩ := List.getElem?_eq_some_iff.mp hj
    rcases Nat.lt_trichotomy i j with h | h | h
    · exact absurd he (h1 i j hi' hj' h)
    · exact h
    · exact absurd he.symm (h1 j i hj' hi' h)
theorem bk_A {w : va_W} {sz q : Nat} : va_A w sz q ↔ (∃ x ∈ w, x.1 = q) ∨ sz ≤ q := by
  constructor
  · rintro (⟨k, e, h⟩ | h)
    · exact Or.inl ⟨_, List.mem_of_getElem? h, rfl⟩
    · exact Or.inr h
  · rintro (⟨x, hx, rfl⟩ | h)
    · obtain ⟨k, hk⟩ := List.getElem?_of_mem hx
      exact Or.inl ⟨k, x.2, hk⟩
    · exact Or.inr h
/-- two worlds with no address in common -/
def bk_ap (w1 w2 : va_W) : Prop := ∀ p ∈ w1, ∀ q ∈ w2, p.1 ≠ q.1
theorem bk_ap_symm {w1 w2 : va_W} (h : bk_ap w1 w2) : bk_ap w2 w1 := fun p hp q hq e => h q hq p hp e.symm
/-- a world cut into blocks -/
def bk (D : va_G) (cl : List vw_C) (A : Nat → Prop) (bs : List va_W) (H : Heap) : Prop := va_P D cl bs.flatten H ∧ va_D A bs.flatten
theorem bk_split : ∀ (bs : List va_W) (k : Nat) (wc : va_W), bs[k]? = some wc → ∃ T E : va_W, bs.flatten = T ++ (wc ++ E) ∧ ∀ w, (bs.set k w).flatten = T ++ (w ++ E)
  | [], k, wc, h => by simp at h
  | b :: bs, 0, wc, h => by
    simp at h; subst h
    exact ⟨[], bs.flatten, by simp, fun w => by simp⟩
  | b :: bs, k + 1, wc, h => by
    simp at h
    obtain ⟨T, E, h1, h2⟩ := bk_split bs k wc h
    exact ⟨b ++ T, E, by simp [h1], fun w => by simp [h2]⟩
section BK
variable {D : va_G} {cl : List vw_C} {A : Nat → Prop} {bs : List va_W} {H H1 H0 : Heap} {k : Nat} {wc w1 w w2 : va_W} {locs : List Loc}
theorem bk_get (h : bk D cl A bs H) (hk : bs[k]? = some w) : va_P D cl w H := by
  obtain ⟨T, E, e1, -⟩ := bk_split bs k w hk
  have h1 := h.1
  rw [e1, bk_mem] at h1
  exact bk_mem.mpr fun q hq => h1 q (by simp [hq])
theorem bk_own (h : bk D cl A bs H) (hk : bs[k]? = some w) : va_D (fun _ => True) w := by
  obtain ⟨T, E, e1, -⟩ := bk_split bs k w hk
  have h1 := h.2
  rw [e1, bk_nd] at h1
  simp only [List.map_append, List.nodup_append] at h1
  exact bk_nd.mpr ⟨h1.1.2.1.1, fun _ _ => trivial⟩
theorem bk_inA (h : bk D cl A bs H) (hk : bs[k]? = some w) (hA : ∀ q, H.size ≤ q → A q) : ∀ q, va_A w H.size q → A q := by
  obtain ⟨T, E, e1, -⟩ := bk_split bs k w hk
  have h1 := h.2
  rw [e1, bk_nd] at h1
  intro q hq
  rcases bk_A.mp hq with ⟨x, hx, rfl⟩ | hq
  · exact h1.2 x (by simp [hx])
  · exact hA q hq
theorem bk_dj {i j : Nat} (h : bk D cl A bs H) (hij : i < j) (hi : bs[i]? = some w1) (hj : bs[j]? = some w2) : bk_ap w1 w2 := by
  have key : ∀ (bs : List va_W) (i j : Nat), i < j → bs[i]? = some w1 → bs[j]? = some w2 → (bs.flatten.map Prod.fst).Nodup → bk_ap w1 w2 := by
    intro bs
    induction bs with
    | nil => intro i j _ hi; simp at hi
    | cons b bs ih =>
      intro i j hij hi hj hn
      rw [List.flatten_cons, List.map_append, List.nodup_append] at hn
      cases j with
      | zero => omega
      | succ j =>
        cases i with
        | zero =>
          simp at hi hj
          subst hi
          intro p hp q hq
          refine hn.2.2 _ (List.mem_map_of_mem hp) _ (List.mem_map_of_mem ?_)
          exact List.mem_flatten.mpr ⟨w2, List.mem_of_getElem? hj, hq⟩
        | succ i =>
          simp at hi hj
          exact ih i j (by omega) hi hj hn.2.1
  exact key bs i j hij hi hj (bk_nd.mp h.2).1
theorem bk_dj' {i j : Nat} (h : bk D cl A bs H) (hij : i ≠ j) (hi : bs[i]? = some w1) (hj : bs[j]? = some w2) : bk_ap w1 w2 := by
  rcases Nat.lt_or_gt_of_ne hij with g | g
  · exact bk_dj h g hi hj
  · exact bk_ap_symm (bk_dj h g hj hi)
/-- behind a call that had block k for its own -/
theorem bk_set (h : bk D cl A bs H) (hk0 : bs[k]? = some wc) (hk : ∀ q : Nat, q < H.size → ¬ va_A wc H.size q → H1[q]? = H[q]?) (hA : ∀ q, H.size ≤ q → A q) (hP1 : va_P D cl w1 H1) (hD1 : va_D (va_A wc H.size) w1) : bk D cl A (bs.set k w1) H1 := by
  have hin := bk_inA h hk0 hA
  obtain ⟨T, E, e1, e2⟩ := bk_split bs k wc hk0
  obtain ⟨hP, hD⟩ := h
  unfold bk
  rw [e1] at hP hD
  rw [e2]
  rw [bk_mem] at hP hP1
  rw [bk_nd] at hD hD1
  simp only [List.map_append, List.nodup_append, List.mem_append] at hP hD
  obtain ⟨⟨nT, ⟨nC, nE, dCE⟩, dT⟩, hAll⟩ := hD
  have apT : ∀ q ∈ T, q.1 < H.size ∧ ¬ va_A wc H.size q.1 := by
    intro q hq
    have hl := (hP q (Or.inl hq)).lt
    refine ⟨hl, fun hv => ?_⟩
    rcases bk_A.mp hv with ⟨x, hx, ex⟩ | hv
    · exact dT q.1 (List.mem_map_of_mem hq) x.1 (Or.inl (List.mem_map_of_mem hx)) ex.symm
    · omega
  have apE : ∀ q ∈ E, q.1 < H.size ∧ ¬ va_A wc H.size q.1 := by
    intro q hq
    have hl := (hP q (Or.inr (Or.inr hq))).lt
    refine ⟨hl, fun hv => ?_⟩
    rcases bk_A.mp hv with ⟨x, hx, ex⟩ | hv
    · exact dCE x.1 (List.mem_map_of_mem hx) q.1 (List.mem_map_of_mem hq) ex
    · omega
  constructor
  · rw [bk_mem]
    intro q hq
    simp only [List.mem_append] at hq
    rcases hq with hq | hq | hq
    · exact (hP q (Or.inl hq)).kept (hk q.1 (apT q hq).1 (apT q hq).2)
    · exact hP1 q hq
    · exact (hP q (Or.inr (Or.inr hq))).kept (hk q.1 (apE q hq).1 (apE q hq).2)
  · rw [bk_nd]
    simp only [List.map_append, List.nodup_append, List.mem_append]
    refine ⟨⟨nT, ⟨hD1.1, nE, ?_⟩, ?_⟩, ?_⟩
    · intro a ha b hb e
      obtain ⟨x, hx, rfl⟩ := List.mem_map.mp ha
      obtain ⟨z, hz, rfl⟩ := List.mem_map.mp hb
      exact (apE z hz).2 (e ▸ hD1.2 x hx)
    · intro a ha b hb e
      obtain ⟨x, hx, rfl⟩ := List.mem_map.mp ha
      rcases hb with hb | hb
      · obtain ⟨z, hz, rfl⟩ := List.mem_map.mp hb
        exact (apT x hx).2 (e ▸ hD1.2 z hz)
      · exact dT _ ha b (Or.inr hb) e
    · intro q hq
      rcases hq with hq | hq | hq
      · exact hAll q (Or.inl hq)
      · exact hin q.1 (hD1.2 q hq)
      · exact hAll q (Or.inr (Or.inr hq))
/-- what is only read stays as it was at the method's start -/
theorem ro_keep (hS : va_S A H0 H locs) (hr : va_P D cl w H0) (ha : ∀ q ∈ w, ¬ A q.1) : va_P D cl w H := by
  rw [bk_mem] at hr ⊢
  exact fun q hq => (hr q hq).kept (hS.2.1 q.1 (hr q hq).lt (ha q hq))
theorem ro_A (hr : va_P D cl w H0) (ha : bk_ap wc w) : ∀ q ∈ w, ¬ va_A wc H0.size q.1 := by
  rw [bk_mem] at hr
  intro q hq hv
  rcases bk_A.mp hv with ⟨x, hx, ex⟩ | hv
  · exact ha x hx q hq ex
  · exact absurd (hr q hq).lt (by omega)
theorem ro_F {q : Nat} (h : w = []) (hv : va_A w H.size q) : H.size ≤ q := by
  subst h
  rcases bk_A.mp hv with ⟨x, hx, -⟩ | h
  · cases hx
  · exact h
end BK
end
section
/-! CONTRACTS of readers and writers, and calls by them; costs are one number: cells and slots alike -/
abbrev pG : Type := va_G × ClassId × ClassId × ClassId
abbrev tyG (G : pG) : List (ClassId × FieldType) := [(G.2.1, .int), (G.2.2.1, .long), (G.2.2.2, .boolean)]
def preG (G : pG) (H : Heap) : State → Prop := fun U => U.heap = H ∧ va_K G.1 vwCl (tyG G) U
abbrev rmK (fr lo K : Nat) : Room := { frames := fr, cells := K, slots := K, locals := lo }
theorem rmK_c {fr lo K : Nat} : (rmK fr lo K).cells = K := rfl
theorem rmK_s {fr lo K : Nat} : (rmK fr lo K).slots = K := rfl
/-- a reader that answers an int: the heap stays -/
abbrev MRi (l : Launch) (y : MethodName) (ws : List Cond) (fr lo : Nat) (G : pG) (av : List Value) (H : Heap) (r : Int32) : Prop :=
  Met l y ws (rmK fr lo 0) (va_Pc av (preG G H)) (va_Qi (fun r' (_ : Unit) => r' = r) (fun _ t => t.heap = H) (fun _ => False)) 0 0 (fun _ => False)
abbrev MRl (l : Launch) (y : MethodName) (ws : List Cond) (fr lo : Nat) (G : pG) (av : List Value) (H : Heap) (r : Int64) : Prop :=
  Met l y ws (rmK fr lo 0) (va_Pc av (preG G H)) (va_Ql (fun r' (_ : Unit) => r' = r) (fun _ t => t.heap = H) (fun _ => False)) 0 0 (fun _ => False)
/-- a writer: it owns the world w, and leaves one with P -/
abbrev MWv (l : Launch) (y : MethodName) (ws : List Cond) (fr lo K : Nat) (G : pG) (av : List Value) (H : Heap) (w : va_W) (P : va_W → Prop) : Prop :=
  Met l y ws (rmK fr lo K) (va_Pc av (preG G H)) (va_Qv (fun u : va_W => P u) (fun u t => va_P G.1 vwCl u t.heap ∧ va_D (va_A w H.size) u) (va_A w H.size)) K K (va_A w H.size)
abbrev MWi (l : Launch) (y : MethodName) (ws : List Cond) (fr lo K : Nat) (G : pG) (av : List Value) (H : Heap) (w : va_W) (r : Int32) (P : va_W → Prop) : Prop :=
  Met l y ws (rmK fr lo K) (va_Pc av (preG G H)) (va_Qi (fun r' (u : va_W) => r' = r ∧ P u) (fun u t => va_P G.1 vwCl u t.heap ∧ va_D (va_A w H.size) u) (va_A w H.size)) K K (va_A w H.size)
/-- a writer that answers a new or old cell's address -/
abbrev MWr (l : Launch) (y : MethodName) (ws : List Cond) (fr lo K : Nat) (G : pG) (av : List Value) (H : Heap) (w : va_W) (P : Nat → va_W → Prop) : Prop :=
  Met l y ws (rmK fr lo K) (va_Pc av (preG G H)) (va_Qr (fun _ : va_W => True) (fun u a t => P a u ∧ va_P G.1 vwCl u t.heap ∧ va_D (va_A w H.size) u) (va_A w H.size)) K K (va_A w H.size)
theorem ai_pos {α : Type} {P : Prop} [Decidable P] {a b t : α} (c : P) (h : ite P a b = t) : a = t := (if_pos c).symm.trans h
theorem ai_neg {α : Type} {P : Prop} [Decidable P] {a b t : α} (c : ¬ P) (h : ite P a b = t) : b = t := (if_neg c).symm.trans h
theorem ki_pos {P : Prop} [Decidable P] {k a b t : Nat} (c : P) (h : k + ite P a b = t) : k + a = t := by rw [if_pos c] at h; exact h
theorem ki_neg {P : Prop} [Decidable P] {k a b t : Nat} (c : ¬ P) (h : k + ite P a b = t) : k + b = t := by rw [if_neg c] at h; exact h
def bnd {α β : Type} (a : α) (f : α → β) : β := f a
theorem bnd_e {α β : Type} {a t : α} {f : α → β} {r : β} (h : a = t) (hr : bnd a f = r) : f t = r := by subst h; exact hr
theorem bnd_k {α : Type} {a t : α} {f : α → Nat} {k r : Nat} (h : a = t) (hr : k + bnd a f = r) : k + f t = r := by subst h; exact hr
theorem ob_e {α β : Type} {a : Option α} {f : α → Option β} {r : β} (h : a.bind f = some r) : ∃ t, a = some t ∧ f t = some r := by
  cases a with
  | none => cases h
  | some t => exact ⟨t, rfl, h⟩
theorem og_n {β : Type} {P : Prop} [Decidable P] {b : Option β} {r : β} (h : (if P then none else b) = some r) : ¬ P := by
  intro hp
  rw [if_pos hp] at h
  cases h
theorem og_e {β : Type} {P : Prop} [Decidable P] {b : Option β} {r : β} (h : (if P then none else b) = some r) : b = some r := by
  rw [if_neg (og_n h)] at h
  exact h
theorem bk_ub {a b c t M : Nat} (h : a + (b + c) = t) (hM : t ≤ M) : b ≤ M := by omega
theorem bk_gP {D : va_G} {cl : List vw_C} {bs : List va_W} {H : Heap} {k : Nat} {w : va_W} (h : va_P D cl bs.flatten H) (hk : bs[k]? = some w) : va_P D cl w H := by
  obtain ⟨T, E, e1, -⟩ := bk_split bs k w hk
  rw [e1, bk_mem] at h
  exact bk_mem.mpr fun q hq => h q (by simp [hq])
theorem bk_one {D : va_G} {cl : List vw_C} {A : Nat → Prop} {bs : List va_W} {H : Heap} (h : bk D cl A bs H) : bk D cl A [bs.flatten] H := by
  unfold bk at h ⊢
  simpa using h
theorem bk_many {D : va_G} {cl : List vw_C} {A : Nat → Prop} {bs : List va_W} {H : Heap} (h : bk D cl A [bs.flatten] H) : bk D cl A bs H := by
  unfold bk at h ⊢
  simpa using h
theorem bk_init {D : va_G} {cl : List vw_C} {w : va_W} {H : Heap} (hP : va_P D cl w H) (hD : va_D (fun _ => True) w) : bk D cl (va_A w H.size) [w] H := by
  have h : [w].flatten = w := by simp
  unfold bk
  rw [h]
  exact ⟨hP, hD.self⟩
theorem bk_apA {D : va_G} {cl : List vw_C} {A : Nat → Prop} {bs : List va_W} {H : Heap} {k : Nat} {w v : va_W} (h : bk D cl A bs H) (hk : bs[k]? = some w) (hro : ∀ q ∈ v, ¬ A q.1) : bk_ap w v := by
  obtain ⟨T, E, e1, -⟩ := bk_split bs k w hk
  have h1 := h.2
  rw [e1, bk_nd] at h1
  intro p hp q hq e
  exact hro q hq (e ▸ h1.2 p (by simp [hp]))
theorem preG_blind {G : pG} {H : Heap} {av : List Value} : FrameBlind (va_Pc av (preG G H)) := fun a U g mk q => by
  obtain ⟨q0, q1, qK⟩ := q
  exact ⟨q0, q1, va_K.moved (u := U) (U := U.calling g mk a) (Vm.Alike.refl U.vm) qK⟩
section CL
variable {p : Program} {l : Launch} {e : Env} {R : Room} {s : State} {m : MethodId} {args : Array Value} {below : List Frame} {meth : Method} {c : Code} {H H0 : Heap} {locs : List Loc} {cells slots : Nat} {Q : State → Prop} {y : MethodName} {bytes cc : ByteArray} {maxL nL n index fr lo K kc rem Kt k : Nat} {ret : Option FieldType} {ws Ts : List Cond} {own C : String} {b : Addr} {As rest : List Value} {ls : Array Slot} {pc : Nat} {G : pG} {A0 : Nat → Prop} {w : va_W} {bs : List va_W} {P : va_W → Prop}
theorem rdV {r : Int32} (S : CallFix p m c cc nL s args Ts own) (hM : MRi l y ws fr lo G (.ref b :: As) H r) (cw : CallW R s args own C index y bytes maxL ret ws (rmK fr lo 0) 0 0 n) (hK : va_K G.1 vwCl (tyG G) s) (hrc : ∃ cell : Cell, H[b]? = some cell ∧ cell.vm.isStatics = false ∧ s.vm.findClass C = some cell.cls) (hS : va_S A0 H0 H locs) (hq : cells ≤ R.cells ∧ slots ≤ R.slots) (hn : As.length = n) (hsz : ls.size = nL) (hW : (rest.map fun v => v.category).sum ≤ 8) (hdg : decode cc pc = .ok (.invokevirtual index, 3))
    (kk : ∀ locs1 : List Loc, va_S A0 H0 H locs1 → W p l e R s m args below meth c H locs1 cells slots Q (F0 m (pc + 3) ls (.int r :: rest))) :
    W p l e R s m args below meth c H locs cells slots Q (F0 m pc ls (As.reverse ++ .ref b :: rest)) := by
  refine va_calli (va_runV (As := As) (rest := rest) S hM cw ⟨preG_blind, hrc, fun U hU hWm => ⟨rfl, hU, va_K.moved hWm.alike hK⟩⟩ rfl hn hsz rfl (lv_room hW) hdg hq) hS (fun q _ h => h.elim) (fun q h => h.elim) (fun r' u t H1 locs1 ht hvm hw hB hz1 hk1 hS1 => ?_)
  subst hw
  obtain rfl : H1 = H := ht.symm.trans hB
  exact kk locs1 hS1
theorem rdVl {r : Int64} (S : CallFix p m c cc nL s args Ts own) (hM : MRl l y ws fr lo G (.ref b :: As) H r) (cw : CallW R s args own C index y bytes maxL ret ws (rmK fr lo 0) 0 0 n) (hK : va_K G.1 vwCl (tyG G) s) (hrc : ∃ cell : Cell, H[b]? = some cell ∧ cell.vm.isStatics = false ∧ s.vm.findClass C = some cell.cls) (hS : va_S A0 H0 H locs) (hq : cells ≤ R.cells ∧ slots ≤ R.slots) (hn : As.length = n) (hsz : ls.size = nL) (hW : (rest.map fun v => v.category).sum ≤ 8) (hdg : decode cc pc = .ok (.invokevirtual index, 3))
    (kk : ∀ locs1 : List Loc, va_S A0 H0 H locs1 → W p l e R s m args below meth c H locs1 cells slots Q (F0 m (pc + 3) ls (.long r :: rest))) :
    W p l e R s m args below meth c H locs cells slots Q (F0 m pc ls (As.reverse ++ .ref b :: rest)) := by
  refine va_calll (va_runV (As := As) (rest := rest) S hM cw ⟨preG_blind, hrc, fun U hU hWm => ⟨rfl, hU, va_K.moved hWm.alike hK⟩⟩ rfl hn hsz rfl (lv_room hW) hdg hq) hS (fun q _ h => h.elim) (fun q h => h.elim) (fun r' u t H1 locs1 ht hvm hw hB hz1 hk1 hS1 => ?_)
  subst hw
  obtain rfl : H1 = H := ht.symm.trans hB
  exact kk locs1 hS1
theorem wrV (S : CallFix p m c cc nL s args Ts own) (hM : MWv l y ws fr lo K G (.ref b :: As) H w P) (cw : CallW R s args own C index y bytes maxL ret ws (rmK fr lo K) K K n) (hK : va_K G.1 vwCl (tyG G) s) (hrc : ∃ cell : Cell, H[b]? = some cell ∧ cell.vm.isStatics = false ∧ s.vm.findClass C = some cell.cls) (hS : va_S A0 H0 H locs) (hA : ∀ q, H0.size ≤ q → A0 q) (hB : bk G.1 vwCl A0 bs H) (hk0 : bs[k]? = some w) (hk : kc + (K + rem) = Kt) (hR : R.cells = Kt ∧ R.slots = Kt) (hn : As.length = n) (hsz : ls.size = nL) (hW : (rest.map fun v => v.category).sum ≤ 8) (hdg : decode cc pc = .ok (.invokevirtual index, 3))
    (kk : ∀ (u : va_W) (H1 : Heap) (locs1 : List Loc) (kc1 : Nat), P u → bk G.1 vwCl A0 (bs.set k u) H1 → va_S A0 H0 H1 locs1 → kc1 + rem = Kt → W p l e R s m args below meth c H1 locs1 kc1 kc1 Q (F0 m (pc + 3) ls rest)) :
    W p l e R s m args below meth c H locs kc kc Q (F0 m pc ls (As.reverse ++ .ref b :: rest)) := by
  have hA' : ∀ q, H.size ≤ q → A0 q := fun q h => hA q (Nat.le_trans hS.1 h)
  have hin := bk_inA hB hk0 hA'
  refine va_callv (va_runV (As := As) (rest := rest) S hM cw ⟨preG_blind, hrc, fun U hU hWm => ⟨rfl, hU, va_K.moved hWm.alike hK⟩⟩ rfl hn hsz rfl (lv_room hW) hdg (by rw [hR.1, hR.2]; omega)) hS (fun q _ h => hin q h) hin (fun u t H1 locs1 ht hvm hw hB1 hz1 hk1 hS1 => ?_)
  rw [ht] at hB1
  exact kk u H1 locs1 (kc + K) hw (bk_set hB hk0 hk1 hA' hB1.1 hB1.2) hS1 (by omega)
theorem wrV0 (S : CallFix p m c cc nL s args Ts own) (hM : MWv l y ws fr lo 0 G (.ref b :: As) H w P) (cw : CallW R s args own C index y bytes maxL ret ws (rmK fr lo 0) 0 0 n) (hK : va_K G.1 vwCl (tyG G) s) (hrc : ∃ cell : Cell, H[b]? = some cell ∧ cell.vm.isStatics = false ∧ s.vm.findClass C = some cell.cls) (hS : va_S A0 H0 H locs) (hA : ∀ q, H0.size ≤ q → A0 q) (hB : bk G.1 vwCl A0 bs H) (hk0 : bs[k]? = some w) (hk : kc + rem = Kt) (hR : R.cells = Kt ∧ R.slots = Kt) (hn : As.length = n) (hsz : ls.size = nL) (hW : (rest.map fun v => v.category).sum ≤ 8) (hdg : decode cc pc = .ok (.invokevirtual index, 3))
    (kk : ∀ (u : va_W) (H1 : Heap) (locs1 : List Loc), P u → bk G.1 vwCl A0 (bs.set k u) H1 → va_S A0 H0 H1 locs1 → W p l e R s m args below meth c H1 locs1 kc kc Q (F0 m (pc + 3) ls rest)) :
    W p l e R s m args below meth c H locs kc kc Q (F0 m pc ls (As.reverse ++ .ref b :: rest)) := by
  have hA' : ∀ q, H.size ≤ q → A0 q := fun q h => hA q (Nat.le_trans hS.1 h)
  have hin := bk_inA hB hk0 hA'
  refine va_callv (va_runV (As := As) (rest := rest) S hM cw ⟨preG_blind, hrc, fun U hU hWm => ⟨rfl, hU, va_K.moved hWm.alike hK⟩⟩ rfl hn hsz rfl (lv_room hW) hdg (by rw [hR.1, hR.2]; omega)) hS (fun q _ h => hin q h) hin (fun u t H1 locs1 ht hvm hw hB1 hz1 hk1 hS1 => ?_)
  rw [ht] at hB1
  exact kk u H1 locs1 hw (bk_set hB hk0 hk1 hA' hB1.1 hB1.2) hS1
theorem wrVi {r : Int32} (S : CallFix p m c cc nL s args Ts own) (hM : MWi l y ws fr lo K G (.ref b :: As) H w r P) (cw : CallW R s args own C index y bytes maxL ret ws (rmK fr lo K) K K n) (hK : va_K G.1 vwCl (tyG G) s) (hrc : ∃ cell : Cell, H[b]? = some cell ∧ cell.vm.isStatics = false ∧ s.vm.findClass C = some cell.cls) (hS : va_S A0 H0 H locs) (hA : ∀ q, H0.size ≤ q → A0 q) (hB : bk G.1 vwCl A0 bs H) (hk0 : bs[k]? = some w) (hk : kc + (K + rem) = Kt) (hR : R.cells = Kt ∧ R.slots = Kt) (hn : As.length = n) (hsz : ls.size = nL) (hW : (rest.map fun v => v.category).sum ≤ 8) (hdg : decode cc pc = .ok (.invokevirtual index, 3))
    (kk : ∀ (u : va_W) (H1 : Heap) (locs1 : List Loc) (kc1 : Nat), P u → bk G.1 vwCl A0 (bs.set k u) H1 → va_S A0 H0 H1 locs1 → kc1 + rem = Kt → W p l e R s m args below meth c H1 locs1 kc1 kc1 Q (F0 m (pc + 3) ls (.int r :: rest))) :
    W p l e R s m args below meth c H locs kc kc Q (F0 m pc ls (As.reverse ++ .ref b :: rest)) := by
  have hA' : ∀ q, H.size ≤ q → A0 q := fun q h => hA q (Nat.le_trans hS.1 h)
  have hin := bk_inA hB hk0 hA'
  refine va_calli (va_runV (As := As) (rest := rest) S hM cw ⟨preG_blind, hrc, fun U hU hWm => ⟨rfl, hU, va_K.moved hWm.alike hK⟩⟩ rfl hn hsz rfl (lv_room hW) hdg (by rw [hR.1, hR.2]; omega)) hS (fun q _ h => hin q h) hin (fun r' u t H1 locs1 ht hvm hw hB1 hz1 hk1 hS1 => ?_)
  rw [ht] at hB1
  obtain ⟨rfl, hw⟩ := hw
  exact kk u H1 locs1 (kc + K) hw (bk_set hB hk0 hk1 hA' hB1.1 hB1.2) hS1 (by omega)
theorem wrVi0 {r : Int32} (S : CallFix p m c cc nL s args Ts own) (hM : MWi l y ws fr lo 0 G (.ref b :: As) H w r P) (cw : CallW R s args own C index y bytes maxL ret ws (rmK fr lo 0) 0 0 n) (hK : va_K G.1 vwCl (tyG G) s) (hrc : ∃ cell : Cell, H[b]? = some cell ∧ cell.vm.isStatics = false ∧ s.vm.findClass C = some cell.cls) (hS : va_S A0 H0 H locs) (hA : ∀ q, H0.size ≤ q → A0 q) (hB : bk G.1 vwCl A0 bs H) (hk0 : bs[k]? = some w) (hk : kc + rem = Kt) (hR : R.cells = Kt ∧ R.slots = Kt) (hn : As.length = n) (hsz : ls.size = nL) (hW : (rest.map fun v => v.category).sum ≤ 8) (hdg : decode cc pc = .ok (.invokevirtual index, 3))
    (kk : ∀ (u : va_W) (H1 : Heap) (locs1 : List Loc), P u → bk G.1 vwCl A0 (bs.set k u) H1 → va_S A0 H0 H1 locs1 → W p l e R s m args below meth c H1 locs1 kc kc Q (F0 m (pc + 3) ls (.int r :: rest))) :
    W p l e R s m args below meth c H locs kc kc Q (F0 m pc ls (As.reverse ++ .ref b :: rest)) := by
  have hA' : ∀ q, H.size ≤ q → A0 q := fun q h => hA q (Nat.le_trans hS.1 h)
  have hin := bk_inA hB hk0 hA'
  refine va_calli (va_runV (As := As) (rest := rest) S hM cw ⟨preG_blind, hrc, fun U hU hWm => ⟨rfl, hU, va_K.moved hWm.alike hK⟩⟩ rfl hn hsz rfl (lv_room hW) hdg (by rw [hR.1, hR.2]; omega)) hS (fun q _ h => hin q h) hin (fun r' u t H1 locs1 ht hvm hw hB1 hz1 hk1 hS1 => ?_)
  rw [ht] at hB1
  obtain ⟨rfl, hw⟩ := hw
  exact kk u H1 locs1 hw (bk_set hB hk0 hk1 hA' hB1.1 hB1.2) hS1
/-- a static writer that makes nothing -/
theorem wrS0 (S : CallFix p m c cc nL s args Ts own) (hM : MWv l y ws fr lo 0 G As H w P) (cw : CallB R s args own index y bytes maxL ret ws (rmK fr lo 0) 0 0 n ∧ (Cond.static y).before args s = true) (hK : va_K G.1 vwCl (tyG G) s) (hS : va_S A0 H0 H locs) (hA : ∀ q, H0.size ≤ q → A0 q) (hB : bk G.1 vwCl A0 bs H) (hk0 : bs[k]? = some w) (hk : kc + rem = Kt) (hR : R.cells = Kt ∧ R.slots = Kt) (hn : As.length = n) (hsz : ls.size = nL) (hW : (rest.map fun v => v.category).sum ≤ 8) (hdg : decode cc pc = .ok (.invokestatic index, 3))
    (kk : ∀ (u : va_W) (H1 : Heap) (locs1 : List Loc), P u → bk G.1 vwCl A0 (bs.set k u) H1 → va_S A0 H0 H1 locs1 → W p l e R s m args below meth c H1 locs1 kc kc Q (F0 m (pc + 3) ls rest)) :
    W p l e R s m args below meth c H locs kc kc Q (F0 m pc ls (As.reverse ++ rest)) := by
  have hA' : ∀ q, H.size ≤ q → A0 q := fun q h => hA q (Nat.le_trans hS.1 h)
  have hin := bk_inA hB hk0 hA'
  refine va_callv (va_runS (As := As) (rest := rest) S hM cw ⟨preG_blind, fun U hU hWm => ⟨rfl, hU, va_K.moved hWm.alike hK⟩⟩ rfl hn hsz rfl (lv_room hW) hdg (by rw [hR.1, hR.2]; omega)) hS (fun q _ h => hin q h) hin (fun u t H1 locs1 ht hvm hw hB1 hz1 hk1 hS1 => ?_)
  rw [ht] at hB1
  exact kk u H1 locs1 hw (bk_set hB hk0 hk1 hA' hB1.1 hB1.2) hS1
/-- a loop of a writer -/
theorem lp_W (I : Nat → Heap → List Loc → Nat → Array Slot → Prop) (step : ∀ n, (∀ H locs kc ls, I n H locs kc ls → W p l e R s m args below meth c H locs kc kc Q (F0 m pc ls [])) → ∀ H locs kc ls, I (n + 1) H locs kc ls → W p l e R s m args below meth c H locs kc kc Q (F0 m pc ls []))
    (zero : ∀ H locs kc ls, ¬ I 0 H locs kc ls) : ∀ n H locs kc ls, I n H locs kc ls → W p l e R s m args below meth c H locs kc kc Q (F0 m pc ls []) := by
  intro n
  induction n with
  | zero => intro H locs kc ls h; exact absurd h (zero H locs kc ls)
  | succ n ih => exact step n ih
/-- a loop of a reader -/
theorem lp_R (I : Nat → List Loc → Array Slot → Prop) (step : ∀ n, (∀ locs ls, I n locs ls → W p l e R s m args below meth c H locs cells slots Q (F0 m pc ls [])) → ∀ locs ls, I (n + 1) locs ls → W p l e R s m args below meth c H locs cells slots Q (F0 m pc ls []))
    (zero : ∀ locs ls, ¬ I 0 locs ls) : ∀ n locs ls, I n locs ls → W p l e R s m args below meth c H locs cells slots Q (F0 m pc ls []) := by
  intro n
  induction n with
  | zero => intro locs ls h; exact absurd h (zero locs ls)
  | succ n ih => exact step n ih
end CL
/-- how often a loop of the other side may turn: far above what a run can need -/
def fuelM : Nat := 1000000
theorem sw_out {x : Int32} {n : Nat} (h : ∀ k : Nat, k ≤ n → ¬ x = Int32.ofNat k) (hn : n < 2 ^ 31 := by decide) : x.toInt < 0 ∨ (n : Int) < x.toInt := by
  rcases (show x.toInt < 0 ∨ 0 ≤ x.toInt by omega) with h0 | h0
  · exact Or.inl h0
  · rcases (show (n : Int) < x.toInt ∨ x.toInt ≤ n by omega) with h1 | h1
    · exact Or.inr h1
    · refine absurd ?_ (h x.toInt.toNat (by omega))
      apply Int32.toInt_inj.mp
      have e := nI_toInt (n := x.toInt.toNat) (by omega)
      show _ = (nI x.toInt.toNat).toInt
      rw [e]; omega
theorem gd_T : GoodIn lw_g lw_g := fun w h => ⟨h, good_of_word (List.mem_filter.mp h).2⟩
theorem gd_c {x : Cond} (h : x ∈ lw_g) : GoodIn lw_g (x :: lw_g) := by
  intro w hw
  rcases List.mem_cons.mp hw with rfl | hw
  · exact gd_T _ h
  · exact gd_T w hw
theorem gd_V {own C : String} {idx : Nat} {y : MethodName} {x : Cond} (h1 : Cond.methodLink own idx y ∈ lw_g) (h2 : Cond.instanceMethod y ∈ lw_g) (h3 : Cond.selects C y y ∈ lw_g) (h4 : Cond.initialized C ∈ lw_g) (h5 : x ∈ lw_g) : GoodIn lw_g (wsV own idx C y (x :: lw_g)) := by
  intro w hw
  unfold wsV at hw
  rcases List.mem_append.mp hw with hw | hw
  · simp only [List.mem_cons, List.not_mem_nil, or_false] at hw
    rcases hw with rfl | rfl | rfl | rfl
    · exact gd_T _ h1
    · exact gd_T _ h2
    · exact gd_T _ h3
    · exact gd_T _ h4
  · exact gd_c h5 w hw
section CL2
variable {p : Program} {l : Launch} {e : Env} {R : Room} {s : State} {m : MethodId} {args : Array Value} {below : List Frame} {meth : Method} {c : Code} {H H0 : Heap} {locs : List Loc} {cells slots : Nat} {Q : State → Prop} {y : MethodName} {bytes cc : ByteArray} {maxL nL n index fr lo K kc rem Kt k : Nat} {ret : Option FieldType} {ws Ts : List Cond} {own C : String} {b : Addr} {As rest : List Value} {ls : Array Slot} {pc : Nat} {G : pG} {A0 : Nat → Prop} {w : va_W} {bs : List va_W} {P : va_W → Prop}
/-- a static writer that answers an address -/
theorem wrSr {Pr : Nat → va_W → Prop} (S : CallFix p m c cc nL s args Ts own) (hM : MWr l y ws fr lo K G As H w Pr) (cw : CallB R s args own index y bytes maxL ret ws (rmK fr lo K) K K n ∧ (Cond.static y).before args s = true) (hK : va_K G.1 vwCl (tyG G) s) (hS : va_S A0 H0 H locs) (hA : ∀ q, H0.size ≤ q → A0 q) (hB : bk G.1 vwCl A0 bs H) (hk0 : bs[k]? = some w) (hk : kc + (K + rem) = Kt) (hR : R.cells = Kt ∧ R.slots = Kt) (hn : As.length = n) (hsz : ls.size = nL) (hW : (rest.map fun v => v.category).sum ≤ 8) (hdg : decode cc pc = .ok (.invokestatic index, 3))
    (kk : ∀ (ra : Nat) (u : va_W) (H1 : Heap) (locs1 : List Loc) (kc1 : Nat), Pr ra u → bk G.1 vwCl A0 (bs.set k u) H1 → va_S A0 H0 H1 locs1 → kc1 + rem = Kt → W p l e R s m args below meth c H1 locs1 kc1 kc1 Q (F0 m (pc + 3) ls (.ref ra :: rest))) :
    W p l e R s m args below meth c H locs kc kc Q (F0 m pc ls (As.reverse ++ rest)) := by
  have hA' : ∀ q, H.size ≤ q → A0 q := fun q h => hA q (Nat.le_trans hS.1 h)
  have hin := bk_inA hB hk0 hA'
  refine va_callr (va_runS (As := As) (rest := rest) S hM cw ⟨preG_blind, fun U hU hWm => ⟨rfl, hU, va_K.moved hWm.alike hK⟩⟩ rfl hn hsz rfl (lv_room hW) hdg (by rw [hR.1, hR.2]; omega)) hS (fun q _ h => hin q h) hin (fun u ra t H1 locs1 ht hvm hw hB1 hz1 hk1 hS1 => ?_)
  rw [ht] at hB1
  exact kk ra u H1 locs1 (kc + K) hB1.1 (bk_set hB hk0 hk1 hA' hB1.2.1 hB1.2.2) hS1 (by omega)
/-- a maker (invokespecial): the new object's own cell is its world -/
theorem wrI (S : CallFix p m c cc nL s args Ts own) (hM : MWv l y ws fr lo K G (.ref b :: As) H w P) (cw : CallB R s args own index y bytes maxL none ws (rmK fr lo K) K K n ∧ y.name = "<init>" ∧ (Cond.instanceMethod y).before args s = true) (hK : va_K G.1 vwCl (tyG G) s) (hS : va_S A0 H0 H locs) (hA : ∀ q, H0.size ≤ q → A0 q) (hB : bk G.1 vwCl A0 bs H) (hk0 : bs[k]? = some w) (hk : kc + (K + rem) = Kt) (hR : R.cells = Kt ∧ R.slots = Kt) (hn : As.length = n) (hsz : ls.size = nL) (hW : (rest.map fun v => v.category).sum ≤ 8) (hdg : decode cc pc = .ok (.invokespecial index, 3))
    (kk : ∀ (u : va_W) (H1 : Heap) (locs1 : List Loc) (kc1 : Nat), P u → bk G.1 vwCl A0 (bs.set k u) H1 → va_S A0 H0 H1 locs1 → kc1 + rem = Kt → W p l e R s m args below meth c H1 locs1 kc1 kc1 Q (F0 m (pc + 3) ls rest)) :
    W p l e R s m args below meth c H locs kc kc Q (F0 m pc ls (As.reverse ++ .ref b :: rest)) := by
  have hA' : ∀ q, H.size ≤ q → A0 q := fun q h => hA q (Nat.le_trans hS.1 h)
  have hin := bk_inA hB hk0 hA'
  refine va_callv (va_runI (As := As) (rest := rest) S hM cw ⟨preG_blind, fun U hU hWm => ⟨rfl, hU, va_K.moved hWm.alike hK⟩⟩ rfl hn hsz rfl (lv_room hW) hdg (by rw [hR.1, hR.2]; omega)) hS (fun q _ h => hin q h) hin (fun u t H1 locs1 ht hvm hw hB1 hz1 hk1 hS1 => ?_)
  rw [ht] at hB1
  exact kk u H1 locs1 (kc + K) hw (bk_set hB hk0 hk1 hA' hB1.1 hB1.2) hS1 (by omega)
end CL2
theorem gd_S {own : String} {idx : Nat} {y : MethodName} {x : Cond} (h1 : Cond.methodLink own idx y ∈ lw_g) (h2 : Cond.static y ∈ lw_g) (h4 : Cond.initialized y.cls ∈ lw_g) (h5 : x ∈ lw_g) : GoodIn lw_g (va_wsS own idx y (x :: lw_g)) := by
  intro w hw
  unfold va_wsS at hw
  rcases List.mem_append.mp hw with hw | hw
  · simp only [List.mem_cons, List.not_mem_nil, or_false] at hw
    rcases hw with rfl | rfl | rfl
    · exact gd_T _ h1
    · exact gd_T _ h2
    · exact gd_T _ h4
  · exact gd_c h5 w hw
theorem ca_eqZ {D : va_G} {cl : List vw_C} {tys : List (ClassId × FieldType)} {U : State} (h : va_K D cl tys U) (i j : Nat) {c1 c2 : ClassId} (h1 : tys[i]? = some (c1, .boolean)) (h2 : tys[j]? = some (c2, .boolean)) : c1 = c2 := by
  have e1 : U.vm.findClass ("[" ++ FieldType.boolean.toString) = some c1 := (h.2 i _ h1).2
  have e2 : U.vm.findClass ("[" ++ FieldType.boolean.toString) = some c2 := (h.2 j _ h2).2
  exact Option.some.inj (e1.symm.trans e2)
/-- arrays of numbers have one kind -/
theorem ca_eq {D : va_G} {cl : List vw_C} {tys : List (ClassId × FieldType)} {U : State} (h : va_K D cl tys U) (i j : Nat) {c1 c2 : ClassId} (h1 : tys[i]? = some (c1, .int)) (h2 : tys[j]? = some (c2, .int)) : c1 = c2 := by
  have e1 : U.vm.findClass ("[" ++ FieldType.int.toString) = some c1 := (h.2 i _ h1).2
  have e2 : U.vm.findClass ("[" ++ FieldType.int.toString) = some c2 := (h.2 j _ h2).2
  exact Option.some.inj (e1.symm.trans e2)
theorem ca_eqL {D : va_G} {cl : List vw_C} {tys : List (ClassId × FieldType)} {U : State} (h : va_K D cl tys U) (i j : Nat) {c1 c2 : ClassId} (h1 : tys[i]? = some (c1, .long)) (h2 : tys[j]? = some (c2, .long)) : c1 = c2 := by
  have e1 : U.vm.findClass ("[" ++ FieldType.long.toString) = some c1 := (h.2 i _ h1).2
  have e2 : U.vm.findClass ("[" ++ FieldType.long.toString) = some c2 := (h.2 j _ h2).2
  exact Option.some.inj (e1.symm.trans e2)
end
section
/-! A LIST OF NUMBERS: what it holds, and its room -/
abbrev tIL : Type := List Int32 × Nat
def pIL (G : pG) (a : Nat) (x : tIL) (w : va_W) : Prop := ∃ (q : Nat) (f : Nat → Int32), w = [[(a, .inr (0, [.ref q, .int (nI x.1.length)]))], [(q, .inl (G.2.1, x.2, .inl f))]].flatten ∧ (x.1.length ≤ x.2 ∧ 1 ≤ x.2 ∧ x.2 ≤ 16777216) ∧ ∀ i, i < x.1.length → f i = x.1.getD i 0
theorem pIL_recv {G : pG} {s : State} {H : Heap} {a : Nat} {x : tIL} {w : va_W} (hK : va_K G.1 vwCl (tyG G) s) (hP : va_P G.1 vwCl w H) (h : pIL G a x w) : ∃ cell : Cell, H[a]? = some cell ∧ cell.vm.isStatics = false ∧ s.vm.findClass RIL = some cell.cls := by
  obtain ⟨q, f, rfl, -, -⟩ := h
  exact va_recv (q0 := 0) (ci := 0) hK hP rfl rfl
def A_IL_length (x : tIL) : Int32 := nI x.1.length
def A_IL_at (x : tIL) (k : Int32) : Int32 := if k < 0 then -1 else if nI x.1.length ≤ k then -1 else x.1.getD k.toNatClampNeg 0
def A_IL_put (x : tIL) (k v : Int32) : tIL := if k < 0 then x else if nI x.1.length ≤ k then x else (x.1.set k.toNatClampNeg v, x.2)
def A_IL_cut (x : tIL) (n : Int32) : tIL := if n < 0 then x else if nI x.1.length ≤ n then x else (x.1.take n.toNatClampNeg, x.2)
def A_IL_add (x : tIL) (v : Int32) : tIL := (x.1 ++ [v], if x.1.length < x.2 then x.2 else 2 * x.1.length)
def K_IL_add (x : tIL) (_v : Int32) : Nat := if x.1.length < x.2 then 0 else 2 * x.1.length
set_option maxHeartbeats 4000000 in
set_option maxRecDepth 100000 in
theorem c_IL_length (l : Launch) (G : pG) (h0 : Nat) (x : tIL) (H : Heap) (w : va_W) (hP0 : va_P G.1 vwCl w H) (hσ : pIL G h0 x w) (res : Int32) (hr0 : A_IL_length x = res) : MRi l y_IL_length w_IL_length 0 0 G [.ref h0] H res := by
  refine Met.ofW (cc := b_IL_length) (maxL := 1) (ret := (some .int)) (by decide) rfl ?_
  intro p e s m args below meth c s₁ B hml hv
  obtain ⟨rfl, rfl, hK⟩ := hv
  have hx := B.exec
  have hb := B.bytes
  have hr := B.returns
  have hts0 := atoms_spec (ws := w_IL_length) B.pre
  have hts := fun w (h : w ∈ lw_g) => hts0 w (List.mem_cons_of_mem _ h)
  have hown : s.vm.findClass RIL = some m.cls := findClass_of_methodNamed B.named
  have hlocks := B.notSynchronized
  obtain ⟨q, f, rfl, hc, hf⟩ := hσ
  have hP := hP0
  obtain ⟨A, hAe⟩ : ∃ A : Nat → Prop, A = fun _ => False := ⟨_, rfl⟩
  rw [← hAe]
  have hS : va_S A s.heap s.heap [] := va_S.rf
  have hl := lv_entry ([.ref h0]) (n := 1) (Nat.le_of_ble_eq_true rfl)
  rw [lg_entry_eq]
  generalize (lg_sl ([.ref h0]) ++ List.replicate (1 - (lg_sl ([.ref h0])).length) Slot.unset).toArray = ls at hl ⊢
  have hl : lv_has ls 1 [(0, .ref h0)] := hl
  refine lv_aload_n hx hb d_IL_length_0 rfl (lv_at hl 0 rfl) ?_
  refine va_get (D := G.1) (ci := 0) (v := .int (nI x.1.length)) (C := RIL) (T := TIL) (N := 2) hx hb hts inIL hown hK hP 0 rfl rfl 1 (by decide) (hts _ fl_IL_15) (fun _ h9 => h9) rfl d_IL_length_1 ?_
  exact W.iret (v := nI x.1.length) hx hb hr (fun t ht hW => ⟨⟨nI x.1.length, (), rfl, hr0, ht⟩, hS.F ht⟩) hS.2.2 d_IL_length_4
set_option maxHeartbeats 4000000 in
set_option maxRecDepth 100000 in
theorem c_IL_at (l : Launch) (G : pG) (h0 : Nat) (x : tIL) (k : Int32) (H : Heap) (w : va_W) (hP0 : va_P G.1 vwCl w H) (hσ : pIL G h0 x w) (res : Int32) (hr0 : A_IL_at x k = res) : MRi l y_IL_at w_IL_at 0 0 G [.ref h0, .int k] H res := by
  refine Met.ofW (cc := b_IL_at) (maxL := 2) (ret := (some .int)) (by decide) rfl ?_
  intro p e s m args below meth c s₁ B hml hv
  obtain ⟨rfl, rfl, hK⟩ := hv
  have hx := B.exec
  have hb := B.bytes
  have hr := B.returns
  have hts0 := atoms_spec (ws := w_IL_at) B.pre
  have hts := fun w (h : w ∈ lw_g) => hts0 w (List.mem_cons_of_mem _ h)
  have hown : s.vm.findClass RIL = some m.cls := findClass_of_methodNamed B.named
  have hlocks := B.notSynchronized
  obtain ⟨q, f, rfl, hc, hf⟩ := hσ
  have hP := hP0
  obtain ⟨A, hAe⟩ : ∃ A : Nat → Prop, A = fun _ => False := ⟨_, rfl⟩
  rw [← hAe]
  have hS : va_S A s.heap s.heap [] := va_S.rf
  have hl := lv_entry ([.ref h0, .int k]) (n := 2) (Nat.le_of_ble_eq_true rfl)
  rw [lg_entry_eq]
  generalize (lg_sl ([.ref h0, .int k]) ++ List.replicate (2 - (lg_sl ([.ref h0, .int k])).length) Slot.unset).toArray = ls at hl ⊢
  have hl : lv_has ls 2 [(0, .ref h0), (1, .int k)] := hl
  unfold A_IL_at at hr0
  refine lv_iload_n hx hb d_IL_at_0 rfl (lv_at hl 1 rfl) ?_
  refine lv_if_lt (tgt := 21) hx hb d_IL_at_1 (by decide) (fun c1 => ?_) (fun c1 => ?_)
  · have hr0 := ai_pos c1 hr0
    refine lv_iconst (v := -1) hx hb d_IL_at_21 (by decide) ?_
    exact W.iret (v := -1) hx hb hr (fun t ht hW => ⟨⟨-1, (), rfl, hr0, ht⟩, hS.F ht⟩) hS.2.2 d_IL_at_22
  · have hr0 := ai_neg c1 hr0
    refine lv_iload_n hx hb d_IL_at_4 rfl (lv_at hl 1 rfl) ?_
    refine lv_aload_n hx hb d_IL_at_5 rfl (lv_at hl 0 rfl) ?_
    refine va_get (D := G.1) (ci := 0) (v := .int (nI x.1.length)) (C := RIL) (T := TIL) (N := 2) hx hb hts inIL hown hK hP 0 rfl rfl 1 (by decide) (hts _ fl_IL_15) (fun _ h9 => h9) rfl d_IL_at_6 ?_
    refine lv_icmp_ge (tgt := 21) hx hb d_IL_at_9 (by decide) (fun c2 => ?_) (fun c2 => ?_)
    · have hr0 := ai_pos c2 hr0
      refine lv_iconst (v := -1) hx hb d_IL_at_21 (by decide) ?_
      exact W.iret (v := -1) hx hb hr (fun t ht hW => ⟨⟨-1, (), rfl, hr0, ht⟩, hS.F ht⟩) hS.2.2 d_IL_at_22
    · have hr0 := ai_neg c2 hr0
      refine lv_aload_n hx hb d_IL_at_12 rfl (lv_at hl 0 rfl) ?_
      refine va_get (D := G.1) (ci := 0) (v := .ref q) (C := RIL) (T := TIL) (N := 2) hx hb hts inIL hown hK hP 0 rfl rfl 0 (by decide) (hts _ fl_IL_11) (fun _ h9 => h9) rfl d_IL_at_13 ?_
      refine lv_iload_n hx hb d_IL_at_16 rfl (lv_at hl 1 rfl) ?_
      obtain ⟨j, hj, rfl, -, hcl, -⟩ := pk_mu c1 c2 (by omega)
      have hin : vp_in (nI j) x.2 := vp_in_nI (by omega) (by omega)
      refine va_iald hx hb hK hP 1 0 rfl rfl hin d_IL_at_17 ?_
      refine lv_goto (tgt := 22) hx hb d_IL_at_18 (by decide) ?_
      rw [hcl, ← hf j hj] at hr0
      rw [hcl]
      exact W.iret (v := f j) hx hb hr (fun t ht hW => ⟨⟨f j, (), rfl, hr0, ht⟩, hS.F ht⟩) hS.2.2 d_IL_at_22
end
section
set_option maxHeartbeats 4000000 in
set_option maxRecDepth 100000 in
theorem c_AR_copyI (l : Launch) (G : pG) (a n0 N : Nat) (f : Nat → Int32) (H : Heap) (w : va_W) (hP0 : va_P G.1 vwCl w H) (hD0 : va_D (fun _ => True) w) (hσ : w = [(a, .inl (G.2.1, n0, .inl f))]) (hN : n0 < N) (hN2 : N ≤ 33554432) : MWr l y_AR_copyI w_AR_copyI 1 60 N G [.ref a, .int (nI N)] H w (fun q u => u = [(a, .inl (G.2.1, n0, .inl f)), (q, .inl (G.2.1, N, .inl (va_cpy f (fun _ => 0) 0 0 n0)))]) := by
  refine Met.ofW (cc := b_AR_copyI) (maxL := 3) (ret := (some (.array .int))) (by decide) rfl ?_
  intro p e s m args below meth c s₁ B hml hv
  obtain ⟨rfl, rfl, hK⟩ := hv
  have hx := B.exec
  have hb := B.bytes
  have hr := B.returns
  have hts0 := atoms_spec (ws := w_AR_copyI) B.pre
  have hts := fun w (h : w ∈ lw_g) => hts0 w (List.mem_cons_of_mem _ h)
  have hown : s.vm.findClass RAR = some m.cls := findClass_of_methodNamed B.named
  have hlocks := B.notSynchronized
  have hA : ∀ q : Nat, s.heap.size ≤ q → va_A w s.heap.size q := fun _ h => Or.inr h
  have hB : bk G.1 vwCl (va_A w s.heap.size) [w] s.heap := bk_init hP0 hD0
  generalize va_A w s.heap.size = A at *
  have hS : va_S A s.heap s.heap [] := va_S.rf
  subst hσ
  have hB : bk G.1 vwCl A [[(a, .inl (G.2.1, n0, .inl f))]] s.heap := hB
  have hl := lv_entry ([.ref a, .int (nI N)]) (n := 3) (Nat.le_of_ble_eq_true rfl)
  rw [lg_entry_eq]
  generalize (lg_sl ([.ref a, .int (nI N)]) ++ List.replicate (3 - (lg_sl ([.ref a, .int (nI N)])).length) Slot.unset).toArray = ls at hl ⊢
  have hl : lv_has ls 3 [(0, .ref a), (1, .int (nI N))] := hl
  refine lv_iload_n hx hb d_AR_copyI_0 rfl (lv_at hl 1 rfl) ?_
  refine lv_aload_n hx hb d_AR_copyI_1 rfl (lv_at hl 0 rfl) ?_
  refine va_alen (v := nI n0) hx hb hK hB.1 0 0 rfl rfl rfl d_AR_copyI_2 ?_
  refine lv_icmp_ne (tgt := 14) hx hb d_AR_copyI_3 (by decide) (fun c1 => ?_) (fun c1 => absurd ((nI_eq (by omega) (by omega)).mp c1) (by omega))
  refine lv_iload_n hx hb d_AR_copyI_14 rfl (lv_at hl 1 rfl) ?_
  refine va_newa (atype := .int) (ty := .int) (a0 := (N, .inl (fun _ => 0))) (N' := N) hx hb (hts _ arr_int) rfl hK hB.1 hB.2 hS hA (fun cA => rfl) (nI_pos (by omega)) (nI_clamp (by omega)) (show N * 4 ≤ 536870912 by omega) (Nat.le_trans (by omega : 0 + 1 ≤ N) (Nat.le_refl _)) (Nat.le_trans (by omega : 0 + N ≤ N) (Nat.le_refl _)) d_AR_copyI_15 (fun q cA H hK2 hP hD hS => ?_)
  obtain rfl : cA = G.2.1 := ca_eq hK2 3 0 rfl rfl
  have hB : bk G.1 vwCl A [[(a, .inl (G.2.1, n0, .inl f))], [(q, .inl (G.2.1, N, .inl (fun _ => 0)))]] H := ⟨hP, hD⟩
  refine W.widen (k := N) (n := N) (by omega) (by omega) ?_
  refine lv_astore_n (lv' := [(2, .ref q), (0, .ref a), (1, .int (nI N))]) hx hb d_AR_copyI_17 rfl hl (by decide) rfl (fun ls hl => ?_)
  refine lv_aload_n hx hb d_AR_copyI_18 rfl (lv_at hl 1 rfl) ?_
  refine lv_iconst (v := 0) hx hb d_AR_copyI_19 (by decide) ?_
  refine lv_aload_n hx hb d_AR_copyI_20 rfl (lv_at hl 0 rfl) ?_
  refine lv_iconst (v := 0) hx hb d_AR_copyI_21 (by decide) ?_
  refine lv_aload_n hx hb d_AR_copyI_22 rfl (lv_at hl 1 rfl) ?_
  refine va_alen (v := nI n0) hx hb hK hB.1 0 0 rfl rfl rfl d_AR_copyI_23 ?_
  refine lv_iload_n hx hb d_AR_copyI_24 rfl (lv_at hl 2 rfl) ?_
  refine va_mmin hx hb (hml.trans hl.1.symm) hown (hts _ ml_AR_304) (hts _ sm_math_min) (hts _ ini_java_lang_Math) (hts _ k_math_min) (Nat.le_of_ble_eq_true rfl) (Nat.le_of_ble_eq_true rfl) (Nat.le_refl _) (Nat.le_refl _) d_AR_copyI_25 ?_
  rw [if_neg (nI_nlt (by omega) (by omega))]
  refine va_copyi hx hb (hml.trans hl.1.symm) hown (hts _ ml_AR_150) (hts _ nv_sys_copy) (hts _ sm_sys_copy) (hts _ ini_java_lang_System) hK hB.1 hB.2 hS 0 1 0 0 rfl rfl rfl rfl rfl (sp := 0) (dp := 0) (n := nI n0) (by decide) (by decide) (nI_pos (by omega)) (by rw [nI_clamp (by omega)]; simp) (by rw [nI_clamp (by omega)]; simp; omega) (fun _ _ => rfl) (Nat.le_of_ble_eq_true rfl) (Nat.le_of_ble_eq_true rfl) d_AR_copyI_28 (fun H locs hP hD hS => ?_)
  rw [nI_clamp (by omega)] at hP hD
  have hB : bk G.1 vwCl A [[(a, .inl (G.2.1, n0, .inl f))], [(q, .inl (G.2.1, N, .inl (va_cpy f (fun _ => 0) 0 0 n0)))]] H := ⟨hP, hD⟩
  refine lv_aload_n hx hb d_AR_copyI_31 rfl (lv_at hl 0 rfl) ?_
  exact W.aret (v := .ref q) hx hb hr (Or.inr ⟨_, rfl⟩) (Or.inr ⟨_, rfl⟩) (fun t ht hW => ⟨⟨[(a, .inl (G.2.1, n0, .inl f)), (q, .inl (G.2.1, N, .inl (va_cpy f (fun _ => 0) 0 0 n0)))], q, rfl, trivial, rfl, by rw [ht]; exact hB.1, hB.2⟩, hS.F ht⟩) hS.2.2 d_AR_copyI_32

set_option maxHeartbeats 4000000 in
set_option maxRecDepth 100000 in
theorem c_AR_copyJ (l : Launch) (G : pG) (a n0 N : Nat) (f : Nat → Int64) (H : Heap) (w : va_W) (hP0 : va_P G.1 vwCl w H) (hD0 : va_D (fun _ => True) w) (hσ : w = [(a, .inl (G.2.2.1, n0, .inr (.inl f)))]) (hN : n0 < N) (hN2 : N ≤ 33554432) : MWr l y_AR_copyJ w_AR_copyJ 1 60 N G [.ref a, .int (nI N)] H w (fun q u => u = [(a, .inl (G.2.2.1, n0, .inr (.inl f))), (q, .inl (G.2.2.1, N, .inr (.inl (va_cpy f (fun _ => 0) 0 0 n0))))]) := by
  refine Met.ofW (cc := b_AR_copyJ) (maxL := 3) (ret := (some (.array .long))) (by decide) rfl ?_
  intro p e s m args below meth c s₁ B hml hv
  obtain ⟨rfl, rfl, hK⟩ := hv
  have hx := B.exec
  have hb := B.bytes
  have hr := B.returns
  have hts0 := atoms_spec (ws := w_AR_copyJ) B.pre
  have hts := fun w (h : w ∈ lw_g) => hts0 w (List.mem_cons_of_mem _ h)
  have hown : s.vm.findClass RAR = some m.cls := findClass_of_methodNamed B.named
  have hlocks := B.notSynchronized
  have hA : ∀ q : Nat, s.heap.size ≤ q → va_A w s.heap.size q := fun _ h => Or.inr h
  have hB : bk G.1 vwCl (va_A w s.heap.size) [w] s.heap := bk_init hP0 hD0
  generalize va_A w s.heap.size = A at *
  have hS : va_S A s.heap s.heap [] := va_S.rf
  subst hσ
  have hB : bk G.1 vwCl A [[(a, .inl (G.2.2.1, n0, .inr (.inl f)))]] s.heap := hB
  have hl := lv_entry ([.ref a, .int (nI N)]) (n := 3) (Nat.le_of_ble_eq_true rfl)
  rw [lg_entry_eq]
  generalize (lg_sl ([.ref a, .int (nI N)]) ++ List.replicate (3 - (lg_sl ([.ref a, .int (nI N)])).length) Slot.unset).toArray = ls at hl ⊢
  have hl : lv_has ls 3 [(0, .ref a), (1, .int (nI N))] := hl
  refine lv_iload_n hx hb d_AR_copyJ_0 rfl (lv_at hl 1 rfl) ?_
  refine lv_aload_n hx hb d_AR_copyJ_1 rfl (lv_at hl 0 rfl) ?_
  refine va_alen (v := nI n0) hx hb hK hB.1 0 1 rfl rfl rfl d_AR_copyJ_2 ?_
  refine lv_icmp_ne (tgt := 14) hx hb d_AR_copyJ_3 (by decide) (fun c1 => ?_) (fun c1 => absurd ((nI_eq (by omega) (by omega)).mp c1) (by omega))
  refine lv_iload_n hx hb d_AR_copyJ_14 rfl (lv_at hl 1 rfl) ?_
  refine va_newa (atype := .long) (ty := .long) (a0 := (N, .inr (.inl (fun _ => 0)))) (N' := N) hx hb (hts _ arr_long) rfl hK hB.1 hB.2 hS hA (fun cA => rfl) (nI_pos (by omega)) (nI_clamp (by omega)) (show N * 8 ≤ 536870912 by omega) (Nat.le_trans (by omega : 0 + 1 ≤ N) (Nat.le_refl _)) (Nat.le_trans (by omega : 0 + N ≤ N) (Nat.le_refl _)) d_AR_copyJ_15 (fun q cA H hK2 hP hD hS => ?_)
  obtain rfl : cA = G.2.2.1 := ca_eqL hK2 3 1 rfl rfl
  have hB : bk G.1 vwCl A [[(a, .inl (G.2.2.1, n0, .inr (.inl f)))], [(q, .inl (G.2.2.1, N, .inr (.inl (fun _ => 0))))]] H := ⟨hP, hD⟩
  refine W.widen (k := N) (n := N) (by omega) (by omega) ?_
  refine lv_astore_n (lv' := [(2, .ref q), (0, .ref a), (1, .int (nI N))]) hx hb d_AR_copyJ_17 rfl hl (by decide) rfl (fun ls hl => ?_)
  refine lv_aload_n hx hb d_AR_copyJ_18 rfl (lv_at hl 1 rfl) ?_
  refine lv_iconst (v := 0) hx hb d_AR_copyJ_19 (by decide) ?_
  refine lv_aload_n hx hb d_AR_copyJ_20 rfl (lv_at hl 0 rfl) ?_
  refine lv_iconst (v := 0) hx hb d_AR_copyJ_21 (by decide) ?_
  refine lv_aload_n hx hb d_AR_copyJ_22 rfl (lv_at hl 1 rfl) ?_
  refine va_alen (v := nI n0) hx hb hK hB.1 0 1 rfl rfl rfl d_AR_copyJ_23 ?_
  refine lv_iload_n hx hb d_AR_copyJ_24 rfl (lv_at hl 2 rfl) ?_
  refine va_mmin hx hb (hml.trans hl.1.symm) hown (hts _ ml_AR_304) (hts _ sm_math_min) (hts _ ini_java_lang_Math) (hts _ k_math_min) (Nat.le_of_ble_eq_true rfl) (Nat.le_of_ble_eq_true rfl) (Nat.le_refl _) (Nat.le_refl _) d_AR_copyJ_25 ?_
  rw [if_neg (nI_nlt (by omega) (by omega))]
  refine va_copyl hx hb (hml.trans hl.1.symm) hown (hts _ ml_AR_150) (hts _ nv_sys_copy) (hts _ sm_sys_copy) (hts _ ini_java_lang_System) hK hB.1 hB.2 hS 0 1 1 1 rfl rfl rfl rfl rfl (sp := 0) (dp := 0) (n := nI n0) (by decide) (by decide) (nI_pos (by omega)) (by rw [nI_clamp (by omega)]; simp) (by rw [nI_clamp (by omega)]; simp; omega) (fun _ _ => rfl) (Nat.le_of_ble_eq_true rfl) (Nat.le_of_ble_eq_true rfl) d_AR_copyJ_28 (fun H locs hP hD hS => ?_)
  rw [nI_clamp (by omega)] at hP hD
  have hB : bk G.1 vwCl A [[(a, .inl (G.2.2.1, n0, .inr (.inl f)))], [(q, .inl (G.2.2.1, N, .inr (.inl (va_cpy f (fun _ => 0) 0 0 n0))))]] H := ⟨hP, hD⟩
  refine lv_aload_n hx hb d_AR_copyJ_31 rfl (lv_at hl 0 rfl) ?_
  exact W.aret (v := .ref q) hx hb hr (Or.inr ⟨_, rfl⟩) (Or.inr ⟨_, rfl⟩) (fun t ht hW => ⟨⟨[(a, .inl (G.2.2.1, n0, .inr (.inl f))), (q, .inl (G.2.2.1, N, .inr (.inl (va_cpy f (fun _ => 0) 0 0 n0))))], q, rfl, trivial, rfl, by rw [ht]; exact hB.1, hB.2⟩, hS.F ht⟩) hS.2.2 d_AR_copyJ_32

set_option maxHeartbeats 4000000 in
set_option maxRecDepth 100000 in
theorem c_AR_fill (l : Launch) (G : pG) (a N : Nat) (f : Nat → Int32) (v : Int32) (H : Heap) (w : va_W) (hP0 : va_P G.1 vwCl w H) (hD0 : va_D (fun _ => True) w) (hσ : w = [(a, .inl (G.2.1, N, .inl f))]) (hN : N < 2 ^ 31) : MWv l y_AR_fill w_AR_fill 0 0 0 G [.ref a, .int v] H w (fun u => u = [(a, .inl (G.2.1, N, .inl (fun _ => v)))]) := by
  refine Met.ofW (cc := b_AR_fill) (maxL := 4) (ret := none) (by decide) rfl ?_
  intro p e s m args below meth c s₁ B hml hv
  obtain ⟨rfl, rfl, hK⟩ := hv
  have hx := B.exec
  have hb := B.bytes
  have hr := B.returns
  have hts0 := atoms_spec (ws := w_AR_fill) B.pre
  have hts := fun w (h : w ∈ lw_g) => hts0 w (List.mem_cons_of_mem _ h)
  have hown : s.vm.findClass RAR = some m.cls := findClass_of_methodNamed B.named
  have hlocks := B.notSynchronized
  have hA : ∀ q : Nat, s.heap.size ≤ q → va_A w s.heap.size q := fun _ h => Or.inr h
  have hB : bk G.1 vwCl (va_A w s.heap.size) [w] s.heap := bk_init hP0 hD0
  generalize va_A w s.heap.size = A at *
  have hS : va_S A s.heap s.heap [] := va_S.rf
  subst hσ
  have hB : bk G.1 vwCl A [[(a, .inl (G.2.1, N, .inl f))]] s.heap := hB
  have hl := lv_entry ([.ref a, .int v]) (n := 4) (Nat.le_of_ble_eq_true rfl)
  rw [lg_entry_eq]
  generalize (lg_sl ([.ref a, .int v]) ++ List.replicate (4 - (lg_sl ([.ref a, .int v])).length) Slot.unset).toArray = ls at hl ⊢
  have hl : lv_has ls 4 [(0, .ref a), (1, .int v)] := hl
  refine lv_iconst (v := 0) hx hb d_AR_fill_0 (by decide) ?_
  refine lv_istore_n (lv' := [(2, .int 0), (0, .ref a), (1, .int v)]) hx hb d_AR_fill_1 rfl hl (by decide) rfl (fun ls hl => ?_)
  refine lv_aload_n hx hb d_AR_fill_2 rfl (lv_at hl 1 rfl) ?_
  refine va_alen (v := nI N) hx hb hK hB.1 0 0 rfl rfl rfl d_AR_fill_3 ?_
  refine lv_istore_n (lv' := [(3, .int (nI N)), (2, .int 0), (0, .ref a), (1, .int v)]) hx hb d_AR_fill_4 rfl hl (by decide) rfl (fun ls hl => ?_)
  refine lp_W (I := fun n H locs kc ls => ∃ (k : Nat) (g : Nat → Int32), bk G.1 vwCl A [[(a, .inl (G.2.1, N, .inl g))]] H ∧ va_S A s.heap H locs ∧ lv_has ls 4 [(0, .ref a), (1, .int v), (3, .int (nI N)), (2, .int (nI k))] ∧ kc = 0 ∧ k ≤ N ∧ (∀ i, i < k → g i = v) ∧ N - k < n) ?_ ?_ (N + 1) _ _ _ _ ⟨0, f, hB, hS, lv_sub hl [2, 3, 0, 1] rfl, rfl, Nat.zero_le _, fun i h => absurd h (Nat.not_lt_zero i), by omega⟩
  · intro n ih H locs kc ls ⟨k, g, hB, hS, hl, hkc, hk, hg, hm⟩
    subst hkc
    refine lv_iload_n hx hb d_AR_fill_5 rfl (lv_at hl 3 rfl) ?_
    refine lv_iload_n hx hb d_AR_fill_6 rfl (lv_at hl 2 rfl) ?_
    refine lv_icmp_ge (tgt := 20) hx hb d_AR_fill_7 (by decide) (fun c1 => ?_) (fun c1 => ?_)
    · have hkN : N ≤ k := (nI_leI hN (by omega)).mp c1
      have hB2 : bk G.1 vwCl A [[(a, .inl (G.2.1, N, .inl (fun _ => v)))]] H := by
        refine ⟨?_, ⟨fun i j p q hi hj e => ?_, fun i q hi => ?_⟩⟩
        · intro i q hi
          match i, hi with
          | 0, hi =>
            obtain rfl := Option.some.inj hi
            have h1 := hB.1 0 _ rfl
            have h2 : H[a]? = some (vp_cell G.2.1 (N, .inl g)) := h1
            show H[a]? = some (vp_cell G.2.1 (N, .inl (fun _ => v)))
            rw [h2, vp_cell_i, vp_cell_i]
            refine congrArg some ?_
            unfold arrV
            congr 1
            refine congrArg Array.ofFn (funext fun j => ?_)
            show Value.int (g j.val) = Value.int v
            rw [hg j.val (by have := j.isLt; omega)]
          | i + 1, hi => simp at hi
        · match i, j, hi, hj with
          | 0, 0, _, _ => rfl
          | i + 1, _, hi, _ => simp at hi
          | 0, j + 1, _, hj => simp at hj
        · match i, hi with
          | 0, hi =>
            obtain rfl := Option.some.inj hi
            exact (hB.2.2 0 (a, .inl (G.2.1, N, .inl g)) rfl : A a)
          | i + 1, hi => simp at hi
      exact W.vret hx hb hr (fun t ht hW => ⟨⟨[(a, .inl (G.2.1, N, .inl (fun _ => v)))], rfl, rfl, by rw [ht]; exact hB2.1, hB2.2⟩, hS.F ht⟩) hS.2.2 d_AR_fill_20
    · have hkN : k < N := by
        rcases Nat.lt_or_ge k N with h | h
        · exact h
        · exact absurd (nI_le h (by omega)) c1
      refine lv_aload_n hx hb d_AR_fill_10 rfl (lv_at hl 0 rfl) ?_
      refine lv_iload_n hx hb d_AR_fill_11 rfl (lv_at hl 3 rfl) ?_
      refine lv_iload_n hx hb d_AR_fill_12 rfl (lv_at hl 1 rfl) ?_
      refine va_iast hx hb hK hB.1 hB.2 hS 0 0 rfl rfl (vp_in_nI hkN hN) d_AR_fill_13 (fun H locs hP hD hS => ?_)
      rw [nI_clamp (by omega)] at hP hD
      refine lv_iinc (v := nI (k + 1)) (lv' := [(2, .int (nI (k + 1))), (0, .ref a), (1, .int v), (3, .int (nI N))]) hx hb d_AR_fill_14 hl (k := 3) rfl (by rw [nI_succ]; rfl) (by decide) rfl (fun ls hl => ?_)
      refine lv_goto (tgt := 5) hx hb d_AR_fill_17 (by decide) ?_
      refine ih _ _ _ _ ⟨k + 1, upd g k v, ⟨hP, hD⟩, hS, lv_sub hl [1, 2, 3, 0] rfl, rfl, by omega, fun i hi => ?_, by omega⟩
      rcases Nat.lt_or_ge i k with h | h
      · rw [pk_un (by omega)]; exact hg i h
      · obtain rfl : i = k := by omega
        exact pk_us
  · rintro H locs kc ls ⟨_, _, -, -, -, -, -, -, hm⟩; exact Nat.not_lt_zero _ hm
end
section
set_option maxHeartbeats 4000000 in
set_option maxRecDepth 100000 in
theorem c_IL_put (l : Launch) (G : pG) (h0 : Nat) (x : tIL) (k : Int32) (v : Int32) (H : Heap) (w : va_W) (hP0 : va_P G.1 vwCl w H) (hD0 : va_D (fun _ => True) w) (hσ : pIL G h0 x w) (res : tIL) (hr0 : A_IL_put x k v = res) : MWv l y_IL_put w_IL_put 0 0 0 G [.ref h0, .int k, .int v] H w (pIL G h0 res) := by
  refine Met.ofW (cc := b_IL_put) (maxL := 3) (ret := none) (by decide) rfl ?_
  intro p e s m args below meth c s₁ B hml hv
  obtain ⟨rfl, rfl, hK⟩ := hv
  have hx := B.exec
  have hb := B.bytes
  have hr := B.returns
  have hts0 := atoms_spec (ws := w_IL_put) B.pre
  have hts := fun w (h : w ∈ lw_g) => hts0 w (List.mem_cons_of_mem _ h)
  have hown : s.vm.findClass RIL = some m.cls := findClass_of_methodNamed B.named
  have hlocks := B.notSynchronized
  have hA : ∀ q : Nat, s.heap.size ≤ q → va_A w s.heap.size q := fun _ h => Or.inr h
  have hB : bk G.1 vwCl (va_A w s.heap.size) [w] s.heap := bk_init hP0 hD0
  generalize va_A w s.heap.size = A at *
  have hS : va_S A s.heap s.heap [] := va_S.rf
  obtain ⟨q, f, rfl, hc, hf⟩ := hσ
  have hB := bk_many hB
  have hl := lv_entry ([.ref h0, .int k, .int v]) (n := 3) (Nat.le_of_ble_eq_true rfl)
  rw [lg_entry_eq]
  generalize (lg_sl ([.ref h0, .int k, .int v]) ++ List.replicate (3 - (lg_sl ([.ref h0, .int k, .int v])).length) Slot.unset).toArray = ls at hl ⊢
  have hl : lv_has ls 3 [(0, .ref h0), (1, .int k), (2, .int v)] := hl
  unfold A_IL_put at hr0
  have fin : ∀ (H : Heap) (locs : List Loc) (ls : Array Slot) (g : Nat → Int32) (z : tIL), z = res → z.2 = x.2 → z.1.length = x.1.length → (∀ i, i < z.1.length → g i = z.1.getD i 0) → bk G.1 vwCl A [[(h0, .inr (0, [.ref q, .int (nI x.1.length)]))], [(q, .inl (G.2.1, x.2, .inl g))]] H → va_S A s.heap H locs → W p l e (headSpec w_IL_put (rmK 0 0 0)).room s m [.ref h0, .int k, .int v].toArray below meth c H locs 0 0 (MQ below (va_Qv (fun u => pIL G h0 res u) (fun u t => va_P G.1 vwCl u t.heap ∧ va_D A u) A) [.ref h0, .int k, .int v].toArray s 0 0 A) (F0 m 19 ls []) := by
    intro H locs ls g z hz h2 h1 hg hB hS
    subst hz
    exact W.vret hx hb hr (fun t ht hW => ⟨⟨[[(h0, .inr (0, [.ref q, .int (nI x.1.length)]))], [(q, .inl (G.2.1, x.2, .inl g))]].flatten, rfl, ⟨q, g, by rw [h1, h2], by rw [h1, h2]; exact hc, hg⟩, by rw [ht]; exact hB.1, hB.2⟩, hS.F ht⟩) hS.2.2 d_IL_put_19
  refine lv_iload_n hx hb d_IL_put_0 rfl (lv_at hl 1 rfl) ?_
  refine lv_if_lt (tgt := 19) hx hb d_IL_put_1 (by decide) (fun c1 => ?_) (fun c1 => ?_)
  · exact fin _ _ _ f x (ai_pos c1 hr0) rfl rfl hf hB hS
  · have hr0 := ai_neg c1 hr0
    refine lv_iload_n hx hb d_IL_put_4 rfl (lv_at hl 1 rfl) ?_
    refine lv_aload_n hx hb d_IL_put_5 rfl (lv_at hl 0 rfl) ?_
    refine va_get (D := G.1) (ci := 0) (v := .int (nI x.1.length)) (C := RIL) (T := TIL) (N := 2) hx hb hts inIL hown hK hB.1 0 rfl rfl 1 (by decide) (hts _ fl_IL_15) (fun _ h9 => h9) rfl d_IL_put_6 ?_
    refine lv_icmp_ge (tgt := 19) hx hb d_IL_put_9 (by decide) (fun c2 => ?_) (fun c2 => ?_)
    · exact fin _ _ _ f x (ai_pos c2 hr0) rfl rfl hf hB hS
    · have hr0 := ai_neg c2 hr0
      refine lv_aload_n hx hb d_IL_put_12 rfl (lv_at hl 0 rfl) ?_
      refine va_get (D := G.1) (ci := 0) (v := .ref q) (C := RIL) (T := TIL) (N := 2) hx hb hts inIL hown hK hB.1 0 rfl rfl 0 (by decide) (hts _ fl_IL_11) (fun _ h9 => h9) rfl d_IL_put_13 ?_
      refine lv_iload_n hx hb d_IL_put_16 rfl (lv_at hl 1 rfl) ?_
      refine lv_iload_n hx hb d_IL_put_17 rfl (lv_at hl 2 rfl) ?_
      obtain ⟨j, hj, rfl, -, hcl, -⟩ := pk_mu c1 c2 (by omega)
      refine va_iast hx hb hK hB.1 hB.2 hS 1 0 rfl rfl (vp_in_nI (by omega) (by omega)) d_IL_put_18 (fun H locs hP hD hS => ?_)
      rw [hcl] at hP hD hr0
      refine fin H locs _ (upd f j v) _ hr0 rfl (by simp) (fun i hi => ?_) ⟨hP, hD⟩ hS
      simp only [List.length_set] at hi
      by_cases h : i = j
      · subst h
        rw [pk_us]; simp [List.getD_eq_getElem?_getD, hi]
      · rw [pk_un h, hf i hi]
        simp [List.getD_eq_getElem?_getD, List.getElem?_set_ne (Ne.symm h)]

set_option maxHeartbeats 4000000 in
set_option maxRecDepth 100000 in
theorem c_IL_cut (l : Launch) (G : pG) (h0 : Nat) (x : tIL) (k : Int32) (H : Heap) (w : va_W) (hP0 : va_P G.1 vwCl w H) (hD0 : va_D (fun _ => True) w) (hσ : pIL G h0 x w) (res : tIL) (hr0 : A_IL_cut x k = res) : MWv l y_IL_cut w_IL_cut 0 0 0 G [.ref h0, .int k] H w (pIL G h0 res) := by
  refine Met.ofW (cc := b_IL_cut) (maxL := 2) (ret := none) (by decide) rfl ?_
  intro p e s m args below meth c s₁ B hml hv
  obtain ⟨rfl, rfl, hK⟩ := hv
  have hx := B.exec
  have hb := B.bytes
  have hr := B.returns
  have hts0 := atoms_spec (ws := w_IL_cut) B.pre
  have hts := fun w (h : w ∈ lw_g) => hts0 w (List.mem_cons_of_mem _ h)
  have hown : s.vm.findClass RIL = some m.cls := findClass_of_methodNamed B.named
  have hlocks := B.notSynchronized
  have hA : ∀ q : Nat, s.heap.size ≤ q → va_A w s.heap.size q := fun _ h => Or.inr h
  have hB : bk G.1 vwCl (va_A w s.heap.size) [w] s.heap := bk_init hP0 hD0
  generalize va_A w s.heap.size = A at *
  have hS : va_S A s.heap s.heap [] := va_S.rf
  obtain ⟨q, f, rfl, hc, hf⟩ := hσ
  have hB := bk_many hB
  have hl := lv_entry ([.ref h0, .int k]) (n := 2) (Nat.le_of_ble_eq_true rfl)
  rw [lg_entry_eq]
  generalize (lg_sl ([.ref h0, .int k]) ++ List.replicate (2 - (lg_sl ([.ref h0, .int k])).length) Slot.unset).toArray = ls at hl ⊢
  have hl : lv_has ls 2 [(0, .ref h0), (1, .int k)] := hl
  unfold A_IL_cut at hr0
  refine lv_iload_n hx hb d_IL_cut_0 rfl (lv_at hl 1 rfl) ?_
  refine lv_if_lt (tgt := 17) hx hb d_IL_cut_1 (by decide) (fun c1 => ?_) (fun c1 => ?_)
  · have hr0 := ai_pos c1 hr0
    subst hr0
    exact W.vret hx hb hr (fun t ht hW => ⟨⟨[[(h0, .inr (0, [.ref q, .int (nI x.1.length)]))], [(q, .inl (G.2.1, x.2, .inl f))]].flatten, rfl, ⟨q, f, rfl, hc, hf⟩, by rw [ht]; exact hB.1, hB.2⟩, hS.F ht⟩) hS.2.2 d_IL_cut_17
  · have hr0 := ai_neg c1 hr0
    refine lv_iload_n hx hb d_IL_cut_4 rfl (lv_at hl 1 rfl) ?_
    refine lv_aload_n hx hb d_IL_cut_5 rfl (lv_at hl 0 rfl) ?_
    refine va_get (D := G.1) (ci := 0) (v := .int (nI x.1.length)) (C := RIL) (T := TIL) (N := 2) hx hb hts inIL hown hK hB.1 0 rfl rfl 1 (by decide) (hts _ fl_IL_15) (fun _ h9 => h9) rfl d_IL_cut_6 ?_
    refine lv_icmp_ge (tgt := 17) hx hb d_IL_cut_9 (by decide) (fun c2 => ?_) (fun c2 => ?_)
    · have hr0 := ai_pos c2 hr0
      subst hr0
      exact W.vret hx hb hr (fun t ht hW => ⟨⟨[[(h0, .inr (0, [.ref q, .int (nI x.1.length)]))], [(q, .inl (G.2.1, x.2, .inl f))]].flatten, rfl, ⟨q, f, rfl, hc, hf⟩, by rw [ht]; exact hB.1, hB.2⟩, hS.F ht⟩) hS.2.2 d_IL_cut_17
    · have hr0 := ai_neg c2 hr0
      refine lv_aload_n hx hb d_IL_cut_12 rfl (lv_at hl 0 rfl) ?_
      refine lv_iload_n hx hb d_IL_cut_13 rfl (lv_at hl 1 rfl) ?_
      obtain ⟨j, hj, rfl, -, hcl, -⟩ := pk_mu c1 c2 (by omega)
      rw [hcl] at hr0
      refine va_put (D := G.1) (ci := 0) (v := .int (nI j)) (ty := .int) (C := RIL) (T := TIL) (N := 2) hx hb hts inIL tyIL tokIL nmIL hown hK hB.1 hB.2 hS 0 rfl rfl 1 (by decide) (hts _ fl_IL_15) (fun _ h9 => h9) rfl (by decide +kernel) rfl rfl (Nat.le_of_ble_eq_true rfl) d_IL_cut_14 (fun H locs hP hD hS => ?_)
      have hB : bk G.1 vwCl A [[(h0, .inr (0, [.ref q, .int (nI j)]))], [(q, .inl (G.2.1, x.2, .inl f))]] H := ⟨hP, hD⟩
      subst hr0
      have hln : (x.1.take j).length = j := by simp; omega
      exact W.vret hx hb hr (fun t ht hW => ⟨⟨[[(h0, .inr (0, [.ref q, .int (nI j)]))], [(q, .inl (G.2.1, x.2, .inl f))]].flatten, rfl, ⟨q, f, by simp only [hln], by simp only [hln]; omega, fun i hi => by
        have hi : i < j := by simpa only [hln] using hi
        rw [hf i (by omega)]
        simp [List.getD_eq_getElem?_getD, List.getElem?_take, hi]⟩, by rw [ht]; exact hB.1, hB.2⟩, hS.F ht⟩) hS.2.2 d_IL_cut_17

theorem il_app {xs : List Int32} {f : Nat → Int32} {v : Int32} (hf : ∀ i, i < xs.length → f i = xs.getD i 0) : ∀ i, i < (xs ++ [v]).length → upd f xs.length v i = (xs ++ [v]).getD i 0 := by
  intro i hi
  simp only [List.length_append, List.length_cons, List.length_nil] at hi
  by_cases h : i = xs.length
  · subst h; rw [pk_us]; simp [List.getD_eq_getElem?_getD]
  · rw [pk_un h, hf i (by omega)]
    simp [List.getD_eq_getElem?_getD, List.getElem?_append_left (show i < xs.length by omega)]

set_option maxHeartbeats 4000000 in
set_option maxRecDepth 100000 in
theorem c_IL_add (l : Launch) (G : pG) (h0 : Nat) (x : tIL) (v : Int32) (H : Heap) (w : va_W) (hP0 : va_P G.1 vwCl w H) (hD0 : va_D (fun _ => True) w) (hσ : pIL G h0 x w) (res : tIL) (hr0 : A_IL_add x v = res) (Kt : Nat) (hk : K_IL_add x v = Kt) (hKb : Kt ≤ 16777216) : MWv l y_IL_add w_IL_add 2 82 Kt G [.ref h0, .int v] H w (pIL G h0 res) := by
  refine Met.ofW (cc := b_IL_add) (maxL := 2) (ret := none) (by decide) rfl ?_
  intro p e s m args below meth c s₁ B hml hv
  obtain ⟨rfl, rfl, hK⟩ := hv
  have hx := B.exec
  have hb := B.bytes
  have hr := B.returns
  have hts0 := atoms_spec (ws := w_IL_add) B.pre
  have hts := fun w (h : w ∈ lw_g) => hts0 w (List.mem_cons_of_mem _ h)
  have hown : s.vm.findClass RIL = some m.cls := findClass_of_methodNamed B.named
  have hlocks := B.notSynchronized
  have hA : ∀ q : Nat, s.heap.size ≤ q → va_A w s.heap.size q := fun _ h => Or.inr h
  have hB : bk G.1 vwCl (va_A w s.heap.size) [w] s.heap := bk_init hP0 hD0
  generalize va_A w s.heap.size = A at *
  have hS : va_S A s.heap s.heap [] := va_S.rf
  obtain ⟨q, f, rfl, hc, hf⟩ := hσ
  have hB := bk_many hB
  have hl := lv_entry ([.ref h0, .int v]) (n := 2) (Nat.le_of_ble_eq_true rfl)
  rw [lg_entry_eq]
  generalize (lg_sl ([.ref h0, .int v]) ++ List.replicate (2 - (lg_sl ([.ref h0, .int v])).length) Slot.unset).toArray = ls at hl ⊢
  have hl : lv_has ls 2 [(0, .ref h0), (1, .int v)] := hl
  unfold K_IL_add at hk
  subst hr0
  refine lv_aload_n hx hb d_IL_add_0 rfl (lv_at hl 0 rfl) ?_
  refine va_get (D := G.1) (ci := 0) (v := .int (nI x.1.length)) (C := RIL) (T := TIL) (N := 2) hx hb hts inIL hown hK hB.1 0 rfl rfl 1 (by decide) (hts _ fl_IL_15) (fun _ h9 => h9) rfl d_IL_add_1 ?_
  refine lv_aload_n hx hb d_IL_add_4 rfl (lv_at hl 0 rfl) ?_
  refine va_get (D := G.1) (ci := 0) (v := .ref q) (C := RIL) (T := TIL) (N := 2) hx hb hts inIL hown hK hB.1 0 rfl rfl 0 (by decide) (hts _ fl_IL_11) (fun _ h9 => h9) rfl d_IL_add_5 ?_
  refine va_alen (v := nI x.2) hx hb hK hB.1 1 0 rfl rfl rfl d_IL_add_8 ?_
  refine lv_icmp_lt (tgt := 29) hx hb d_IL_add_9 (by decide) (fun c1 => ?_) (fun c1 => ?_)
  · have hlt : x.1.length < x.2 := (nI_ltI (by omega) (by omega)).mp c1
    have hcap : x.1.length < x.2 := hlt
    refine lv_aload_n hx hb d_IL_add_29 rfl (lv_at hl 0 rfl) ?_
    refine va_get (D := G.1) (ci := 0) (v := .ref q) (C := RIL) (T := TIL) (N := 2) hx hb hts inIL hown hK hB.1 0 rfl rfl 0 (by decide) (hts _ fl_IL_11) (fun _ h9 => h9) rfl d_IL_add_30 ?_
    refine lv_aload_n hx hb d_IL_add_33 rfl (lv_at hl 0 rfl) ?_
    refine va_get (D := G.1) (ci := 0) (v := .int (nI x.1.length)) (C := RIL) (T := TIL) (N := 2) hx hb hts inIL hown hK hB.1 0 rfl rfl 1 (by decide) (hts _ fl_IL_15) (fun _ h9 => h9) rfl d_IL_add_34 ?_
    refine lv_iload_n hx hb d_IL_add_37 rfl (lv_at hl 1 rfl) ?_
    refine va_iast hx hb hK hB.1 hB.2 hS 1 0 rfl rfl (vp_in_nI (by omega) (by omega)) d_IL_add_38 (fun H locs hP hD hS => ?_)
    rw [nI_clamp (by omega)] at hP hD
    have hB : bk G.1 vwCl A [[(h0, .inr (0, [.ref q, .int (nI x.1.length)]))], [(q, .inl (G.2.1, x.2, .inl (upd f x.1.length v)))]] H := ⟨hP, hD⟩
    refine lv_aload_n hx hb d_IL_add_39 rfl (lv_at hl 0 rfl) ?_
    refine lv_dup hx hb d_IL_add_40 rfl ?_
    refine va_get (D := G.1) (ci := 0) (v := .int (nI x.1.length)) (C := RIL) (T := TIL) (N := 2) hx hb hts inIL hown hK hB.1 0 rfl rfl 1 (by decide) (hts _ fl_IL_15) (fun _ h9 => h9) rfl d_IL_add_41 ?_
    refine lv_iconst (v := 1) hx hb d_IL_add_44 (by decide) ?_
    refine lv_iadd hx hb d_IL_add_45 ?_
    rw [nI_1]
    refine va_put (D := G.1) (ci := 0) (v := .int (nI (x.1.length + 1))) (ty := .int) (C := RIL) (T := TIL) (N := 2) hx hb hts inIL tyIL tokIL nmIL hown hK hB.1 hB.2 hS 0 rfl rfl 1 (by decide) (hts _ fl_IL_15) (fun _ h9 => h9) rfl (by decide +kernel) rfl rfl (Nat.le_of_ble_eq_true rfl) d_IL_add_46 (fun H locs hP hD hS => ?_)
    have hB : bk G.1 vwCl A [[(h0, .inr (0, [.ref q, .int (nI (x.1.length + 1))]))], [(q, .inl (G.2.1, x.2, .inl (upd f x.1.length v)))]] H := ⟨hP, hD⟩
    refine W.widen (k := Kt) (n := Kt) (Nat.zero_le _) (Nat.zero_le _) ?_
    exact W.vret hx hb hr (fun t ht hW => ⟨⟨[[(h0, .inr (0, [.ref q, .int (nI (x.1.length + 1))]))], [(q, .inl (G.2.1, x.2, .inl (upd f x.1.length v)))]].flatten, rfl, ⟨q, upd f x.1.length v, by simp [A_IL_add, hcap], by simp [A_IL_add, hcap]; omega, il_app (by assumption)⟩, by rw [ht]; exact hB.1, hB.2⟩, hS.F ht⟩) hS.2.2 d_IL_add_49

  · have hge : x.1.length = x.2 := by
      rcases Nat.lt_or_ge x.1.length x.2 with h | h
      · exact absurd ((nI_ltI (by omega) (by omega)).mpr h) c1
      · omega
    rw [if_neg (by omega)] at hk
    refine lv_aload_n hx hb d_IL_add_12 rfl (lv_at hl 0 rfl) ?_
    refine lv_aload_n hx hb d_IL_add_13 rfl (lv_at hl 0 rfl) ?_
    refine va_get (D := G.1) (ci := 0) (v := .ref q) (C := RIL) (T := TIL) (N := 2) hx hb hts inIL hown hK hB.1 0 rfl rfl 0 (by decide) (hts _ fl_IL_11) (fun _ h9 => h9) rfl d_IL_add_14 ?_
    refine lv_iconst (v := 2) hx hb d_IL_add_17 (by decide) ?_
    refine lv_aload_n hx hb d_IL_add_18 rfl (lv_at hl 0 rfl) ?_
    refine va_get (D := G.1) (ci := 0) (v := .int (nI x.1.length)) (C := RIL) (T := TIL) (N := 2) hx hb hts inIL hown hK hB.1 0 rfl rfl 1 (by decide) (hts _ fl_IL_15) (fun _ h9 => h9) rfl d_IL_add_19 ?_
    refine lv_imul hx hb d_IL_add_22 ?_
    rw [show (2 : Int32) * nI x.1.length = nI (2 * x.1.length) from (pk_mul 2 x.1.length)]
    refine wrSr (G := G) (k := 1) (As := [.ref q, .int (nI (2 * x.1.length))]) (rest := [.ref h0]) (K := 2 * x.1.length) (rem := 0) (Kt := Kt) ⟨hx, hb, hml, hown, hts⟩ (c_AR_copyI l G q x.2 (2 * x.1.length) f _ _ (bk_gP (k := 1) hB.1 rfl) (bk_own (k := 1) hB rfl) rfl (by omega) (by omega)) (va_cwS 2 hts (gd_S ml_IL_19 sm_AR_copyI ini_AR k_AR_copyI) rfl rfl rfl (by decide +kernel) ⟨Nat.le_of_ble_eq_true rfl, Nat.le_of_ble_eq_true rfl⟩) hK hS hA hB rfl (by omega) ⟨rfl, rfl⟩ rfl hl.1 (Nat.le_of_ble_eq_true rfl) d_IL_add_23 (fun ra u H locs kc hu hB hS hk2 => ?_)
    subst hu
    have hB : bk G.1 vwCl A [[(h0, .inr (0, [.ref q, .int (nI x.1.length)]))], [(q, .inl (G.2.1, x.2, .inl f)), (ra, .inl (G.2.1, 2 * x.1.length, .inl (va_cpy f (fun _ => 0) 0 0 x.2)))]] H := hB
    refine va_put (D := G.1) (ci := 0) (v := .ref ra) (ty := .array .int) (C := RIL) (T := TIL) (N := 2) hx hb hts inIL tyIL tokIL nmIL hown hK hB.1 hB.2 hS 0 rfl rfl 0 (by decide) (hts _ fl_IL_11) (fun _ h9 => h9) rfl (by decide +kernel) rfl rfl (Nat.le_of_ble_eq_true rfl) d_IL_add_26 (fun H locs hP hD hS => ?_)
    have hB : bk G.1 vwCl A [[(h0, .inr (0, [.ref ra, .int (nI x.1.length)]))], [(ra, .inl (G.2.1, (2 * x.1.length), .inl (va_cpy f (fun _ => 0) 0 0 x.2)))]] H := ⟨va_P.sub hP [0, 2] rfl, va_D.sub hD [0, 2] (by decide) rfl⟩
    have hcap : ¬ x.1.length < x.2 := by omega
    have hf2 : ∀ i, i < x.1.length → va_cpy f (fun _ => 0) 0 0 x.2 i = x.1.getD i 0 := fun i hi => by
      rw [pk_cpy_in (Nat.zero_le _) (by omega)]
      simpa using hf i hi
    generalize va_cpy f (fun _ => 0) 0 0 x.2 = g at hB hf2
    clear hf
    refine lv_aload_n hx hb d_IL_add_29 rfl (lv_at hl 0 rfl) ?_
    refine va_get (D := G.1) (ci := 0) (v := .ref ra) (C := RIL) (T := TIL) (N := 2) hx hb hts inIL hown hK hB.1 0 rfl rfl 0 (by decide) (hts _ fl_IL_11) (fun _ h9 => h9) rfl d_IL_add_30 ?_
    refine lv_aload_n hx hb d_IL_add_33 rfl (lv_at hl 0 rfl) ?_
    refine va_get (D := G.1) (ci := 0) (v := .int (nI x.1.length)) (C := RIL) (T := TIL) (N := 2) hx hb hts inIL hown hK hB.1 0 rfl rfl 1 (by decide) (hts _ fl_IL_15) (fun _ h9 => h9) rfl d_IL_add_34 ?_
    refine lv_iload_n hx hb d_IL_add_37 rfl (lv_at hl 1 rfl) ?_
    refine va_iast hx hb hK hB.1 hB.2 hS 1 0 rfl rfl (vp_in_nI (by omega) (by omega)) d_IL_add_38 (fun H locs hP hD hS => ?_)
    rw [nI_clamp (by omega)] at hP hD
    have hB : bk G.1 vwCl A [[(h0, .inr (0, [.ref ra, .int (nI x.1.length)]))], [(ra, .inl (G.2.1, (2 * x.1.length), .inl (upd g x.1.length v)))]] H := ⟨hP, hD⟩
    refine lv_aload_n hx hb d_IL_add_39 rfl (lv_at hl 0 rfl) ?_
    refine lv_dup hx hb d_IL_add_40 rfl ?_
    refine va_get (D := G.1) (ci := 0) (v := .int (nI x.1.length)) (C := RIL) (T := TIL) (N := 2) hx hb hts inIL hown hK hB.1 0 rfl rfl 1 (by decide) (hts _ fl_IL_15) (fun _ h9 => h9) rfl d_IL_add_41 ?_
    refine lv_iconst (v := 1) hx hb d_IL_add_44 (by decide) ?_
    refine lv_iadd hx hb d_IL_add_45 ?_
    rw [nI_1]
    refine va_put (D := G.1) (ci := 0) (v := .int (nI (x.1.length + 1))) (ty := .int) (C := RIL) (T := TIL) (N := 2) hx hb hts inIL tyIL tokIL nmIL hown hK hB.1 hB.2 hS 0 rfl rfl 1 (by decide) (hts _ fl_IL_15) (fun _ h9 => h9) rfl (by decide +kernel) rfl rfl (Nat.le_of_ble_eq_true rfl) d_IL_add_46 (fun H locs hP hD hS => ?_)
    have hB : bk G.1 vwCl A [[(h0, .inr (0, [.ref ra, .int (nI (x.1.length + 1))]))], [(ra, .inl (G.2.1, (2 * x.1.length), .inl (upd g x.1.length v)))]] H := ⟨hP, hD⟩
    refine W.widen (k := Kt) (n := Kt) (by omega) (by omega) ?_
    exact W.vret hx hb hr (fun t ht hW => ⟨⟨[[(h0, .inr (0, [.ref ra, .int (nI (x.1.length + 1))]))], [(ra, .inl (G.2.1, (2 * x.1.length), .inl (upd g x.1.length v)))]].flatten, rfl, ⟨ra, upd g x.1.length v, by simp [A_IL_add, hcap], by simp [A_IL_add, hcap]; omega, il_app (by assumption)⟩, by rw [ht]; exact hB.1, hB.2⟩, hS.F ht⟩) hS.2.2 d_IL_add_49
end
section
def A_IL_fillN (v : Int32) : Nat → tIL → tIL
  | 0, x => x
  | n + 1, x => A_IL_fillN v n (A_IL_add x v)
def K_IL_fillN (v : Int32) : Nat → tIL → Nat
  | 0, _ => 0
  | n + 1, x => K_IL_add x v + K_IL_fillN v n (A_IL_add x v)
def A_IL_fill (x : tIL) (n v : Int32) : tIL := A_IL_fillN v n.toNatClampNeg ([], x.2)
def K_IL_fill (x : tIL) (n v : Int32) : Nat := K_IL_fillN v n.toNatClampNeg ([], x.2)
def A_IL_turnL : Nat → Int32 → Int32 → tIL → tIL
  | 0, _, _, x => x
  | n + 1, lo, hi, x => if hi ≤ lo then x else A_IL_turnL n (lo + 1) (hi + (-1)) (A_IL_put (A_IL_put x lo (A_IL_at x hi)) hi (A_IL_at x lo))
def A_IL_turnRound (x : tIL) (first : Int32) : tIL := A_IL_turnL (((nI x.1.length - 1).toInt - first.toInt).toNat + 1) first (nI x.1.length - 1) x
theorem fl_in {n : Int32} {k : Nat} (h : ¬ n ≤ nI k) (hk : k < 2 ^ 31) : k < n.toNatClampNeg ∧ n = nI n.toNatClampNeg ∧ n.toNatClampNeg < 2 ^ 31 := by
  have h1 : ¬ n < 0 := fun h2 => by
    have a := Int32.lt_iff_toInt_lt.mp h2
    have b := nI_toInt hk
    have c : (0 : Int32).toInt = 0 := rfl
    exact h (Int32.le_iff_toInt_le.mpr (by omega))
  obtain ⟨j, hj, rfl⟩ := nI_of h1
  rw [nI_clamp hj]
  refine ⟨?_, rfl, hj⟩
  rcases Nat.lt_or_ge k j with h2 | h2
  · exact h2
  · exact absurd (nI_le h2 hk) h
theorem fl_out {n : Int32} {k : Nat} (h : n ≤ nI k) (hk : k < 2 ^ 31) : n.toNatClampNeg ≤ k := by
  by_cases h1 : n < 0
  · have a := Int32.lt_iff_toInt_lt.mp h1
    have c : (0 : Int32).toInt = 0 := rfl
    show n.toInt.toNat ≤ k
    omega
  · obtain ⟨j, hj, rfl⟩ := nI_of h1
    rw [nI_clamp hj]
    exact (nI_leI hj hk).mp h
theorem fl_lt (n : Int32) : n.toNatClampNeg < 2 ^ 31 := by
  have h := Int32.toInt_lt n
  show n.toInt.toNat < 2 ^ 31
  omega

set_option maxHeartbeats 4000000 in
set_option maxRecDepth 100000 in
theorem c_IL_fill (l : Launch) (G : pG) (h0 : Nat) (x : tIL) (n : Int32) (v : Int32) (H : Heap) (w : va_W) (hP0 : va_P G.1 vwCl w H) (hD0 : va_D (fun _ => True) w) (hσ : pIL G h0 x w) (res : tIL) (hr0 : A_IL_fill x n v = res) (Kt : Nat) (hk : K_IL_fill x n v = Kt) (hKb : Kt ≤ 16777216) : MWv l y_IL_fill w_IL_fill 3 103 Kt G [.ref h0, .int n, .int v] H w (pIL G h0 res) := by
  refine Met.ofW (cc := b_IL_fill) (maxL := 4) (ret := none) (by decide) rfl ?_
  intro p e s m args below meth c s₁ B hml hv
  obtain ⟨rfl, rfl, hK⟩ := hv
  have hx := B.exec
  have hb := B.bytes
  have hr := B.returns
  have hts0 := atoms_spec (ws := w_IL_fill) B.pre
  have hts := fun w (h : w ∈ lw_g) => hts0 w (List.mem_cons_of_mem _ h)
  have hown : s.vm.findClass RIL = some m.cls := findClass_of_methodNamed B.named
  have hlocks := B.notSynchronized
  have hA : ∀ q : Nat, s.heap.size ≤ q → va_A w s.heap.size q := fun _ h => Or.inr h
  have hB : bk G.1 vwCl (va_A w s.heap.size) [w] s.heap := bk_init hP0 hD0
  generalize va_A w s.heap.size = A at *
  have hS : va_S A s.heap s.heap [] := va_S.rf
  obtain ⟨q, f, rfl, hc, hf⟩ := hσ
  have hB := bk_many hB
  have hl := lv_entry ([.ref h0, .int n, .int v]) (n := 4) (Nat.le_of_ble_eq_true rfl)
  rw [lg_entry_eq]
  generalize (lg_sl ([.ref h0, .int n, .int v]) ++ List.replicate (4 - (lg_sl ([.ref h0, .int n, .int v])).length) Slot.unset).toArray = ls at hl ⊢
  have hl : lv_has ls 4 [(0, .ref h0), (1, .int n), (2, .int v)] := hl
  unfold A_IL_fill at hr0
  unfold K_IL_fill at hk
  refine lv_aload_n hx hb d_IL_fill_0 rfl (lv_at hl 0 rfl) ?_
  refine lv_iconst (v := 0) hx hb d_IL_fill_1 (by decide) ?_
  refine va_put (D := G.1) (ci := 0) (v := .int 0) (ty := .int) (C := RIL) (T := TIL) (N := 2) hx hb hts inIL tyIL tokIL nmIL hown hK hB.1 hB.2 hS 0 rfl rfl 1 (by decide) (hts _ fl_IL_15) (fun _ h9 => h9) rfl (by decide +kernel) rfl rfl (Nat.le_of_ble_eq_true rfl) d_IL_fill_2 (fun H locs hP hD hS => ?_)
  have hB : bk G.1 vwCl A [[(h0, .inr (0, [.ref q, .int 0]))], [(q, .inl (G.2.1, x.2, .inl f))]] H := ⟨hP, hD⟩
  refine lv_iconst (v := 0) hx hb d_IL_fill_5 (by decide) ?_
  refine lv_istore_n (lv' := [(3, .int 0), (0, .ref h0), (1, .int n), (2, .int v)]) hx hb d_IL_fill_6 rfl hl (by decide) rfl (fun ls hl => ?_)
  have hN := fl_lt n
  refine lp_W (I := fun i H locs kc ls => ∃ (k : Nat) (z : tIL) (w : va_W), pIL G h0 z w ∧ bk G.1 vwCl A [w] H ∧ va_S A s.heap H locs ∧ lv_has ls 4 [(0, .ref h0), (1, .int n), (2, .int v), (3, .int (nI k))] ∧ k ≤ n.toNatClampNeg ∧ A_IL_fillN v (n.toNatClampNeg - k) z = res ∧ kc + K_IL_fillN v (n.toNatClampNeg - k) z = Kt ∧ n.toNatClampNeg - k < i) ?_ ?_ (n.toNatClampNeg + 1) _ _ _ _ ⟨0, ([], x.2), _, ⟨q, f, rfl, ⟨Nat.zero_le _, hc.2⟩, fun i hi => absurd hi (Nat.not_lt_zero i)⟩, bk_one hB, hS, lv_sub hl [1, 2, 3, 0] rfl, Nat.zero_le _, hr0, (Nat.zero_add _).trans hk, by omega⟩
  · intro i ih H locs kc ls ⟨k, z, w, hz, hB, hS, hl, hkN, hr0, hk, hm⟩
    refine lv_iload_n hx hb d_IL_fill_7 rfl (lv_at hl 3 rfl) ?_
    refine lv_iload_n hx hb d_IL_fill_8 rfl (lv_at hl 1 rfl) ?_
    refine lv_icmp_ge (tgt := 23) hx hb d_IL_fill_9 (by decide) (fun c1 => ?_) (fun c1 => ?_)
    · have h1 := fl_out c1 (by omega)
      rw [show n.toNatClampNeg - k = 0 by omega] at hr0 hk
      have hr0 : z = res := hr0
      subst hr0
      refine W.widen (k := Kt) (n := Kt) (Nat.le.intro hk) (Nat.le.intro hk) ?_
      exact W.vret hx hb hr (fun t ht hW => ⟨⟨w, rfl, hz, by rw [ht]; exact (bk_get (k := 0) hB rfl), by have := hB.2; simpa using this⟩, hS.F ht⟩) hS.2.2 d_IL_fill_23
    · obtain ⟨h1, h2, h3⟩ := fl_in c1 (by omega)
      rw [show n.toNatClampNeg - k = (n.toNatClampNeg - (k + 1)) + 1 by omega] at hr0 hk
      rw [A_IL_fillN] at hr0
      rw [K_IL_fillN] at hk
      refine lv_aload_n hx hb d_IL_fill_12 rfl (lv_at hl 0 rfl) ?_
      refine lv_iload_n hx hb d_IL_fill_13 rfl (lv_at hl 2 rfl) ?_
      refine wrV (G := G) (k := 0) (As := [.int v]) (rest := []) (C := RIL) ⟨hx, hb, hml, hown, hts⟩ (c_IL_add l G h0 z v _ _ (bk_get (k := 0) hB rfl) (bk_own (k := 0) hB rfl) hz _ rfl _ rfl (bk_ub hk hKb)) (cwV 1 hts (gd_V ml_IL_25 im_IL_add sl_IL_add ini_IL k_IL_add) rfl rfl rfl (by decide +kernel) ⟨Nat.le_of_ble_eq_true rfl, Nat.le_of_ble_eq_true rfl⟩) hK (pIL_recv hK (bk_get (k := 0) hB rfl) hz) hS hA hB rfl hk ⟨rfl, rfl⟩ rfl hl.1 (Nat.le_of_ble_eq_true rfl) d_IL_fill_14 (fun u H locs kc hu hB hS hk => ?_)
      have hB : bk G.1 vwCl A [u] H := hB
      refine lv_iinc (v := nI (k + 1)) (lv' := [(3, .int (nI (k + 1))), (0, .ref h0), (1, .int n), (2, .int v)]) hx hb d_IL_fill_17 hl (k := 3) rfl (by rw [nI_succ]; rfl) (by decide) rfl (fun ls hl => ?_)
      refine lv_goto (tgt := 7) hx hb d_IL_fill_20 (by decide) ?_
      exact ih _ _ _ _ ⟨k + 1, _, u, hu, hB, hS, lv_sub hl [1, 2, 3, 0] rfl, by omega, hr0, hk, by omega⟩
  · rintro H locs kc ls ⟨_, _, _, -, -, -, -, -, -, -, hm⟩; exact Nat.not_lt_zero _ hm

theorem tr_dec {lo hi : Int32} {n : Nat} (c : ¬ hi ≤ lo) (hm : (hi.toInt - lo.toInt).toNat < n + 1) : ((hi + (-1)).toInt - (lo + 1).toInt).toNat < n := by
  have c1 : lo.toInt < hi.toInt := by
    rcases (show lo.toInt < hi.toInt ∨ hi.toInt ≤ lo.toInt by omega) with h | h
    · exact h
    · exact absurd (Int32.le_iff_toInt_le.mpr h) c
  have a1 := Int32.le_toInt lo
  have a2 := Int32.toInt_lt hi
  have e1 : (lo + 1).toInt = lo.toInt + 1 := by
    rw [Int32.toInt_add]
    rw [show (1 : Int32).toInt = 1 from rfl]
    apply Int.bmod_eq_of_le <;> omega
  have e2 : (hi + (-1)).toInt = hi.toInt - 1 := by
    rw [Int32.toInt_add]
    rw [show (-1 : Int32).toInt = -1 from rfl]
    rw [Int.bmod_eq_of_le] <;> omega
  omega

set_option maxHeartbeats 4000000 in
set_option maxRecDepth 100000 in
theorem c_IL_turnRound (l : Launch) (G : pG) (h0 : Nat) (x : tIL) (first : Int32) (H : Heap) (w : va_W) (hP0 : va_P G.1 vwCl w H) (hD0 : va_D (fun _ => True) w) (hσ : pIL G h0 x w) (res : tIL) (hr0 : A_IL_turnRound x first = res) : MWv l y_IL_turnRound w_IL_turnRound 1 22 0 G [.ref h0, .int first] H w (pIL G h0 res) := by
  refine Met.ofW (cc := b_IL_turnRound) (maxL := 5) (ret := none) (by decide) rfl ?_
  intro p e s m args below meth c s₁ B hml hv
  obtain ⟨rfl, rfl, hK⟩ := hv
  have hx := B.exec
  have hb := B.bytes
  have hr := B.returns
  have hts0 := atoms_spec (ws := w_IL_turnRound) B.pre
  have hts := fun w (h : w ∈ lw_g) => hts0 w (List.mem_cons_of_mem _ h)
  have hown : s.vm.findClass RIL = some m.cls := findClass_of_methodNamed B.named
  have hlocks := B.notSynchronized
  have hA : ∀ q : Nat, s.heap.size ≤ q → va_A w s.heap.size q := fun _ h => Or.inr h
  have hB : bk G.1 vwCl (va_A w s.heap.size) [w] s.heap := bk_init hP0 hD0
  generalize va_A w s.heap.size = A at *
  have hS : va_S A s.heap s.heap [] := va_S.rf
  have hx0 := hσ
  have hB0 := hB
  obtain ⟨q, f, rfl, hc, hf⟩ := hσ
  have hB := bk_many hB
  have hl := lv_entry ([.ref h0, .int first]) (n := 5) (Nat.le_of_ble_eq_true rfl)
  rw [lg_entry_eq]
  generalize (lg_sl ([.ref h0, .int first]) ++ List.replicate (5 - (lg_sl ([.ref h0, .int first])).length) Slot.unset).toArray = ls at hl ⊢
  have hl : lv_has ls 5 [(0, .ref h0), (1, .int first)] := hl
  unfold A_IL_turnRound at hr0
  refine lv_iload_n hx hb d_IL_turnRound_0 rfl (lv_at hl 1 rfl) ?_
  refine lv_istore_n (lv' := [(2, .int first), (0, .ref h0), (1, .int first)]) hx hb d_IL_turnRound_1 rfl hl (by decide) rfl (fun ls hl => ?_)
  refine lv_aload_n hx hb d_IL_turnRound_2 rfl (lv_at hl 1 rfl) ?_
  refine va_get (D := G.1) (ci := 0) (v := .int (nI x.1.length)) (C := RIL) (T := TIL) (N := 2) hx hb hts inIL hown hK hB.1 0 rfl rfl 1 (by decide) (hts _ fl_IL_15) (fun _ h9 => h9) rfl d_IL_turnRound_3 ?_
  refine lv_iconst (v := 1) hx hb d_IL_turnRound_6 (by decide) ?_
  refine lv_isub hx hb d_IL_turnRound_7 ?_
  refine lv_istore_n (lv' := [(3, .int (nI x.1.length - 1)), (2, .int first), (0, .ref h0), (1, .int first)]) hx hb d_IL_turnRound_8 rfl hl (by decide) rfl (fun ls hl => ?_)
  refine lp_W (I := fun i H locs kc ls => ∃ (lo hi : Int32) (z : tIL) (w : va_W), kc = 0 ∧ pIL G h0 z w ∧ bk G.1 vwCl A [w] H ∧ va_S A s.heap H locs ∧ lv_has ls 5 [(0, .ref h0), (2, .int lo), (3, .int hi)] ∧ A_IL_turnL i lo hi z = res ∧ (hi.toInt - lo.toInt).toNat < i) ?_ ?_ (((nI x.1.length - 1).toInt - first.toInt).toNat + 1) _ _ _ _ ⟨first, nI x.1.length - 1, x, _, rfl, hx0, hB0, hS, lv_sub hl [2, 1, 0] rfl, hr0, Nat.lt_succ_self _⟩
  · intro i ih H locs kc ls ⟨lo, hi, z, w, hkc, hz, hB, hS, hl, hr0, hm⟩
    subst hkc
    rw [A_IL_turnL] at hr0
    refine lv_iload_n hx hb d_IL_turnRound_9 rfl (lv_at hl 1 rfl) ?_
    refine lv_iload_n hx hb d_IL_turnRound_10 rfl (lv_at hl 2 rfl) ?_
    refine lv_icmp_ge (tgt := 47) hx hb d_IL_turnRound_11 (by decide) (fun c1 => ?_) (fun c1 => ?_)
    · have hr0 := ai_pos c1 hr0
      subst hr0
      exact W.vret hx hb hr (fun t ht hW => ⟨⟨w, rfl, hz, by rw [ht]; exact (bk_get (k := 0) hB rfl), by have := hB.2; simpa using this⟩, hS.F ht⟩) hS.2.2 d_IL_turnRound_47
    · have hr0 := ai_neg c1 hr0
      refine lv_aload_n hx hb d_IL_turnRound_14 rfl (lv_at hl 0 rfl) ?_
      refine lv_iload_n hx hb d_IL_turnRound_15 rfl (lv_at hl 1 rfl) ?_
      refine rdV (G := G) (As := [.int lo]) (rest := []) (C := RIL) ⟨hx, hb, hml, hown, hts⟩ (c_IL_at l G h0 z lo _ _ (bk_get (k := 0) hB rfl) hz _ rfl) (cwV 1 hts (gd_V ml_IL_29 im_IL_at sl_IL_at ini_IL k_IL_at) rfl rfl rfl (by decide +kernel) ⟨Nat.le_of_ble_eq_true rfl, Nat.le_of_ble_eq_true rfl⟩) hK (pIL_recv hK (bk_get (k := 0) hB rfl) hz) hS ⟨Nat.le_refl _, Nat.le_refl _⟩ rfl hl.1 (Nat.le_of_ble_eq_true rfl) d_IL_turnRound_16 (fun locs hS => ?_)
      refine lv_istore (lv' := [(4, .int (A_IL_at z lo)), (0, .ref h0), (2, .int lo), (3, .int hi)]) hx hb d_IL_turnRound_19 hl (by decide) rfl (fun ls hl => ?_)
      refine lv_aload_n hx hb d_IL_turnRound_21 rfl (lv_at hl 1 rfl) ?_
      refine lv_iload_n hx hb d_IL_turnRound_22 rfl (lv_at hl 2 rfl) ?_
      refine lv_aload_n hx hb d_IL_turnRound_23 rfl (lv_at hl 1 rfl) ?_
      refine lv_iload_n hx hb d_IL_turnRound_24 rfl (lv_at hl 3 rfl) ?_
      refine rdV (G := G) (As := [.int hi]) (rest := [.int lo, .ref h0]) (C := RIL) ⟨hx, hb, hml, hown, hts⟩ (c_IL_at l G h0 z hi _ _ (bk_get (k := 0) hB rfl) hz _ rfl) (cwV 1 hts (gd_V ml_IL_29 im_IL_at sl_IL_at ini_IL k_IL_at) rfl rfl rfl (by decide +kernel) ⟨Nat.le_of_ble_eq_true rfl, Nat.le_of_ble_eq_true rfl⟩) hK (pIL_recv hK (bk_get (k := 0) hB rfl) hz) hS ⟨Nat.le_refl _, Nat.le_refl _⟩ rfl hl.1 (Nat.le_of_ble_eq_true rfl) d_IL_turnRound_25 (fun locs hS => ?_)
      refine wrV0 (G := G) (k := 0) (As := [.int lo, .int (A_IL_at z hi)]) (rest := []) (C := RIL) (rem := 0) (Kt := 0) ⟨hx, hb, hml, hown, hts⟩ (c_IL_put l G h0 (z) lo (A_IL_at z hi) _ _ (bk_get (k := 0) hB rfl) (bk_own (k := 0) hB rfl) hz _ rfl) (cwV 2 hts (gd_V ml_IL_33 im_IL_put sl_IL_put ini_IL k_IL_put) rfl rfl rfl (by decide +kernel) ⟨Nat.le_of_ble_eq_true rfl, Nat.le_of_ble_eq_true rfl⟩) hK (pIL_recv hK (bk_get (k := 0) hB rfl) hz) hS hA hB rfl rfl ⟨rfl, rfl⟩ rfl hl.1 (Nat.le_of_ble_eq_true rfl) d_IL_turnRound_28 (fun u1 H locs hu1 hB hS => ?_)
      have hB : bk G.1 vwCl A [u1] H := hB
      refine lv_aload_n hx hb d_IL_turnRound_31 rfl (lv_at hl 1 rfl) ?_
      refine lv_iload_n hx hb d_IL_turnRound_32 rfl (lv_at hl 3 rfl) ?_
      refine lv_iload hx hb d_IL_turnRound_33 (lv_at hl 0 rfl) ?_
      refine wrV0 (G := G) (k := 0) (As := [.int hi, .int (A_IL_at z lo)]) (rest := []) (C := RIL) (rem := 0) (Kt := 0) ⟨hx, hb, hml, hown, hts⟩ (c_IL_put l G h0 (A_IL_put z lo (A_IL_at z hi)) hi (A_IL_at z lo) _ _ (bk_get (k := 0) hB rfl) (bk_own (k := 0) hB rfl) hu1 _ rfl) (cwV 2 hts (gd_V ml_IL_33 im_IL_put sl_IL_put ini_IL k_IL_put) rfl rfl rfl (by decide +kernel) ⟨Nat.le_of_ble_eq_true rfl, Nat.le_of_ble_eq_true rfl⟩) hK (pIL_recv hK (bk_get (k := 0) hB rfl) hu1) hS hA hB rfl rfl ⟨rfl, rfl⟩ rfl hl.1 (Nat.le_of_ble_eq_true rfl) d_IL_turnRound_35 (fun u2 H locs hu2 hB hS => ?_)
      have hB : bk G.1 vwCl A [u2] H := hB
      refine lv_iinc (v := lo + 1) (lv' := [(2, .int (lo + 1)), (4, .int (A_IL_at z lo)), (0, .ref h0), (3, .int hi)]) hx hb d_IL_turnRound_38 hl (k := 2) rfl rfl (by decide) rfl (fun ls hl => ?_)
      refine lv_iinc (v := hi + (-1)) (lv' := [(3, .int (hi + (-1))), (2, .int (lo + 1)), (4, .int (A_IL_at z lo)), (0, .ref h0)]) hx hb d_IL_turnRound_41 hl (k := 3) rfl rfl (by decide) rfl (fun ls hl => ?_)
      refine lv_goto (tgt := 9) hx hb d_IL_turnRound_44 (by decide) ?_
      exact ih _ _ _ _ ⟨lo + 1, hi + (-1), _, u2, rfl, hu2, hB, hS, lv_sub hl [3, 1, 0] rfl, hr0, tr_dec c1 hm⟩
  · rintro H locs kc ls ⟨_, _, _, _, -, -, -, -, -, -, hm⟩; exact Nat.not_lt_zero _ hm

set_option maxHeartbeats 4000000 in
set_option maxRecDepth 100000 in
theorem c_IL_init (l : Launch) (G : pG) (h0 : Nat) (H : Heap) (w : va_W) (hP0 : va_P G.1 vwCl w H) (hD0 : va_D (fun _ => True) w) (hσ : w = [(h0, .inr (0, [.null, .int 0]))]) : MWv l y_IL_init w_IL_init 1 12 16 G [.ref h0] H w (pIL G h0 ([], 16)) := by
  refine Met.ofW (cc := b_IL_init) (maxL := 1) (ret := none) (by decide) rfl ?_
  intro p e s m args below meth c s₁ B hml hv
  obtain ⟨rfl, rfl, hK⟩ := hv
  have hx := B.exec
  have hb := B.bytes
  have hr := B.returns
  have hts0 := atoms_spec (ws := w_IL_init) B.pre
  have hts := fun w (h : w ∈ lw_g) => hts0 w (List.mem_cons_of_mem _ h)
  have hown : s.vm.findClass RIL = some m.cls := findClass_of_methodNamed B.named
  have hlocks := B.notSynchronized
  have hA : ∀ q : Nat, s.heap.size ≤ q → va_A w s.heap.size q := fun _ h => Or.inr h
  have hB : bk G.1 vwCl (va_A w s.heap.size) [w] s.heap := bk_init hP0 hD0
  generalize va_A w s.heap.size = A at *
  have hS : va_S A s.heap s.heap [] := va_S.rf
  subst hσ
  have hB : bk G.1 vwCl A [[(h0, .inr (0, [.null, .int 0]))]] s.heap := hB
  have hin : meth.name = "<init>" := (name_of_methodNamed B.named B.method).1
  have hl := lv_entry ([.ref h0]) (n := 1) (Nat.le_of_ble_eq_true rfl)
  rw [lg_entry_eq]
  generalize (lg_sl ([.ref h0]) ++ List.replicate (1 - (lg_sl ([.ref h0])).length) Slot.unset).toArray = ls at hl ⊢
  have hl : lv_has ls 1 [(0, .ref h0)] := hl
  refine lv_aload_n hx hb d_IL_init_0 rfl (lv_at hl 0 rfl) ?_
  refine W.objInit hx hb hown (hts _ ml_IL_3) (hts _ im_obj_init) (hts _ k_obj_init) rfl (by rw [hml]; exact hl.1) rfl d_IL_init_1 (Nat.le_of_ble_eq_true rfl) (Nat.le_of_ble_eq_true rfl) ?_
  refine W.eq (g2 := F0 m 4 ls []) rfl ?_
  refine lv_aload_n hx hb d_IL_init_4 rfl (lv_at hl 0 rfl) ?_
  refine lv_bipush (v := 16) hx hb d_IL_init_5 (by decide) ?_
  refine va_newa (atype := .int) (ty := .int) (a0 := (16, .inl (fun _ => 0))) (N' := 16) hx hb (hts _ arr_int) rfl hK hB.1 hB.2 hS hA (fun cA => rfl) (by decide) (by decide) (by decide) (Nat.le_of_ble_eq_true rfl) (Nat.le_of_ble_eq_true rfl) d_IL_init_7 (fun q cA H hK2 hP hD hS => ?_)
  obtain rfl : cA = G.2.1 := ca_eq hK2 3 0 rfl rfl
  have hB : bk G.1 vwCl A [[(h0, .inr (0, [.null, .int 0]))], [(q, .inl (G.2.1, 16, .inl (fun _ => 0)))]] H := ⟨hP, hD⟩
  refine W.widen (k := 16) (n := 16) (by decide) (by decide) ?_
  refine va_put (D := G.1) (ci := 0) (v := .ref q) (ty := .array .int) (C := RIL) (T := TIL) (N := 2) hx hb hts inIL tyIL tokIL nmIL hown hK hB.1 hB.2 hS 0 rfl rfl 0 (by decide) (hts _ fl_IL_11) (fun _ h9 => h9) rfl (by decide +kernel) rfl rfl (Nat.le_of_ble_eq_true rfl) d_IL_init_9 (fun H locs hP hD hS => ?_)
  have hB : bk G.1 vwCl A [[(h0, .inr (0, [.ref q, .int 0]))], [(q, .inl (G.2.1, 16, .inl (fun _ => 0)))]] H := ⟨hP, hD⟩
  refine lv_aload_n hx hb d_IL_init_12 rfl (lv_at hl 0 rfl) ?_
  refine lv_iconst (v := 0) hx hb d_IL_init_13 (by decide) ?_
  refine va_put (D := G.1) (ci := 0) (v := .int 0) (ty := .int) (C := RIL) (T := TIL) (N := 2) hx hb hts inIL tyIL tokIL nmIL hown hK hB.1 hB.2 hS 0 rfl rfl 1 (by decide) (hts _ fl_IL_15) (fun _ h9 => h9) rfl (by decide +kernel) rfl rfl (Nat.le_of_ble_eq_true rfl) d_IL_init_14 (fun H locs hP hD hS => ?_)
  have hB : bk G.1 vwCl A [[(h0, .inr (0, [.ref q, .int 0]))], [(q, .inl (G.2.1, 16, .inl (fun _ => 0)))]] H := ⟨hP, hD⟩
  exact W.vret hx hb hr (fun t ht hW => ⟨⟨[[(h0, .inr (0, [.ref q, .int 0]))], [(q, .inl (G.2.1, 16, .inl (fun _ => 0)))]].flatten, rfl, ⟨q, fun _ => 0, rfl, by simp, fun i hi => absurd hi (Nat.not_lt_zero i)⟩, by rw [ht]; exact hB.1, hB.2⟩, hS.F ht⟩) hS.2.2 d_IL_init_17
end
section
abbrev tST : Type := tIL × tIL × Int32
abbrev gST_takings (σ : tST) : tIL := σ.1
abbrev gST_places (σ : tST) : tIL := σ.2.1
abbrev gST_mandatories (σ : tST) : Int32 := σ.2.2
def uST_takings (σ : tST) (v : tIL) : tST := (v, gST_places σ, gST_mandatories σ)
def uST_places (σ : tST) (v : tIL) : tST := (gST_takings σ, v, gST_mandatories σ)
def uST_mandatories (σ : tST) (v : Int32) : tST := (gST_takings σ, gST_places σ, v)
def pST (G : pG) (h0 : Nat) (ad : Nat → Nat) (σ : tST) (w : va_W) : Prop := ∃ (w0 w1 : va_W), w = [[(h0, .inr (3, [.ref (ad 0), .ref (ad 1), .int (gST_mandatories σ)]))], w0, w1].flatten ∧ pIL G (ad 0) (gST_takings σ) w0 ∧ pIL G (ad 1) (gST_places σ) w1
theorem pST_recv {G : pG} {s : State} {H : Heap} {h0 : Nat} {ad : Nat → Nat} {σ : tST} {w : va_W} (hK : va_K G.1 vwCl (tyG G) s) (hP : va_P G.1 vwCl w H) (h : pST G h0 ad σ w) : ∃ cell : Cell, H[h0]? = some cell ∧ cell.vm.isStatics = false ∧ s.vm.findClass RST = some cell.cls := by
  obtain ⟨w0, w1, rfl, -, -⟩ := h
  exact va_recv (q0 := 0) (ci := 3) hK hP rfl rfl

def A_ST_amount (σ : tST) : Int32 := A_IL_length (gST_takings σ)
set_option maxHeartbeats 4000000 in
set_option maxRecDepth 100000 in
theorem c_ST_amount (l : Launch) (G : pG) (h0 : Nat) (ad : Nat → Nat) (σ : tST) (H : Heap) (w : va_W) (hP0 : va_P G.1 vwCl w H) (hσ : pST G h0 ad σ w) (res : Int32) (hr0 : A_ST_amount σ = res) : MRi l y_ST_amount w_ST_amount 1 20 G [.ref h0] H res := by
  refine Met.ofW (cc := b_ST_amount) (maxL := 1) (ret := (some .int)) (by decide) rfl ?_
  intro p e s m args below meth c s₁ B hml hv
  obtain ⟨rfl, rfl, hK⟩ := hv
  have hx := B.exec
  have hb := B.bytes
  have hr := B.returns
  have hts0 := atoms_spec (ws := w_ST_amount) B.pre
  have hts := fun w (h : w ∈ lw_g) => hts0 w (List.mem_cons_of_mem _ h)
  have hown : s.vm.findClass RST = some m.cls := findClass_of_methodNamed B.named
  have hlocks := B.notSynchronized
  have hσ0 := hσ
  obtain ⟨w1, w3, rfl, h2, h4⟩ := hσ
  have hP := hP0
  obtain ⟨A, hAe⟩ : ∃ A : Nat → Prop, A = fun _ => False := ⟨_, rfl⟩
  rw [← hAe]
  have hS : va_S A s.heap s.heap [] := va_S.rf
  have hl := lv_entry ([.ref h0]) (n := 1) (Nat.le_of_ble_eq_true rfl)
  rw [lg_entry_eq]
  generalize (lg_sl ([.ref h0]) ++ List.replicate (1 - (lg_sl ([.ref h0])).length) Slot.unset).toArray = ls at hl ⊢
  have hl : lv_has ls 1 [(0, .ref h0)] := hl
  unfold A_ST_amount at hr0
  refine lv_aload_n hx hb d_ST_amount_0 rfl (lv_at hl 0 rfl) ?_
  refine va_get (D := G.1) (ci := 3) (v := .ref (ad 0)) (C := RST) (T := TST) (N := 3) hx hb hts inST hown hK hP 0 rfl rfl 0 (by decide) (hts _ fl_ST_12) (fun _ h9 => h9) rfl d_ST_amount_1 ?_
  refine rdV (G := G) (As := []) (rest := []) (C := RIL) ⟨hx, hb, hml, hown, hts⟩ (c_IL_length l G (ad 0) (gST_takings σ) _ _ (bk_gP (k := 1) hP rfl) h2 _ rfl) (cwV 0 hts (gd_V ml_ST_25 im_IL_length sl_IL_length ini_IL k_IL_length) rfl rmK_c rmK_s (by decide +kernel) ⟨Nat.le_of_ble_eq_true rfl, Nat.le_of_ble_eq_true rfl⟩) hK (pIL_recv hK (bk_gP (k := 1) hP rfl) h2) hS ⟨Nat.le_refl _, Nat.le_refl _⟩ rfl hl.1 (Nat.le_of_ble_eq_true rfl) d_ST_amount_4 (fun locs hS => ?_)
  exact W.iret (v := (A_IL_length (gST_takings σ))) hx hb hr (fun t ht hW => ⟨⟨(A_IL_length (gST_takings σ)), (), rfl, hr0, ht⟩, hS.F ht⟩) hS.2.2 d_ST_amount_7

def A_ST_mandatories (σ : tST) : Int32 := gST_mandatories σ
set_option maxHeartbeats 4000000 in
set_option maxRecDepth 100000 in
theorem c_ST_mandatories (l : Launch) (G : pG) (h0 : Nat) (ad : Nat → Nat) (σ : tST) (H : Heap) (w : va_W) (hP0 : va_P G.1 vwCl w H) (hσ : pST G h0 ad σ w) (res : Int32) (hr0 : A_ST_mandatories σ = res) : MRi l y_ST_mandatories w_ST_mandatories 0 0 G [.ref h0] H res := by
  refine Met.ofW (cc := b_ST_mandatories) (maxL := 1) (ret := (some .int)) (by decide) rfl ?_
  intro p e s m args below meth c s₁ B hml hv
  obtain ⟨rfl, rfl, hK⟩ := hv
  have hx := B.exec
  have hb := B.bytes
  have hr := B.returns
  have hts0 := atoms_spec (ws := w_ST_mandatories) B.pre
  have hts := fun w (h : w ∈ lw_g) => hts0 w (List.mem_cons_of_mem _ h)
  have hown : s.vm.findClass RST = some m.cls := findClass_of_methodNamed B.named
  have hlocks := B.notSynchronized
  have hσ0 := hσ
  obtain ⟨w1, w3, rfl, h2, h4⟩ := hσ
  have hP := hP0
  obtain ⟨A, hAe⟩ : ∃ A : Nat → Prop, A = fun _ => False := ⟨_, rfl⟩
  rw [← hAe]
  have hS : va_S A s.heap s.heap [] := va_S.rf
  have hl := lv_entry ([.ref h0]) (n := 1) (Nat.le_of_ble_eq_true rfl)
  rw [lg_entry_eq]
  generalize (lg_sl ([.ref h0]) ++ List.replicate (1 - (lg_sl ([.ref h0])).length) Slot.unset).toArray = ls at hl ⊢
  have hl : lv_has ls 1 [(0, .ref h0)] := hl
  unfold A_ST_mandatories at hr0
  refine lv_aload_n hx hb d_ST_mandatories_0 rfl (lv_at hl 0 rfl) ?_
  refine va_get (D := G.1) (ci := 3) (v := .int (gST_mandatories σ)) (C := RST) (T := TST) (N := 3) hx hb hts inST hown hK hP 0 rfl rfl 2 (by decide) (hts _ fl_ST_21) (fun _ h9 => h9) rfl d_ST_mandatories_1 ?_
  exact W.iret (v := (gST_mandatories σ)) hx hb hr (fun t ht hW => ⟨⟨(gST_mandatories σ), (), rfl, hr0, ht⟩, hS.F ht⟩) hS.2.2 d_ST_mandatories_4

def A_ST_has (σ : tST) (i : Int32) : Int32 := if i < 0 then 0 else (if (A_IL_length (gST_takings σ)) ≤ i then 0 else 1)
set_option maxHeartbeats 4000000 in
set_option maxRecDepth 100000 in
theorem c_ST_has (l : Launch) (G : pG) (h0 : Nat) (ad : Nat → Nat) (σ : tST) (i : Int32) (H : Heap) (w : va_W) (hP0 : va_P G.1 vwCl w H) (hσ : pST G h0 ad σ w) (res : Int32) (hr0 : A_ST_has σ i = res) : MRi l y_ST_has w_ST_has 1 20 G [.ref h0, .int i] H res := by
  refine Met.ofW (cc := b_ST_has) (maxL := 2) (ret := (some .boolean)) (by decide) rfl ?_
  intro p e s m args below meth c s₁ B hml hv
  obtain ⟨rfl, rfl, hK⟩ := hv
  have hx := B.exec
  have hb := B.bytes
  have hr := B.returns
  have hts0 := atoms_spec (ws := w_ST_has) B.pre
  have hts := fun w (h : w ∈ lw_g) => hts0 w (List.mem_cons_of_mem _ h)
  have hown : s.vm.findClass RST = some m.cls := findClass_of_methodNamed B.named
  have hlocks := B.notSynchronized
  have hσ0 := hσ
  obtain ⟨w1, w3, rfl, h2, h4⟩ := hσ
  have hP := hP0
  obtain ⟨A, hAe⟩ : ∃ A : Nat → Prop, A = fun _ => False := ⟨_, rfl⟩
  rw [← hAe]
  have hS : va_S A s.heap s.heap [] := va_S.rf
  have hl := lv_entry ([.ref h0, .int i]) (n := 2) (Nat.le_of_ble_eq_true rfl)
  rw [lg_entry_eq]
  generalize (lg_sl ([.ref h0, .int i]) ++ List.replicate (2 - (lg_sl ([.ref h0, .int i])).length) Slot.unset).toArray = ls at hl ⊢
  have hl : lv_has ls 2 [(0, .ref h0), (1, .int i)] := hl
  unfold A_ST_has at hr0
  refine lv_iload_n hx hb d_ST_has_0 rfl (lv_at hl 1 rfl) ?_
  refine lv_if_lt (tgt := 19) hx hb d_ST_has_1 (by decide) (fun c5 => ?_) (fun c5 => ?_)
  · have hr0 := ai_pos c5 hr0
    refine lv_iconst (v := 0) hx hb d_ST_has_19 (by decide) ?_
    exact W.zret (v := 0) hx hb hr (by decide) (fun t ht hW => ⟨⟨0, (), rfl, hr0, ht⟩, hS.F ht⟩) hS.2.2 d_ST_has_20
  · have hr0 := ai_neg c5 hr0
    refine lv_iload_n hx hb d_ST_has_4 rfl (lv_at hl 1 rfl) ?_
    refine lv_aload_n hx hb d_ST_has_5 rfl (lv_at hl 0 rfl) ?_
    refine va_get (D := G.1) (ci := 3) (v := .ref (ad 0)) (C := RST) (T := TST) (N := 3) hx hb hts inST hown hK hP 0 rfl rfl 0 (by decide) (hts _ fl_ST_12) (fun _ h9 => h9) rfl d_ST_has_6 ?_
    refine rdV (G := G) (As := []) (rest := [.int i]) (C := RIL) ⟨hx, hb, hml, hown, hts⟩ (c_IL_length l G (ad 0) (gST_takings σ) _ _ (bk_gP (k := 1) hP rfl) h2 _ rfl) (cwV 0 hts (gd_V ml_ST_25 im_IL_length sl_IL_length ini_IL k_IL_length) rfl rmK_c rmK_s (by decide +kernel) ⟨Nat.le_of_ble_eq_true rfl, Nat.le_of_ble_eq_true rfl⟩) hK (pIL_recv hK (bk_gP (k := 1) hP rfl) h2) hS ⟨Nat.le_refl _, Nat.le_refl _⟩ rfl hl.1 (Nat.le_of_ble_eq_true rfl) d_ST_has_9 (fun locs hS => ?_)
    refine lv_icmp_ge (tgt := 19) hx hb d_ST_has_12 (by decide) (fun c6 => ?_) (fun c6 => ?_)
    · have hr0 := ai_pos c6 hr0
      refine lv_iconst (v := 0) hx hb d_ST_has_19 (by decide) ?_
      exact W.zret (v := 0) hx hb hr (by decide) (fun t ht hW => ⟨⟨0, (), rfl, hr0, ht⟩, hS.F ht⟩) hS.2.2 d_ST_has_20
    · have hr0 := ai_neg c6 hr0
      refine lv_iconst (v := 1) hx hb d_ST_has_15 (by decide) ?_
      refine lv_goto (tgt := 20) hx hb d_ST_has_16 (by decide) ?_
      exact W.zret (v := 1) hx hb hr (by decide) (fun t ht hW => ⟨⟨1, (), rfl, hr0, ht⟩, hS.F ht⟩) hS.2.2 d_ST_has_20

def A_ST_taking (σ : tST) (i : Int32) : Int32 := A_IL_at (gST_takings σ) i
set_option maxHeartbeats 4000000 in
set_option maxRecDepth 100000 in
theorem c_ST_taking (l : Launch) (G : pG) (h0 : Nat) (ad : Nat → Nat) (σ : tST) (i : Int32) (H : Heap) (w : va_W) (hP0 : va_P G.1 vwCl w H) (hσ : pST G h0 ad σ w) (res : Int32) (hr0 : A_ST_taking σ i = res) : MRi l y_ST_taking w_ST_taking 1 21 G [.ref h0, .int i] H res := by
  refine Met.ofW (cc := b_ST_taking) (maxL := 2) (ret := (some .int)) (by decide) rfl ?_
  intro p e s m args below meth c s₁ B hml hv
  obtain ⟨rfl, rfl, hK⟩ := hv
  have hx := B.exec
  have hb := B.bytes
  have hr := B.returns
  have hts0 := atoms_spec (ws := w_ST_taking) B.pre
  have hts := fun w (h : w ∈ lw_g) => hts0 w (List.mem_cons_of_mem _ h)
  have hown : s.vm.findClass RST = some m.cls := findClass_of_methodNamed B.named
  have hlocks := B.notSynchronized
  have hσ0 := hσ
  obtain ⟨w1, w3, rfl, h2, h4⟩ := hσ
  have hP := hP0
  obtain ⟨A, hAe⟩ : ∃ A : Nat → Prop, A = fun _ => False := ⟨_, rfl⟩
  rw [← hAe]
  have hS : va_S A s.heap s.heap [] := va_S.rf
  have hl := lv_entry ([.ref h0, .int i]) (n := 2) (Nat.le_of_ble_eq_true rfl)
  rw [lg_entry_eq]
  generalize (lg_sl ([.ref h0, .int i]) ++ List.replicate (2 - (lg_sl ([.ref h0, .int i])).length) Slot.unset).toArray = ls at hl ⊢
  have hl : lv_has ls 2 [(0, .ref h0), (1, .int i)] := hl
  unfold A_ST_taking at hr0
  refine lv_aload_n hx hb d_ST_taking_0 rfl (lv_at hl 0 rfl) ?_
  refine va_get (D := G.1) (ci := 3) (v := .ref (ad 0)) (C := RST) (T := TST) (N := 3) hx hb hts inST hown hK hP 0 rfl rfl 0 (by decide) (hts _ fl_ST_12) (fun _ h9 => h9) rfl d_ST_taking_1 ?_
  refine lv_iload_n hx hb d_ST_taking_4 rfl (lv_at hl 1 rfl) ?_
  refine rdV (G := G) (As := [.int i]) (rest := []) (C := RIL) ⟨hx, hb, hml, hown, hts⟩ (c_IL_at l G (ad 0) (gST_takings σ) i _ _ (bk_gP (k := 1) hP rfl) h2 _ rfl) (cwV 1 hts (gd_V ml_ST_29 im_IL_at sl_IL_at ini_IL k_IL_at) rfl rmK_c rmK_s (by decide +kernel) ⟨Nat.le_of_ble_eq_true rfl, Nat.le_of_ble_eq_true rfl⟩) hK (pIL_recv hK (bk_gP (k := 1) hP rfl) h2) hS ⟨Nat.le_refl _, Nat.le_refl _⟩ rfl hl.1 (Nat.le_of_ble_eq_true rfl) d_ST_taking_5 (fun locs hS => ?_)
  exact W.iret (v := (A_IL_at (gST_takings σ) i)) hx hb hr (fun t ht hW => ⟨⟨(A_IL_at (gST_takings σ) i), (), rfl, hr0, ht⟩, hS.F ht⟩) hS.2.2 d_ST_taking_8

def A_ST_isMandatory (σ : tST) (i : Int32) : Int32 := if (A_IL_at (gST_places σ) i) = (-1) then 0 else 1
set_option maxHeartbeats 4000000 in
set_option maxRecDepth 100000 in
theorem c_ST_isMandatory (l : Launch) (G : pG) (h0 : Nat) (ad : Nat → Nat) (σ : tST) (i : Int32) (H : Heap) (w : va_W) (hP0 : va_P G.1 vwCl w H) (hσ : pST G h0 ad σ w) (res : Int32) (hr0 : A_ST_isMandatory σ i = res) : MRi l y_ST_isMandatory w_ST_isMandatory 1 21 G [.ref h0, .int i] H res := by
  refine Met.ofW (cc := b_ST_isMandatory) (maxL := 2) (ret := (some .boolean)) (by decide) rfl ?_
  intro p e s m args below meth c s₁ B hml hv
  obtain ⟨rfl, rfl, hK⟩ := hv
  have hx := B.exec
  have hb := B.bytes
  have hr := B.returns
  have hts0 := atoms_spec (ws := w_ST_isMandatory) B.pre
  have hts := fun w (h : w ∈ lw_g) => hts0 w (List.mem_cons_of_mem _ h)
  have hown : s.vm.findClass RST = some m.cls := findClass_of_methodNamed B.named
  have hlocks := B.notSynchronized
  have hσ0 := hσ
  obtain ⟨w1, w3, rfl, h2, h4⟩ := hσ
  have hP := hP0
  obtain ⟨A, hAe⟩ : ∃ A : Nat → Prop, A = fun _ => False := ⟨_, rfl⟩
  rw [← hAe]
  have hS : va_S A s.heap s.heap [] := va_S.rf
  have hl := lv_entry ([.ref h0, .int i]) (n := 2) (Nat.le_of_ble_eq_true rfl)
  rw [lg_entry_eq]
  generalize (lg_sl ([.ref h0, .int i]) ++ List.replicate (2 - (lg_sl ([.ref h0, .int i])).length) Slot.unset).toArray = ls at hl ⊢
  have hl : lv_has ls 2 [(0, .ref h0), (1, .int i)] := hl
  unfold A_ST_isMandatory at hr0
  refine lv_aload_n hx hb d_ST_isMandatory_0 rfl (lv_at hl 0 rfl) ?_
  refine va_get (D := G.1) (ci := 3) (v := .ref (ad 1)) (C := RST) (T := TST) (N := 3) hx hb hts inST hown hK hP 0 rfl rfl 1 (by decide) (hts _ fl_ST_18) (fun _ h9 => h9) rfl d_ST_isMandatory_1 ?_
  refine lv_iload_n hx hb d_ST_isMandatory_4 rfl (lv_at hl 1 rfl) ?_
  refine rdV (G := G) (As := [.int i]) (rest := []) (C := RIL) ⟨hx, hb, hml, hown, hts⟩ (c_IL_at l G (ad 1) (gST_places σ) i _ _ (bk_gP (k := 2) hP rfl) h4 _ rfl) (cwV 1 hts (gd_V ml_ST_29 im_IL_at sl_IL_at ini_IL k_IL_at) rfl rmK_c rmK_s (by decide +kernel) ⟨Nat.le_of_ble_eq_true rfl, Nat.le_of_ble_eq_true rfl⟩) hK (pIL_recv hK (bk_gP (k := 2) hP rfl) h4) hS ⟨Nat.le_refl _, Nat.le_refl _⟩ rfl hl.1 (Nat.le_of_ble_eq_true rfl) d_ST_isMandatory_5 (fun locs hS => ?_)
  refine lv_iconst (v := (-1)) hx hb d_ST_isMandatory_8 (by decide) ?_
  refine lv_icmp_eq (tgt := 16) hx hb d_ST_isMandatory_9 (by decide) (fun c5 => ?_) (fun c5 => ?_)
  · have hr0 := ai_pos c5 hr0
    refine lv_iconst (v := 0) hx hb d_ST_isMandatory_16 (by decide) ?_
    exact W.zret (v := 0) hx hb hr (by decide) (fun t ht hW => ⟨⟨0, (), rfl, hr0, ht⟩, hS.F ht⟩) hS.2.2 d_ST_isMandatory_17
  · have hr0 := ai_neg c5 hr0
    refine lv_iconst (v := 1) hx hb d_ST_isMandatory_12 (by decide) ?_
    refine lv_goto (tgt := 17) hx hb d_ST_isMandatory_13 (by decide) ?_
    exact W.zret (v := 1) hx hb hr (by decide) (fun t ht hW => ⟨⟨1, (), rfl, hr0, ht⟩, hS.F ht⟩) hS.2.2 d_ST_isMandatory_17

def A_ST_placeOf (σ : tST) (i : Int32) : Int32 := A_IL_at (gST_places σ) i
set_option maxHeartbeats 4000000 in
set_option maxRecDepth 100000 in
theorem c_ST_placeOf (l : Launch) (G : pG) (h0 : Nat) (ad : Nat → Nat) (σ : tST) (i : Int32) (H : Heap) (w : va_W) (hP0 : va_P G.1 vwCl w H) (hσ : pST G h0 ad σ w) (res : Int32) (hr0 : A_ST_placeOf σ i = res) : MRi l y_ST_placeOf w_ST_placeOf 1 21 G [.ref h0, .int i] H res := by
  refine Met.ofW (cc := b_ST_placeOf) (maxL := 2) (ret := (some .int)) (by decide) rfl ?_
  intro p e s m args below meth c s₁ B hml hv
  obtain ⟨rfl, rfl, hK⟩ := hv
  have hx := B.exec
  have hb := B.bytes
  have hr := B.returns
  have hts0 := atoms_spec (ws := w_ST_placeOf) B.pre
  have hts := fun w (h : w ∈ lw_g) => hts0 w (List.mem_cons_of_mem _ h)
  have hown : s.vm.findClass RST = some m.cls := findClass_of_methodNamed B.named
  have hlocks := B.notSynchronized
  have hσ0 := hσ
  obtain ⟨w1, w3, rfl, h2, h4⟩ := hσ
  have hP := hP0
  obtain ⟨A, hAe⟩ : ∃ A : Nat → Prop, A = fun _ => False := ⟨_, rfl⟩
  rw [← hAe]
  have hS : va_S A s.heap s.heap [] := va_S.rf
  have hl := lv_entry ([.ref h0, .int i]) (n := 2) (Nat.le_of_ble_eq_true rfl)
  rw [lg_entry_eq]
  generalize (lg_sl ([.ref h0, .int i]) ++ List.replicate (2 - (lg_sl ([.ref h0, .int i])).length) Slot.unset).toArray = ls at hl ⊢
  have hl : lv_has ls 2 [(0, .ref h0), (1, .int i)] := hl
  unfold A_ST_placeOf at hr0
  refine lv_aload_n hx hb d_ST_placeOf_0 rfl (lv_at hl 0 rfl) ?_
  refine va_get (D := G.1) (ci := 3) (v := .ref (ad 1)) (C := RST) (T := TST) (N := 3) hx hb hts inST hown hK hP 0 rfl rfl 1 (by decide) (hts _ fl_ST_18) (fun _ h9 => h9) rfl d_ST_placeOf_1 ?_
  refine lv_iload_n hx hb d_ST_placeOf_4 rfl (lv_at hl 1 rfl) ?_
  refine rdV (G := G) (As := [.int i]) (rest := []) (C := RIL) ⟨hx, hb, hml, hown, hts⟩ (c_IL_at l G (ad 1) (gST_places σ) i _ _ (bk_gP (k := 2) hP rfl) h4 _ rfl) (cwV 1 hts (gd_V ml_ST_29 im_IL_at sl_IL_at ini_IL k_IL_at) rfl rmK_c rmK_s (by decide +kernel) ⟨Nat.le_of_ble_eq_true rfl, Nat.le_of_ble_eq_true rfl⟩) hK (pIL_recv hK (bk_gP (k := 2) hP rfl) h4) hS ⟨Nat.le_refl _, Nat.le_refl _⟩ rfl hl.1 (Nat.le_of_ble_eq_true rfl) d_ST_placeOf_5 (fun locs hS => ?_)
  exact W.iret (v := (A_IL_at (gST_places σ) i)) hx hb hr (fun t ht hW => ⟨⟨(A_IL_at (gST_places σ) i), (), rfl, hr0, ht⟩, hS.F ht⟩) hS.2.2 d_ST_placeOf_8

def A_ST_add (σ : tST) (n : Int32) : Int32 × tST := ((A_IL_length (A_IL_add (gST_takings σ) n)) - 1, uST_places (uST_takings σ (A_IL_add (gST_takings σ) n)) (A_IL_add (gST_places σ) (-1)))
def K_ST_add (σ : tST) (n : Int32) : Nat := (K_IL_add (gST_takings σ) n) + ((K_IL_add (gST_places σ) (-1)) + 0)
set_option maxHeartbeats 4000000 in
set_option maxRecDepth 100000 in
theorem c_ST_add (l : Launch) (G : pG) (h0 : Nat) (ad : Nat → Nat) (σ : tST) (n : Int32) (H : Heap) (w : va_W) (hP0 : va_P G.1 vwCl w H) (hD0 : va_D (fun _ => True) w) (hσ : pST G h0 ad σ w) (res : Int32 × tST) (hr0 : A_ST_add σ n = res) (Kt : Nat) (hk : K_ST_add σ n = Kt) (hKb : Kt ≤ 16777216) : MWi l y_ST_add w_ST_add 3 103 Kt G [.ref h0, .int n] H w res.1 (pST G h0 ad res.2) := by
  refine Met.ofW (cc := b_ST_add) (maxL := 2) (ret := (some .int)) (by decide) rfl ?_
  intro p e s m args below meth c s₁ B hml hv
  obtain ⟨rfl, rfl, hK⟩ := hv
  have hx := B.exec
  have hb := B.bytes
  have hr := B.returns
  have hts0 := atoms_spec (ws := w_ST_add) B.pre
  have hts := fun w (h : w ∈ lw_g) => hts0 w (List.mem_cons_of_mem _ h)
  have hown : s.vm.findClass RST = some m.cls := findClass_of_methodNamed B.named
  have hlocks := B.notSynchronized
  have hA : ∀ q : Nat, s.heap.size ≤ q → va_A w s.heap.size q := fun _ h => Or.inr h
  have hB : bk G.1 vwCl (va_A w s.heap.size) [w] s.heap := bk_init hP0 hD0
  generalize va_A w s.heap.size = A at *
  have hS : va_S A s.heap s.heap [] := va_S.rf
  obtain ⟨w1, w3, rfl, h2, h4⟩ := hσ
  have hB := bk_many hB
  have hk : 0 + K_ST_add σ n = Kt := (Nat.zero_add _).trans hk
  have hl := lv_entry ([.ref h0, .int n]) (n := 2) (Nat.le_of_ble_eq_true rfl)
  rw [lg_entry_eq]
  generalize (lg_sl ([.ref h0, .int n]) ++ List.replicate (2 - (lg_sl ([.ref h0, .int n])).length) Slot.unset).toArray = ls at hl ⊢
  have hl : lv_has ls 2 [(0, .ref h0), (1, .int n)] := hl
  unfold A_ST_add at hr0
  unfold K_ST_add at hk
  refine lv_aload_n hx hb d_ST_add_0 rfl (lv_at hl 0 rfl) ?_
  refine va_get (D := G.1) (ci := 3) (v := .ref (ad 0)) (C := RST) (T := TST) (N := 3) hx hb hts inST hown hK hB.1 0 rfl rfl 0 (by decide) (hts _ fl_ST_12) (fun _ h9 => h9) rfl d_ST_add_1 ?_
  refine lv_iload_n hx hb d_ST_add_4 rfl (lv_at hl 1 rfl) ?_
  refine wrV (G := G) (k := 1) (As := [.int n]) (rest := []) (C := RIL) ⟨hx, hb, hml, hown, hts⟩ (c_IL_add l G (ad 0) (gST_takings σ) n _ _ (bk_gP (k := 1) hB.1 rfl) (bk_own (k := 1) hB rfl) h2 _ rfl _ rfl (bk_ub hk hKb)) (cwV 1 hts (gd_V ml_ST_33 im_IL_add sl_IL_add ini_IL k_IL_add) rfl rmK_c rmK_s (by decide +kernel) ⟨Nat.le_of_ble_eq_true rfl, Nat.le_of_ble_eq_true rfl⟩) hK (pIL_recv hK (bk_gP (k := 1) hB.1 rfl) h2) hS hA hB rfl hk ⟨rfl, rfl⟩ rfl hl.1 (Nat.le_of_ble_eq_true rfl) d_ST_add_5 (fun u5 H locs kc hu6 hB hS hk => ?_)
  have hB : bk G.1 vwCl A [[(h0, .inr (3, [.ref (ad 0), .ref (ad 1), .int (gST_mandatories σ)]))], u5, w3] H := hB
  refine lv_aload_n hx hb d_ST_add_8 rfl (lv_at hl 0 rfl) ?_
  refine va_get (D := G.1) (ci := 3) (v := .ref (ad 1)) (C := RST) (T := TST) (N := 3) hx hb hts inST hown hK hB.1 0 rfl rfl 1 (by decide) (hts _ fl_ST_18) (fun _ h9 => h9) rfl d_ST_add_9 ?_
  refine lv_iconst (v := (-1)) hx hb d_ST_add_12 (by decide) ?_
  refine wrV (G := G) (k := 2) (As := [.int (-1)]) (rest := []) (C := RIL) ⟨hx, hb, hml, hown, hts⟩ (c_IL_add l G (ad 1) (gST_places σ) (-1) _ _ (bk_gP (k := 2) hB.1 rfl) (bk_own (k := 2) hB rfl) h4 _ rfl _ rfl (bk_ub hk hKb)) (cwV 1 hts (gd_V ml_ST_33 im_IL_add sl_IL_add ini_IL k_IL_add) rfl rmK_c rmK_s (by decide +kernel) ⟨Nat.le_of_ble_eq_true rfl, Nat.le_of_ble_eq_true rfl⟩) hK (pIL_recv hK (bk_gP (k := 2) hB.1 rfl) h4) hS hA hB rfl hk ⟨rfl, rfl⟩ rfl hl.1 (Nat.le_of_ble_eq_true rfl) d_ST_add_13 (fun u7 H locs kc hu8 hB hS hk => ?_)
  have hB : bk G.1 vwCl A [[(h0, .inr (3, [.ref (ad 0), .ref (ad 1), .int (gST_mandatories σ)]))], u5, u7] H := hB
  refine lv_aload_n hx hb d_ST_add_16 rfl (lv_at hl 0 rfl) ?_
  refine va_get (D := G.1) (ci := 3) (v := .ref (ad 0)) (C := RST) (T := TST) (N := 3) hx hb hts inST hown hK hB.1 0 rfl rfl 0 (by decide) (hts _ fl_ST_12) (fun _ h9 => h9) rfl d_ST_add_17 ?_
  refine rdV (G := G) (As := []) (rest := []) (C := RIL) ⟨hx, hb, hml, hown, hts⟩ (c_IL_length l G (ad 0) (A_IL_add (gST_takings σ) n) _ _ (bk_gP (k := 1) hB.1 rfl) hu6 _ rfl) (cwV 0 hts (gd_V ml_ST_25 im_IL_length sl_IL_length ini_IL k_IL_length) rfl rmK_c rmK_s (by decide +kernel) ⟨Nat.le_of_ble_eq_true rfl, Nat.le_of_ble_eq_true rfl⟩) hK (pIL_recv hK (bk_gP (k := 1) hB.1 rfl) hu6) hS ⟨Nat.le.intro hk, Nat.le.intro hk⟩ rfl hl.1 (Nat.le_of_ble_eq_true rfl) d_ST_add_20 (fun locs hS => ?_)
  refine lv_iconst (v := 1) hx hb d_ST_add_23 (by decide) ?_
  refine lv_isub hx hb d_ST_add_24 ?_
  subst hr0
  refine W.widen (k := Kt) (n := Kt) (Nat.le.intro hk) (Nat.le.intro hk) ?_
  exact W.iret (v := ((A_IL_length (A_IL_add (gST_takings σ) n)) - 1)) hx hb hr (fun t ht hW => ⟨⟨((A_IL_length (A_IL_add (gST_takings σ) n)) - 1), [[(h0, .inr (3, [.ref (ad 0), .ref (ad 1), .int (gST_mandatories σ)]))], u5, u7].flatten, rfl, ⟨rfl, ⟨u5, u7, rfl, hu6, hu8⟩⟩, by rw [ht]; exact hB.1, hB.2⟩, hS.F ht⟩) hS.2.2 d_ST_add_25

def A_ST_addMandatory (σ : tST) (i : Int32) : Int32 × tST := ((gST_mandatories σ) + 1, uST_mandatories (uST_places σ (A_IL_put (gST_places σ) i (gST_mandatories σ))) ((gST_mandatories σ) + 1))
set_option maxHeartbeats 4000000 in
set_option maxRecDepth 100000 in
theorem c_ST_addMandatory (l : Launch) (G : pG) (h0 : Nat) (ad : Nat → Nat) (σ : tST) (i : Int32) (H : Heap) (w : va_W) (hP0 : va_P G.1 vwCl w H) (hD0 : va_D (fun _ => True) w) (hσ : pST G h0 ad σ w) (res : Int32 × tST) (hr0 : A_ST_addMandatory σ i = res) : MWi l y_ST_addMandatory w_ST_addMandatory 1 22 0 G [.ref h0, .int i] H w res.1 (pST G h0 ad res.2) := by
  refine Met.ofW (cc := b_ST_addMandatory) (maxL := 2) (ret := (some .int)) (by decide) rfl ?_
  intro p e s m args below meth c s₁ B hml hv
  obtain ⟨rfl, rfl, hK⟩ := hv
  have hx := B.exec
  have hb := B.bytes
  have hr := B.returns
  have hts0 := atoms_spec (ws := w_ST_addMandatory) B.pre
  have hts := fun w (h : w ∈ lw_g) => hts0 w (List.mem_cons_of_mem _ h)
  have hown : s.vm.findClass RST = some m.cls := findClass_of_methodNamed B.named
  have hlocks := B.notSynchronized
  have hA : ∀ q : Nat, s.heap.size ≤ q → va_A w s.heap.size q := fun _ h => Or.inr h
  have hB : bk G.1 vwCl (va_A w s.heap.size) [w] s.heap := bk_init hP0 hD0
  generalize va_A w s.heap.size = A at *
  have hS : va_S A s.heap s.heap [] := va_S.rf
  obtain ⟨w1, w3, rfl, h2, h4⟩ := hσ
  have hB := bk_many hB
  have hk : 0 + 0 = 0 := rfl
  have hl := lv_entry ([.ref h0, .int i]) (n := 2) (Nat.le_of_ble_eq_true rfl)
  rw [lg_entry_eq]
  generalize (lg_sl ([.ref h0, .int i]) ++ List.replicate (2 - (lg_sl ([.ref h0, .int i])).length) Slot.unset).toArray = ls at hl ⊢
  have hl : lv_has ls 2 [(0, .ref h0), (1, .int i)] := hl
  unfold A_ST_addMandatory at hr0
  refine lv_aload_n hx hb d_ST_addMandatory_0 rfl (lv_at hl 0 rfl) ?_
  refine va_get (D := G.1) (ci := 3) (v := .ref (ad 1)) (C := RST) (T := TST) (N := 3) hx hb hts inST hown hK hB.1 0 rfl rfl 1 (by decide) (hts _ fl_ST_18) (fun _ h9 => h9) rfl d_ST_addMandatory_1 ?_
  refine lv_iload_n hx hb d_ST_addMandatory_4 rfl (lv_at hl 1 rfl) ?_
  refine lv_aload_n hx hb d_ST_addMandatory_5 rfl (lv_at hl 0 rfl) ?_
  refine va_get (D := G.1) (ci := 3) (v := .int (gST_mandatories σ)) (C := RST) (T := TST) (N := 3) hx hb hts inST hown hK hB.1 0 rfl rfl 2 (by decide) (hts _ fl_ST_21) (fun _ h9 => h9) rfl d_ST_addMandatory_6 ?_
  refine wrV0 (G := G) (k := 2) (As := [.int i, .int (gST_mandatories σ)]) (rest := []) (C := RIL) ⟨hx, hb, hml, hown, hts⟩ (c_IL_put l G (ad 1) (gST_places σ) i (gST_mandatories σ) _ _ (bk_gP (k := 2) hB.1 rfl) (bk_own (k := 2) hB rfl) h4 _ rfl) (cwV 2 hts (gd_V ml_ST_37 im_IL_put sl_IL_put ini_IL k_IL_put) rfl rmK_c rmK_s (by decide +kernel) ⟨Nat.le_of_ble_eq_true rfl, Nat.le_of_ble_eq_true rfl⟩) hK (pIL_recv hK (bk_gP (k := 2) hB.1 rfl) h4) hS hA hB rfl hk ⟨rfl, rfl⟩ rfl hl.1 (Nat.le_of_ble_eq_true rfl) d_ST_addMandatory_9 (fun u5 H locs hu6 hB hS => ?_)
  have hB : bk G.1 vwCl A [[(h0, .inr (3, [.ref (ad 0), .ref (ad 1), .int (gST_mandatories σ)]))], w1, u5] H := hB
  refine lv_aload_n hx hb d_ST_addMandatory_12 rfl (lv_at hl 0 rfl) ?_
  refine lv_dup hx hb d_ST_addMandatory_13 rfl ?_
  refine va_get (D := G.1) (ci := 3) (v := .int (gST_mandatories σ)) (C := RST) (T := TST) (N := 3) hx hb hts inST hown hK hB.1 0 rfl rfl 2 (by decide) (hts _ fl_ST_21) (fun _ h9 => h9) rfl d_ST_addMandatory_14 ?_
  refine lv_iconst (v := 1) hx hb d_ST_addMandatory_17 (by decide) ?_
  refine lv_iadd hx hb d_ST_addMandatory_18 ?_
  refine va_put (D := G.1) (ci := 3) (v := .int ((gST_mandatories σ) + 1)) (ty := .int) (C := RST) (T := TST) (N := 3) hx hb hts inST tyST tokST nmST hown hK hB.1 hB.2 hS 0 rfl rfl 2 (by decide) (hts _ fl_ST_21) (fun _ h9 => h9) rfl (by decide +kernel) rfl rfl (Nat.le_of_ble_eq_true rfl) d_ST_addMandatory_19 (fun H locs hP hD hS => ?_)
  have hB : bk G.1 vwCl A [[(h0, .inr (3, [.ref (ad 0), .ref (ad 1), .int ((gST_mandatories σ) + 1)]))], w1, u5] H := ⟨hP, hD⟩
  refine lv_aload_n hx hb d_ST_addMandatory_22 rfl (lv_at hl 0 rfl) ?_
  refine va_get (D := G.1) (ci := 3) (v := .int ((gST_mandatories σ) + 1)) (C := RST) (T := TST) (N := 3) hx hb hts inST hown hK hB.1 0 rfl rfl 2 (by decide) (hts _ fl_ST_21) (fun _ h9 => h9) rfl d_ST_addMandatory_23 ?_
  subst hr0
  refine W.widen (k := 0) (n := 0) (Nat.le_refl _) (Nat.le_refl _) ?_
  exact W.iret (v := ((gST_mandatories σ) + 1)) hx hb hr (fun t ht hW => ⟨⟨((gST_mandatories σ) + 1), [[(h0, .inr (3, [.ref (ad 0), .ref (ad 1), .int ((gST_mandatories σ) + 1)]))], w1, u5].flatten, rfl, ⟨rfl, ⟨w1, u5, rfl, h2, hu6⟩⟩, by rw [ht]; exact hB.1, hB.2⟩, hS.F ht⟩) hS.2.2 d_ST_addMandatory_26
end
section
abbrev tLL : Type := tIL
def pLL (G : pG) (h0 : Nat) (ad : Nat → Nat) (σ : tLL) (w : va_W) : Prop := ∃ (w0 : va_W), w = [[(h0, .inr (1, [.ref (ad 0)]))], w0].flatten ∧ pIL G (ad 0) σ w0
theorem pLL_recv {G : pG} {s : State} {H : Heap} {h0 : Nat} {ad : Nat → Nat} {σ : tLL} {w : va_W} (hK : va_K G.1 vwCl (tyG G) s) (hP : va_P G.1 vwCl w H) (h : pLL G h0 ad σ w) : ∃ cell : Cell, H[h0]? = some cell ∧ cell.vm.isStatics = false ∧ s.vm.findClass RLL = some cell.cls := by
  obtain ⟨w0, rfl, -⟩ := h
  exact va_recv (q0 := 0) (ci := 1) hK hP rfl rfl

theorem up_dec {k b : Int32} {n : Nat} (c : ¬ b ≤ k) (hm : (b.toInt - k.toInt).toNat < n + 1) : (b.toInt - (k + 1).toInt).toNat < n := by
  have c1 : k.toInt < b.toInt := by
    rcases (show k.toInt < b.toInt ∨ b.toInt ≤ k.toInt by omega) with h | h
    · exact h
    · exact absurd (Int32.le_iff_toInt_le.mpr h) c
  have a1 := Int32.le_toInt k
  have a2 := Int32.toInt_lt b
  have e1 : (k + 1).toInt = k.toInt + 1 := by
    rw [Int32.toInt_add]
    rw [show (1 : Int32).toInt = 1 from rfl]
    apply Int.bmod_eq_of_le <;> omega
  omega

def A_LL_forget (σ : tLL) : tLL := A_IL_cut σ 0
set_option maxHeartbeats 4000000 in
set_option maxRecDepth 100000 in
theorem c_LL_forget (l : Launch) (G : pG) (h0 : Nat) (ad : Nat → Nat) (σ : tLL) (H : Heap) (w : va_W) (hP0 : va_P G.1 vwCl w H) (hD0 : va_D (fun _ => True) w) (hσ : pLL G h0 ad σ w) (res : tLL) (hr0 : A_LL_forget σ = res) : MWv l y_LL_forget w_LL_forget 1 21 0 G [.ref h0] H w (pLL G h0 ad res) := by
  refine Met.ofW (cc := b_LL_forget) (maxL := 1) (ret := none) (by decide) rfl ?_
  intro p e s m args below meth c s₁ B hml hv
  obtain ⟨rfl, rfl, hK⟩ := hv
  have hx := B.exec
  have hb := B.bytes
  have hr := B.returns
  have hts0 := atoms_spec (ws := w_LL_forget) B.pre
  have hts := fun w (h : w ∈ lw_g) => hts0 w (List.mem_cons_of_mem _ h)
  have hown : s.vm.findClass RLL = some m.cls := findClass_of_methodNamed B.named
  have hlocks := B.notSynchronized
  have hA : ∀ q : Nat, s.heap.size ≤ q → va_A w s.heap.size q := fun _ h => Or.inr h
  have hB : bk G.1 vwCl (va_A w s.heap.size) [w] s.heap := bk_init hP0 hD0
  generalize va_A w s.heap.size = A at *
  have hS : va_S A s.heap s.heap [] := va_S.rf
  obtain ⟨w1, rfl, h2⟩ := hσ
  have hB := bk_many hB
  have hk : 0 + 0 = 0 := rfl
  have hl := lv_entry ([.ref h0]) (n := 1) (Nat.le_of_ble_eq_true rfl)
  rw [lg_entry_eq]
  generalize (lg_sl ([.ref h0]) ++ List.replicate (1 - (lg_sl ([.ref h0])).length) Slot.unset).toArray = ls at hl ⊢
  have hl : lv_has ls 1 [(0, .ref h0)] := hl
  unfold A_LL_forget at hr0
  refine lv_aload_n hx hb d_LL_forget_0 rfl (lv_at hl 0 rfl) ?_
  refine va_get (D := G.1) (ci := 1) (v := .ref (ad 0)) (C := RLL) (T := TLL) (N := 1) hx hb hts inLL hown hK hB.1 0 rfl rfl 0 (by decide) (hts _ fl_LL_10) (fun _ h9 => h9) rfl d_LL_forget_1 ?_
  refine lv_iconst (v := 0) hx hb d_LL_forget_4 (by decide) ?_
  refine wrV0 (G := G) (k := 1) (As := [.int 0]) (rest := []) (C := RIL) ⟨hx, hb, hml, hown, hts⟩ (c_IL_cut l G (ad 0) σ 0 _ _ (bk_gP (k := 1) hB.1 rfl) (bk_own (k := 1) hB rfl) h2 _ rfl) (cwV 1 hts (gd_V ml_LL_16 im_IL_cut sl_IL_cut ini_IL k_IL_cut) rfl rmK_c rmK_s (by decide +kernel) ⟨Nat.le_of_ble_eq_true rfl, Nat.le_of_ble_eq_true rfl⟩) hK (pIL_recv hK (bk_gP (k := 1) hB.1 rfl) h2) hS hA hB rfl hk ⟨rfl, rfl⟩ rfl hl.1 (Nat.le_of_ble_eq_true rfl) d_LL_forget_5 (fun u3 H locs hu4 hB hS => ?_)
  have hB : bk G.1 vwCl A [[(h0, .inr (1, [.ref (ad 0)]))], u3] H := hB
  subst hr0
  refine W.widen (k := 0) (n := 0) (Nat.le_refl _) (Nat.le_refl _) ?_
  exact W.vret hx hb hr (fun t ht hW => ⟨⟨[[(h0, .inr (1, [.ref (ad 0)]))], u3].flatten, rfl, ⟨u3, rfl, hu4⟩, by rw [ht]; exact hB.1, hB.2⟩, hS.F ht⟩) hS.2.2 d_LL_forget_8

def A_LL_amount (σ : tLL) : Int32 := A_IL_length σ
set_option maxHeartbeats 4000000 in
set_option maxRecDepth 100000 in
theorem c_LL_amount (l : Launch) (G : pG) (h0 : Nat) (ad : Nat → Nat) (σ : tLL) (H : Heap) (w : va_W) (hP0 : va_P G.1 vwCl w H) (hσ : pLL G h0 ad σ w) (res : Int32) (hr0 : A_LL_amount σ = res) : MRi l y_LL_amount w_LL_amount 1 20 G [.ref h0] H res := by
  refine Met.ofW (cc := b_LL_amount) (maxL := 1) (ret := (some .int)) (by decide) rfl ?_
  intro p e s m args below meth c s₁ B hml hv
  obtain ⟨rfl, rfl, hK⟩ := hv
  have hx := B.exec
  have hb := B.bytes
  have hr := B.returns
  have hts0 := atoms_spec (ws := w_LL_amount) B.pre
  have hts := fun w (h : w ∈ lw_g) => hts0 w (List.mem_cons_of_mem _ h)
  have hown : s.vm.findClass RLL = some m.cls := findClass_of_methodNamed B.named
  have hlocks := B.notSynchronized
  have hσ0 := hσ
  obtain ⟨w1, rfl, h2⟩ := hσ
  have hP := hP0
  obtain ⟨A, hAe⟩ : ∃ A : Nat → Prop, A = fun _ => False := ⟨_, rfl⟩
  rw [← hAe]
  have hS : va_S A s.heap s.heap [] := va_S.rf
  have hl := lv_entry ([.ref h0]) (n := 1) (Nat.le_of_ble_eq_true rfl)
  rw [lg_entry_eq]
  generalize (lg_sl ([.ref h0]) ++ List.replicate (1 - (lg_sl ([.ref h0])).length) Slot.unset).toArray = ls at hl ⊢
  have hl : lv_has ls 1 [(0, .ref h0)] := hl
  unfold A_LL_amount at hr0
  refine lv_aload_n hx hb d_LL_amount_0 rfl (lv_at hl 0 rfl) ?_
  refine va_get (D := G.1) (ci := 1) (v := .ref (ad 0)) (C := RLL) (T := TLL) (N := 1) hx hb hts inLL hown hK hP 0 rfl rfl 0 (by decide) (hts _ fl_LL_10) (fun _ h9 => h9) rfl d_LL_amount_1 ?_
  refine rdV (G := G) (As := []) (rest := []) (C := RIL) ⟨hx, hb, hml, hown, hts⟩ (c_IL_length l G (ad 0) σ _ _ (bk_gP (k := 1) hP rfl) h2 _ rfl) (cwV 0 hts (gd_V ml_LL_20 im_IL_length sl_IL_length ini_IL k_IL_length) rfl rmK_c rmK_s (by decide +kernel) ⟨Nat.le_of_ble_eq_true rfl, Nat.le_of_ble_eq_true rfl⟩) hK (pIL_recv hK (bk_gP (k := 1) hP rfl) h2) hS ⟨Nat.le_refl _, Nat.le_refl _⟩ rfl hl.1 (Nat.le_of_ble_eq_true rfl) d_LL_amount_4 (fun locs hS => ?_)
  exact W.iret (v := (A_IL_length σ)) hx hb hr (fun t ht hW => ⟨⟨(A_IL_length σ), (), rfl, hr0, ht⟩, hS.F ht⟩) hS.2.2 d_LL_amount_7

def A_LL_letterAt (σ : tLL) (k : Int32) : Int32 := A_IL_at σ k
set_option maxHeartbeats 4000000 in
set_option maxRecDepth 100000 in
theorem c_LL_letterAt (l : Launch) (G : pG) (h0 : Nat) (ad : Nat → Nat) (σ : tLL) (k : Int32) (H : Heap) (w : va_W) (hP0 : va_P G.1 vwCl w H) (hσ : pLL G h0 ad σ w) (res : Int32) (hr0 : A_LL_letterAt σ k = res) : MRi l y_LL_letterAt w_LL_letterAt 1 21 G [.ref h0, .int k] H res := by
  refine Met.ofW (cc := b_LL_letterAt) (maxL := 2) (ret := (some .int)) (by decide) rfl ?_
  intro p e s m args below meth c s₁ B hml hv
  obtain ⟨rfl, rfl, hK⟩ := hv
  have hx := B.exec
  have hb := B.bytes
  have hr := B.returns
  have hts0 := atoms_spec (ws := w_LL_letterAt) B.pre
  have hts := fun w (h : w ∈ lw_g) => hts0 w (List.mem_cons_of_mem _ h)
  have hown : s.vm.findClass RLL = some m.cls := findClass_of_methodNamed B.named
  have hlocks := B.notSynchronized
  have hσ0 := hσ
  obtain ⟨w1, rfl, h2⟩ := hσ
  have hP := hP0
  obtain ⟨A, hAe⟩ : ∃ A : Nat → Prop, A = fun _ => False := ⟨_, rfl⟩
  rw [← hAe]
  have hS : va_S A s.heap s.heap [] := va_S.rf
  have hl := lv_entry ([.ref h0, .int k]) (n := 2) (Nat.le_of_ble_eq_true rfl)
  rw [lg_entry_eq]
  generalize (lg_sl ([.ref h0, .int k]) ++ List.replicate (2 - (lg_sl ([.ref h0, .int k])).length) Slot.unset).toArray = ls at hl ⊢
  have hl : lv_has ls 2 [(0, .ref h0), (1, .int k)] := hl
  unfold A_LL_letterAt at hr0
  refine lv_aload_n hx hb d_LL_letterAt_0 rfl (lv_at hl 0 rfl) ?_
  refine va_get (D := G.1) (ci := 1) (v := .ref (ad 0)) (C := RLL) (T := TLL) (N := 1) hx hb hts inLL hown hK hP 0 rfl rfl 0 (by decide) (hts _ fl_LL_10) (fun _ h9 => h9) rfl d_LL_letterAt_1 ?_
  refine lv_iload_n hx hb d_LL_letterAt_4 rfl (lv_at hl 1 rfl) ?_
  refine rdV (G := G) (As := [.int k]) (rest := []) (C := RIL) ⟨hx, hb, hml, hown, hts⟩ (c_IL_at l G (ad 0) σ k _ _ (bk_gP (k := 1) hP rfl) h2 _ rfl) (cwV 1 hts (gd_V ml_LL_24 im_IL_at sl_IL_at ini_IL k_IL_at) rfl rmK_c rmK_s (by decide +kernel) ⟨Nat.le_of_ble_eq_true rfl, Nat.le_of_ble_eq_true rfl⟩) hK (pIL_recv hK (bk_gP (k := 1) hP rfl) h2) hS ⟨Nat.le_refl _, Nat.le_refl _⟩ rfl hl.1 (Nat.le_of_ble_eq_true rfl) d_LL_letterAt_5 (fun locs hS => ?_)
  exact W.iret (v := (A_IL_at σ k)) hx hb hr (fun t ht hW => ⟨⟨(A_IL_at σ k), (), rfl, hr0, ht⟩, hS.F ht⟩) hS.2.2 d_LL_letterAt_8

def A_LL_addMark (σ : tLL) : tLL := A_IL_add σ 90
def K_LL_addMark (σ : tLL) : Nat := (K_IL_add σ 90) + 0
set_option maxHeartbeats 4000000 in
set_option maxRecDepth 100000 in
theorem c_LL_addMark (l : Launch) (G : pG) (h0 : Nat) (ad : Nat → Nat) (σ : tLL) (H : Heap) (w : va_W) (hP0 : va_P G.1 vwCl w H) (hD0 : va_D (fun _ => True) w) (hσ : pLL G h0 ad σ w) (res : tLL) (hr0 : A_LL_addMark σ = res) (Kt : Nat) (hk : K_LL_addMark σ = Kt) (hKb : Kt ≤ 16777216) : MWv l y_LL_addMark w_LL_addMark 3 103 Kt G [.ref h0] H w (pLL G h0 ad res) := by
  refine Met.ofW (cc := b_LL_addMark) (maxL := 1) (ret := none) (by decide) rfl ?_
  intro p e s m args below meth c s₁ B hml hv
  obtain ⟨rfl, rfl, hK⟩ := hv
  have hx := B.exec
  have hb := B.bytes
  have hr := B.returns
  have hts0 := atoms_spec (ws := w_LL_addMark) B.pre
  have hts := fun w (h : w ∈ lw_g) => hts0 w (List.mem_cons_of_mem _ h)
  have hown : s.vm.findClass RLL = some m.cls := findClass_of_methodNamed B.named
  have hlocks := B.notSynchronized
  have hA : ∀ q : Nat, s.heap.size ≤ q → va_A w s.heap.size q := fun _ h => Or.inr h
  have hB : bk G.1 vwCl (va_A w s.heap.size) [w] s.heap := bk_init hP0 hD0
  generalize va_A w s.heap.size = A at *
  have hS : va_S A s.heap s.heap [] := va_S.rf
  obtain ⟨w1, rfl, h2⟩ := hσ
  have hB := bk_many hB
  have hk : 0 + K_LL_addMark σ = Kt := (Nat.zero_add _).trans hk
  have hl := lv_entry ([.ref h0]) (n := 1) (Nat.le_of_ble_eq_true rfl)
  rw [lg_entry_eq]
  generalize (lg_sl ([.ref h0]) ++ List.replicate (1 - (lg_sl ([.ref h0])).length) Slot.unset).toArray = ls at hl ⊢
  have hl : lv_has ls 1 [(0, .ref h0)] := hl
  unfold A_LL_addMark at hr0
  unfold K_LL_addMark at hk
  refine lv_aload_n hx hb d_LL_addMark_0 rfl (lv_at hl 0 rfl) ?_
  refine va_get (D := G.1) (ci := 1) (v := .ref (ad 0)) (C := RLL) (T := TLL) (N := 1) hx hb hts inLL hown hK hB.1 0 rfl rfl 0 (by decide) (hts _ fl_LL_10) (fun _ h9 => h9) rfl d_LL_addMark_1 ?_
  refine lv_bipush (v := 90) hx hb d_LL_addMark_4 (by decide) ?_
  refine wrV (G := G) (k := 1) (As := [.int 90]) (rest := []) (C := RIL) ⟨hx, hb, hml, hown, hts⟩ (c_IL_add l G (ad 0) σ 90 _ _ (bk_gP (k := 1) hB.1 rfl) (bk_own (k := 1) hB rfl) h2 _ rfl _ rfl (bk_ub hk hKb)) (cwV 1 hts (gd_V ml_LL_28 im_IL_add sl_IL_add ini_IL k_IL_add) rfl rmK_c rmK_s (by decide +kernel) ⟨Nat.le_of_ble_eq_true rfl, Nat.le_of_ble_eq_true rfl⟩) hK (pIL_recv hK (bk_gP (k := 1) hB.1 rfl) h2) hS hA hB rfl hk ⟨rfl, rfl⟩ rfl hl.1 (Nat.le_of_ble_eq_true rfl) d_LL_addMark_6 (fun u3 H locs kc hu4 hB hS hk => ?_)
  have hB : bk G.1 vwCl A [[(h0, .inr (1, [.ref (ad 0)]))], u3] H := hB
  subst hr0
  refine W.widen (k := Kt) (n := Kt) (Nat.le.intro hk) (Nat.le.intro hk) ?_
  exact W.vret hx hb hr (fun t ht hW => ⟨⟨[[(h0, .inr (1, [.ref (ad 0)]))], u3].flatten, rfl, ⟨u3, rfl, hu4⟩, by rw [ht]; exact hB.1, hB.2⟩, hS.F ht⟩) hS.2.2 d_LL_addMark_9

def M_LL_addNumber_L34 (first : Int32) (left : Int32) (high : Int32) (τ : tLL) : Nat := ((14 : Int32).toInt - high.toInt).toNat
def A_LL_addNumber_L34 (first : Int32) : Nat → Int32 → Int32 → tLL → tLL
  | 0, _, _, τ => τ
  | n34 + 1, left, high, τ => if 14 ≤ high then (A_IL_turnRound τ first) else (if left ≤ 0 then (A_IL_turnRound τ first) else (A_LL_addNumber_L34 first n34 ((left - 1) / 5) (high + 1) (A_IL_add τ (85 + ((left - 1) - (left - 1) / 5 * 5)))))
def K_LL_addNumber_L34 (first : Int32) : Nat → Int32 → Int32 → tLL → Nat
  | 0, _, _, _ => 0
  | n34 + 1, left, high, τ => if 14 ≤ high then 0 else (if left ≤ 0 then 0 else ((K_IL_add τ (85 + ((left - 1) - (left - 1) / 5 * 5))) + (K_LL_addNumber_L34 first n34 ((left - 1) / 5) (high + 1) (A_IL_add τ (85 + ((left - 1) - (left - 1) / 5 * 5))))))
def A_LL_addNumber (σ : tLL) (number : Int32) : tLL := A_LL_addNumber_L34 (A_IL_length σ) (M_LL_addNumber_L34 (A_IL_length σ) ((number - 1) / 20) 0 (A_IL_add σ (65 + ((number - 1) - (number - 1) / 20 * 20))) + 1) ((number - 1) / 20) 0 (A_IL_add σ (65 + ((number - 1) - (number - 1) / 20 * 20)))
def K_LL_addNumber (σ : tLL) (number : Int32) : Nat := (K_IL_add σ (65 + ((number - 1) - (number - 1) / 20 * 20))) + (K_LL_addNumber_L34 (A_IL_length σ) (M_LL_addNumber_L34 (A_IL_length σ) ((number - 1) / 20) 0 (A_IL_add σ (65 + ((number - 1) - (number - 1) / 20 * 20))) + 1) ((number - 1) / 20) 0 (A_IL_add σ (65 + ((number - 1) - (number - 1) / 20 * 20))))
set_option maxHeartbeats 4000000 in
set_option maxRecDepth 100000 in
theorem c_LL_addNumber (l : Launch) (G : pG) (h0 : Nat) (ad : Nat → Nat) (σ : tLL) (number : Int32) (H : Heap) (w : va_W) (hP0 : va_P G.1 vwCl w H) (hD0 : va_D (fun _ => True) w) (hσ : pLL G h0 ad σ w) (res : tLL) (hr0 : A_LL_addNumber σ number = res) (Kt : Nat) (hk : K_LL_addNumber σ number = Kt) (hKb : Kt ≤ 16777216) : MWv l y_LL_addNumber w_LL_addNumber 3 103 Kt G [.ref h0, .int number] H w (pLL G h0 ad res) := by
  refine Met.ofW (cc := b_LL_addNumber) (maxL := 5) (ret := none) (by decide) rfl ?_
  intro p e s m args below meth c s₁ B hml hv
  obtain ⟨rfl, rfl, hK⟩ := hv
  have hx := B.exec
  have hb := B.bytes
  have hr := B.returns
  have hts0 := atoms_spec (ws := w_LL_addNumber) B.pre
  have hts := fun w (h : w ∈ lw_g) => hts0 w (List.mem_cons_of_mem _ h)
  have hown : s.vm.findClass RLL = some m.cls := findClass_of_methodNamed B.named
  have hlocks := B.notSynchronized
  have hA : ∀ q : Nat, s.heap.size ≤ q → va_A w s.heap.size q := fun _ h => Or.inr h
  have hB : bk G.1 vwCl (va_A w s.heap.size) [w] s.heap := bk_init hP0 hD0
  generalize va_A w s.heap.size = A at *
  have hS : va_S A s.heap s.heap [] := va_S.rf
  obtain ⟨w1, rfl, h2⟩ := hσ
  have hB := bk_many hB
  have hk : 0 + K_LL_addNumber σ number = Kt := (Nat.zero_add _).trans hk
  have hl := lv_entry ([.ref h0, .int number]) (n := 5) (Nat.le_of_ble_eq_true rfl)
  rw [lg_entry_eq]
  generalize (lg_sl ([.ref h0, .int number]) ++ List.replicate (5 - (lg_sl ([.ref h0, .int number])).length) Slot.unset).toArray = ls at hl ⊢
  have hl : lv_has ls 5 [(0, .ref h0), (1, .int number)] := hl
  unfold A_LL_addNumber at hr0
  unfold K_LL_addNumber at hk
  refine lv_aload_n hx hb d_LL_addNumber_0 rfl (lv_at hl 0 rfl) ?_
  refine va_get (D := G.1) (ci := 1) (v := .ref (ad 0)) (C := RLL) (T := TLL) (N := 1) hx hb hts inLL hown hK hB.1 0 rfl rfl 0 (by decide) (hts _ fl_LL_10) (fun _ h9 => h9) rfl d_LL_addNumber_1 ?_
  refine rdV (G := G) (As := []) (rest := []) (C := RIL) ⟨hx, hb, hml, hown, hts⟩ (c_IL_length l G (ad 0) σ _ _ (bk_gP (k := 1) hB.1 rfl) h2 _ rfl) (cwV 0 hts (gd_V ml_LL_20 im_IL_length sl_IL_length ini_IL k_IL_length) rfl rmK_c rmK_s (by decide +kernel) ⟨Nat.le_of_ble_eq_true rfl, Nat.le_of_ble_eq_true rfl⟩) hK (pIL_recv hK (bk_gP (k := 1) hB.1 rfl) h2) hS ⟨Nat.le.intro hk, Nat.le.intro hk⟩ rfl hl.1 (Nat.le_of_ble_eq_true rfl) d_LL_addNumber_4 (fun locs hS => ?_)
  refine lv_istore_n (lv' := [(2, .int (A_IL_length σ)), (0, .ref h0), (1, .int number)]) hx hb d_LL_addNumber_7 rfl hl (by decide) rfl (fun ls hl => ?_)
  refine lv_aload_n hx hb d_LL_addNumber_8 rfl (lv_at hl 1 rfl) ?_
  refine va_get (D := G.1) (ci := 1) (v := .ref (ad 0)) (C := RLL) (T := TLL) (N := 1) hx hb hts inLL hown hK hB.1 0 rfl rfl 0 (by decide) (hts _ fl_LL_10) (fun _ h9 => h9) rfl d_LL_addNumber_9 ?_
  refine lv_bipush (v := 65) hx hb d_LL_addNumber_12 (by decide) ?_
  refine lv_iload_n hx hb d_LL_addNumber_14 rfl (lv_at hl 2 rfl) ?_
  refine lv_iconst (v := 1) hx hb d_LL_addNumber_15 (by decide) ?_
  refine lv_isub hx hb d_LL_addNumber_16 ?_
  refine lv_bipush (v := 20) hx hb d_LL_addNumber_17 (by decide) ?_
  refine lv_irem hx hb d_LL_addNumber_19 (by decide) ?_
  refine lv_iadd hx hb d_LL_addNumber_20 ?_
  refine wrV (G := G) (k := 1) (As := [.int (65 + ((number - 1) - (number - 1) / 20 * 20))]) (rest := []) (C := RIL) ⟨hx, hb, hml, hown, hts⟩ (c_IL_add l G (ad 0) σ (65 + ((number - 1) - (number - 1) / 20 * 20)) _ _ (bk_gP (k := 1) hB.1 rfl) (bk_own (k := 1) hB rfl) h2 _ rfl _ rfl (bk_ub hk hKb)) (cwV 1 hts (gd_V ml_LL_28 im_IL_add sl_IL_add ini_IL k_IL_add) rfl rmK_c rmK_s (by decide +kernel) ⟨Nat.le_of_ble_eq_true rfl, Nat.le_of_ble_eq_true rfl⟩) hK (pIL_recv hK (bk_gP (k := 1) hB.1 rfl) h2) hS hA hB rfl hk ⟨rfl, rfl⟩ rfl hl.1 (Nat.le_of_ble_eq_true rfl) d_LL_addNumber_21 (fun u3 H locs kc hu4 hB hS hk => ?_)
  have hB : bk G.1 vwCl A [[(h0, .inr (1, [.ref (ad 0)]))], u3] H := hB
  refine lv_iload_n hx hb d_LL_addNumber_24 rfl (lv_at hl 2 rfl) ?_
  refine lv_iconst (v := 1) hx hb d_LL_addNumber_25 (by decide) ?_
  refine lv_isub hx hb d_LL_addNumber_26 ?_
  refine lv_bipush (v := 20) hx hb d_LL_addNumber_27 (by decide) ?_
  refine lv_idiv hx hb d_LL_addNumber_29 (by decide) ?_
  refine lv_istore_n (lv' := [(3, .int ((number - 1) / 20)), (2, .int (A_IL_length σ)), (0, .ref h0), (1, .int number)]) hx hb d_LL_addNumber_30 rfl hl (by decide) rfl (fun ls hl => ?_)
  refine lv_iconst (v := 0) hx hb d_LL_addNumber_31 (by decide) ?_
  refine lv_istore (lv' := [(4, .int 0), (3, .int ((number - 1) / 20)), (2, .int (A_IL_length σ)), (0, .ref h0), (1, .int number)]) hx hb d_LL_addNumber_32 hl (by decide) rfl (fun ls hl => ?_)
  refine lp_W (I := fun n34 H locs kc ls => ∃ (left : Int32) (high : Int32) (τ : tLL) (w : va_W), pLL G h0 ad τ w ∧ bk G.1 vwCl A [w] H ∧ va_S A s.heap H locs ∧ lv_has ls 5 [(0, .ref h0), (2, .int (A_IL_length σ)), (3, .int left), (4, .int high)] ∧ A_LL_addNumber_L34 (A_IL_length σ) n34 left high τ = res ∧ kc + K_LL_addNumber_L34 (A_IL_length σ) n34 left high τ = Kt ∧ M_LL_addNumber_L34 (A_IL_length σ) left high τ < n34) ?_ ?_ (M_LL_addNumber_L34 (A_IL_length σ) ((number - 1) / 20) 0 (A_IL_add σ (65 + ((number - 1) - (number - 1) / 20 * 20))) + 1) _ _ _ _ ⟨((number - 1) / 20), 0, (A_IL_add σ (65 + ((number - 1) - (number - 1) / 20 * 20))), _, ⟨u3, rfl, hu4⟩, bk_one hB, hS, lv_sub hl [3, 2, 1, 0] rfl, hr0, hk, Nat.lt_succ_self _⟩
  · intro n34 ih34 H locs kc ls ⟨left, high, τ, w, hτ, hB, hS, hl, hr0, hk, hm34⟩
    obtain ⟨w5, rfl, h6⟩ := hτ
    have hB := bk_many hB
    rw [A_LL_addNumber_L34] at hr0
    rw [K_LL_addNumber_L34] at hk
    refine lv_iload hx hb d_LL_addNumber_34 (lv_at hl 3 rfl) ?_
    refine lv_bipush (v := 14) hx hb d_LL_addNumber_36 (by decide) ?_
    refine lv_icmp_ge (tgt := 72) hx hb d_LL_addNumber_38 (by decide) (fun c7 => ?_) (fun c7 => ?_)
    · have hr0 := ai_pos c7 hr0
      have hk := ki_pos c7 hk
      refine lv_aload_n hx hb d_LL_addNumber_72 rfl (lv_at hl 0 rfl) ?_
      refine va_get (D := G.1) (ci := 1) (v := .ref (ad 0)) (C := RLL) (T := TLL) (N := 1) hx hb hts inLL hown hK hB.1 0 rfl rfl 0 (by decide) (hts _ fl_LL_10) (fun _ h9 => h9) rfl d_LL_addNumber_73 ?_
      refine lv_iload_n hx hb d_LL_addNumber_76 rfl (lv_at hl 1 rfl) ?_
      refine wrV0 (G := G) (k := 1) (As := [.int (A_IL_length σ)]) (rest := []) (C := RIL) ⟨hx, hb, hml, hown, hts⟩ (c_IL_turnRound l G (ad 0) τ (A_IL_length σ) _ _ (bk_gP (k := 1) hB.1 rfl) (bk_own (k := 1) hB rfl) h6 _ rfl) (cwV 1 hts (gd_V ml_LL_31 im_IL_turnRound sl_IL_turnRound ini_IL k_IL_turnRound) rfl rmK_c rmK_s (by decide +kernel) ⟨Nat.le_of_ble_eq_true rfl, Nat.le_of_ble_eq_true rfl⟩) hK (pIL_recv hK (bk_gP (k := 1) hB.1 rfl) h6) hS hA hB rfl hk ⟨rfl, rfl⟩ rfl hl.1 (Nat.le_of_ble_eq_true rfl) d_LL_addNumber_77 (fun u8 H locs hu9 hB hS => ?_)
      have hB : bk G.1 vwCl A [[(h0, .inr (1, [.ref (ad 0)]))], u8] H := hB
      subst hr0
      refine W.widen (k := Kt) (n := Kt) (Nat.le.intro hk) (Nat.le.intro hk) ?_
      exact W.vret hx hb hr (fun t ht hW => ⟨⟨[[(h0, .inr (1, [.ref (ad 0)]))], u8].flatten, rfl, ⟨u8, rfl, hu9⟩, by rw [ht]; exact hB.1, hB.2⟩, hS.F ht⟩) hS.2.2 d_LL_addNumber_80
    · have hr0 := ai_neg c7 hr0
      have hk := ki_neg c7 hk
      refine lv_iload_n hx hb d_LL_addNumber_41 rfl (lv_at hl 2 rfl) ?_
      refine lv_if_le (tgt := 72) hx hb d_LL_addNumber_42 (by decide) (fun c10 => ?_) (fun c10 => ?_)
      · have hr0 := ai_pos c10 hr0
        have hk := ki_pos c10 hk
        refine lv_aload_n hx hb d_LL_addNumber_72 rfl (lv_at hl 0 rfl) ?_
        refine va_get (D := G.1) (ci := 1) (v := .ref (ad 0)) (C := RLL) (T := TLL) (N := 1) hx hb hts inLL hown hK hB.1 0 rfl rfl 0 (by decide) (hts _ fl_LL_10) (fun _ h9 => h9) rfl d_LL_addNumber_73 ?_
        refine lv_iload_n hx hb d_LL_addNumber_76 rfl (lv_at hl 1 rfl) ?_
        refine wrV0 (G := G) (k := 1) (As := [.int (A_IL_length σ)]) (rest := []) (C := RIL) ⟨hx, hb, hml, hown, hts⟩ (c_IL_turnRound l G (ad 0) τ (A_IL_length σ) _ _ (bk_gP (k := 1) hB.1 rfl) (bk_own (k := 1) hB rfl) h6 _ rfl) (cwV 1 hts (gd_V ml_LL_31 im_IL_turnRound sl_IL_turnRound ini_IL k_IL_turnRound) rfl rmK_c rmK_s (by decide +kernel) ⟨Nat.le_of_ble_eq_true rfl, Nat.le_of_ble_eq_true rfl⟩) hK (pIL_recv hK (bk_gP (k := 1) hB.1 rfl) h6) hS hA hB rfl hk ⟨rfl, rfl⟩ rfl hl.1 (Nat.le_of_ble_eq_true rfl) d_LL_addNumber_77 (fun u11 H locs hu12 hB hS => ?_)
        have hB : bk G.1 vwCl A [[(h0, .inr (1, [.ref (ad 0)]))], u11] H := hB
        subst hr0
        refine W.widen (k := Kt) (n := Kt) (Nat.le.intro hk) (Nat.le.intro hk) ?_
        exact W.vret hx hb hr (fun t ht hW => ⟨⟨[[(h0, .inr (1, [.ref (ad 0)]))], u11].flatten, rfl, ⟨u11, rfl, hu12⟩, by rw [ht]; exact hB.1, hB.2⟩, hS.F ht⟩) hS.2.2 d_LL_addNumber_80
      · have hr0 := ai_neg c10 hr0
        have hk := ki_neg c10 hk
        refine lv_aload_n hx hb d_LL_addNumber_45 rfl (lv_at hl 0 rfl) ?_
        refine va_get (D := G.1) (ci := 1) (v := .ref (ad 0)) (C := RLL) (T := TLL) (N := 1) hx hb hts inLL hown hK hB.1 0 rfl rfl 0 (by decide) (hts _ fl_LL_10) (fun _ h9 => h9) rfl d_LL_addNumber_46 ?_
        refine lv_bipush (v := 85) hx hb d_LL_addNumber_49 (by decide) ?_
        refine lv_iload_n hx hb d_LL_addNumber_51 rfl (lv_at hl 2 rfl) ?_
        refine lv_iconst (v := 1) hx hb d_LL_addNumber_52 (by decide) ?_
        refine lv_isub hx hb d_LL_addNumber_53 ?_
        refine lv_iconst (v := 5) hx hb d_LL_addNumber_54 (by decide) ?_
        refine lv_irem hx hb d_LL_addNumber_55 (by decide) ?_
        refine lv_iadd hx hb d_LL_addNumber_56 ?_
        refine wrV (G := G) (k := 1) (As := [.int (85 + ((left - 1) - (left - 1) / 5 * 5))]) (rest := []) (C := RIL) ⟨hx, hb, hml, hown, hts⟩ (c_IL_add l G (ad 0) τ (85 + ((left - 1) - (left - 1) / 5 * 5)) _ _ (bk_gP (k := 1) hB.1 rfl) (bk_own (k := 1) hB rfl) h6 _ rfl _ rfl (bk_ub hk hKb)) (cwV 1 hts (gd_V ml_LL_28 im_IL_add sl_IL_add ini_IL k_IL_add) rfl rmK_c rmK_s (by decide +kernel) ⟨Nat.le_of_ble_eq_true rfl, Nat.le_of_ble_eq_true rfl⟩) hK (pIL_recv hK (bk_gP (k := 1) hB.1 rfl) h6) hS hA hB rfl hk ⟨rfl, rfl⟩ rfl hl.1 (Nat.le_of_ble_eq_true rfl) d_LL_addNumber_57 (fun u13 H locs kc hu14 hB hS hk => ?_)
        have hB : bk G.1 vwCl A [[(h0, .inr (1, [.ref (ad 0)]))], u13] H := hB
        refine lv_iload_n hx hb d_LL_addNumber_60 rfl (lv_at hl 2 rfl) ?_
        refine lv_iconst (v := 1) hx hb d_LL_addNumber_61 (by decide) ?_
        refine lv_isub hx hb d_LL_addNumber_62 ?_
        refine lv_iconst (v := 5) hx hb d_LL_addNumber_63 (by decide) ?_
        refine lv_idiv hx hb d_LL_addNumber_64 (by decide) ?_
        refine lv_istore_n (lv' := [(3, .int ((left - 1) / 5)), (0, .ref h0), (2, .int (A_IL_length σ)), (4, .int high)]) hx hb d_LL_addNumber_65 rfl hl (by decide) rfl (fun ls hl => ?_)
        refine lv_iinc (v := high + 1) (lv' := [(4, .int (high + 1)), (3, .int ((left - 1) / 5)), (0, .ref h0), (2, .int (A_IL_length σ))]) hx hb d_LL_addNumber_66 hl (k := 3) rfl rfl (by decide) rfl (fun ls hl => ?_)
        refine lv_goto (tgt := 34) hx hb d_LL_addNumber_69 (by decide) ?_
        exact ih34 _ _ _ _ ⟨((left - 1) / 5), (high + 1), (A_IL_add τ (85 + ((left - 1) - (left - 1) / 5 * 5))), _, ⟨u13, rfl, hu14⟩, bk_one hB, hS, lv_sub hl [2, 3, 1, 0] rfl, hr0, hk, up_dec c7 hm34⟩
  · rintro H locs kc ls ⟨_, _, _, _, -, -, -, -, -, -, hz⟩; exact Nat.not_lt_zero _ hz
end
section
theorem d_RW_init_0 : decode b_RW_init 0 = .ok (.aload_n 0, 1) := by decide +kernel
theorem d_RW_init_1 : decode b_RW_init 1 = .ok (.invokespecial 3, 3) := by decide +kernel
theorem d_RW_init_4 : decode b_RW_init 4 = .ok (.aload_n 0, 1) := by decide +kernel
theorem d_RW_init_5 : decode b_RW_init 5 = .ok (.new 9, 3) := by decide +kernel
theorem d_RW_init_8 : decode b_RW_init 8 = .ok (.dup, 1) := by decide +kernel
theorem d_RW_init_9 : decode b_RW_init 9 = .ok (.invokespecial 11, 3) := by decide +kernel
theorem d_RW_init_12 : decode b_RW_init 12 = .ok (.putfield 12, 3) := by decide +kernel
theorem d_RW_init_15 : decode b_RW_init 15 = .ok (.aload_n 0, 1) := by decide +kernel
theorem d_RW_init_16 : decode b_RW_init 16 = .ok (.new 9, 3) := by decide +kernel
theorem d_RW_init_19 : decode b_RW_init 19 = .ok (.dup, 1) := by decide +kernel
theorem d_RW_init_20 : decode b_RW_init 20 = .ok (.invokespecial 11, 3) := by decide +kernel
theorem d_RW_init_23 : decode b_RW_init 23 = .ok (.putfield 18, 3) := by decide +kernel
theorem d_RW_init_26 : decode b_RW_init 26 = .ok (.aload_n 0, 1) := by decide +kernel
theorem d_RW_init_27 : decode b_RW_init 27 = .ok (.getfield 18, 3) := by decide +kernel
theorem d_RW_init_30 : decode b_RW_init 30 = .ok (.iconst 0, 1) := by decide +kernel
theorem d_RW_init_31 : decode b_RW_init 31 = .ok (.invokevirtual 21, 3) := by decide +kernel
theorem d_RW_init_34 : decode b_RW_init 34 = .ok (.aload_n 0, 1) := by decide +kernel
theorem d_RW_init_35 : decode b_RW_init 35 = .ok (.new 9, 3) := by decide +kernel
theorem d_RW_init_38 : decode b_RW_init 38 = .ok (.dup, 1) := by decide +kernel
theorem d_RW_init_39 : decode b_RW_init 39 = .ok (.invokespecial 11, 3) := by decide +kernel
theorem d_RW_init_42 : decode b_RW_init 42 = .ok (.putfield 25, 3) := by decide +kernel
theorem d_RW_init_45 : decode b_RW_init 45 = .ok (.aload_n 0, 1) := by decide +kernel
theorem d_RW_init_46 : decode b_RW_init 46 = .ok (.new 9, 3) := by decide +kernel
theorem d_RW_init_49 : decode b_RW_init 49 = .ok (.dup, 1) := by decide +kernel
theorem d_RW_init_50 : decode b_RW_init 50 = .ok (.invokespecial 11, 3) := by decide +kernel
theorem d_RW_init_53 : decode b_RW_init 53 = .ok (.putfield 28, 3) := by decide +kernel
theorem d_RW_init_56 : decode b_RW_init 56 = .ok (.aload_n 0, 1) := by decide +kernel
theorem d_RW_init_57 : decode b_RW_init 57 = .ok (.new 9, 3) := by decide +kernel
theorem d_RW_init_60 : decode b_RW_init 60 = .ok (.dup, 1) := by decide +kernel
theorem d_RW_init_61 : decode b_RW_init 61 = .ok (.invokespecial 11, 3) := by decide +kernel
theorem d_RW_init_64 : decode b_RW_init 64 = .ok (.putfield 31, 3) := by decide +kernel
theorem d_RW_init_67 : decode b_RW_init 67 = .ok (.aload_n 0, 1) := by decide +kernel
theorem d_RW_init_68 : decode b_RW_init 68 = .ok (.new 9, 3) := by decide +kernel
theorem d_RW_init_71 : decode b_RW_init 71 = .ok (.dup, 1) := by decide +kernel
theorem d_RW_init_72 : decode b_RW_init 72 = .ok (.invokespecial 11, 3) := by decide +kernel
theorem d_RW_init_75 : decode b_RW_init 75 = .ok (.putfield 34, 3) := by decide +kernel
theorem d_RW_init_78 : decode b_RW_init 78 = .ok (.aload_n 0, 1) := by decide +kernel
theorem d_RW_init_79 : decode b_RW_init 79 = .ok (.new 9, 3) := by decide +kernel
theorem d_RW_init_82 : decode b_RW_init 82 = .ok (.dup, 1) := by decide +kernel
theorem d_RW_init_83 : decode b_RW_init 83 = .ok (.invokespecial 11, 3) := by decide +kernel
theorem d_RW_init_86 : decode b_RW_init 86 = .ok (.putfield 37, 3) := by decide +kernel
theorem d_RW_init_89 : decode b_RW_init 89 = .ok (.aload_n 0, 1) := by decide +kernel
theorem d_RW_init_90 : decode b_RW_init 90 = .ok (.sipush 512, 3) := by decide +kernel
theorem d_RW_init_93 : decode b_RW_init 93 = .ok (.newarray .int, 2) := by decide +kernel
theorem d_RW_init_95 : decode b_RW_init 95 = .ok (.putfield 40, 3) := by decide +kernel
theorem d_RW_init_98 : decode b_RW_init 98 = .ok (.aload_n 0, 1) := by decide +kernel
theorem d_RW_init_99 : decode b_RW_init 99 = .ok (.getfield 40, 3) := by decide +kernel
theorem d_RW_init_102 : decode b_RW_init 102 = .ok (.iconst (-1), 1) := by decide +kernel
theorem d_RW_init_103 : decode b_RW_init 103 = .ok (.invokestatic 44, 3) := by decide +kernel
theorem d_RW_init_106 : decode b_RW_init 106 = .ok (.aload_n 0, 1) := by decide +kernel
theorem d_RW_init_107 : decode b_RW_init 107 = .ok (.bipush 16, 2) := by decide +kernel
theorem d_RW_init_109 : decode b_RW_init 109 = .ok (.newarray .long, 2) := by decide +kernel
theorem d_RW_init_111 : decode b_RW_init 111 = .ok (.putfield 50, 3) := by decide +kernel
theorem d_RW_init_114 : decode b_RW_init 114 = .ok (.return_, 1) := by decide +kernel
theorem d_RW_forget_0 : decode b_RW_forget 0 = .ok (.aload_n 0, 1) := by decide +kernel
theorem d_RW_forget_1 : decode b_RW_forget 1 = .ok (.getfield 12, 3) := by decide +kernel
theorem d_RW_forget_4 : decode b_RW_forget 4 = .ok (.iconst 0, 1) := by decide +kernel
theorem d_RW_forget_5 : decode b_RW_forget 5 = .ok (.invokevirtual 54, 3) := by decide +kernel
theorem d_RW_forget_8 : decode b_RW_forget 8 = .ok (.aload_n 0, 1) := by decide +kernel
theorem d_RW_forget_9 : decode b_RW_forget 9 = .ok (.getfield 18, 3) := by decide +kernel
theorem d_RW_forget_12 : decode b_RW_forget 12 = .ok (.iconst 1, 1) := by decide +kernel
theorem d_RW_forget_13 : decode b_RW_forget 13 = .ok (.invokevirtual 54, 3) := by decide +kernel
theorem d_RW_forget_16 : decode b_RW_forget 16 = .ok (.aload_n 0, 1) := by decide +kernel
theorem d_RW_forget_17 : decode b_RW_forget 17 = .ok (.getfield 25, 3) := by decide +kernel
theorem d_RW_forget_20 : decode b_RW_forget 20 = .ok (.iconst 0, 1) := by decide +kernel
theorem d_RW_forget_21 : decode b_RW_forget 21 = .ok (.invokevirtual 54, 3) := by decide +kernel
theorem d_RW_forget_24 : decode b_RW_forget 24 = .ok (.aload_n 0, 1) := by decide +kernel
theorem d_RW_forget_25 : decode b_RW_forget 25 = .ok (.getfield 28, 3) := by decide +kernel
theorem d_RW_forget_28 : decode b_RW_forget 28 = .ok (.iconst 0, 1) := by decide +kernel
theorem d_RW_forget_29 : decode b_RW_forget 29 = .ok (.invokevirtual 54, 3) := by decide +kernel
theorem d_RW_forget_32 : decode b_RW_forget 32 = .ok (.aload_n 0, 1) := by decide +kernel
theorem d_RW_forget_33 : decode b_RW_forget 33 = .ok (.getfield 31, 3) := by decide +kernel
theorem d_RW_forget_36 : decode b_RW_forget 36 = .ok (.iconst 0, 1) := by decide +kernel
theorem d_RW_forget_37 : decode b_RW_forget 37 = .ok (.invokevirtual 54, 3) := by decide +kernel
theorem d_RW_forget_40 : decode b_RW_forget 40 = .ok (.aload_n 0, 1) := by decide +kernel
theorem d_RW_forget_41 : decode b_RW_forget 41 = .ok (.getfield 34, 3) := by decide +kernel
theorem d_RW_forget_44 : decode b_RW_forget 44 = .ok (.iconst 0, 1) := by decide +kernel
theorem d_RW_forget_45 : decode b_RW_forget 45 = .ok (.invokevirtual 54, 3) := by decide +kernel
theorem d_RW_forget_48 : decode b_RW_forget 48 = .ok (.aload_n 0, 1) := by decide +kernel
theorem d_RW_forget_49 : decode b_RW_forget 49 = .ok (.getfield 37, 3) := by decide +kernel
theorem d_RW_forget_52 : decode b_RW_forget 52 = .ok (.iconst 0, 1) := by decide +kernel
theorem d_RW_forget_53 : decode b_RW_forget 53 = .ok (.invokevirtual 54, 3) := by decide +kernel
theorem d_RW_forget_56 : decode b_RW_forget 56 = .ok (.aload_n 0, 1) := by decide +kernel
theorem d_RW_forget_57 : decode b_RW_forget 57 = .ok (.getfield 40, 3) := by decide +kernel
theorem d_RW_forget_60 : decode b_RW_forget 60 = .ok (.iconst (-1), 1) := by decide +kernel
theorem d_RW_forget_61 : decode b_RW_forget 61 = .ok (.invokestatic 44, 3) := by decide +kernel
theorem d_RW_forget_64 : decode b_RW_forget 64 = .ok (.return_, 1) := by decide +kernel
theorem d_RW_amount_0 : decode b_RW_amount 0 = .ok (.aload_n 0, 1) := by decide +kernel
theorem d_RW_amount_1 : decode b_RW_amount 1 = .ok (.getfield 12, 3) := by decide +kernel
theorem d_RW_amount_4 : decode b_RW_amount 4 = .ok (.invokevirtual 57, 3) := by decide +kernel
theorem d_RW_amount_7 : decode b_RW_amount 7 = .ok (.ireturn, 1) := by decide +kernel
theorem d_RW_amountOfKinds_0 : decode b_RW_amountOfKinds 0 = .ok (.aload_n 0, 1) := by decide +kernel
theorem d_RW_amountOfKinds_1 : decode b_RW_amountOfKinds 1 = .ok (.getfield 34, 3) := by decide +kernel
theorem d_RW_amountOfKinds_4 : decode b_RW_amountOfKinds 4 = .ok (.invokevirtual 57, 3) := by decide +kernel
theorem d_RW_amountOfKinds_7 : decode b_RW_amountOfKinds 7 = .ok (.ireturn, 1) := by decide +kernel
theorem d_RW_has_0 : decode b_RW_has 0 = .ok (.iload_n 1, 1) := by decide +kernel
theorem d_RW_has_1 : decode b_RW_has 1 = .ok (.ifCond .lt 18, 3) := by decide +kernel
theorem d_RW_has_4 : decode b_RW_has 4 = .ok (.iload_n 1, 1) := by decide +kernel
theorem d_RW_has_5 : decode b_RW_has 5 = .ok (.aload_n 0, 1) := by decide +kernel
theorem d_RW_has_6 : decode b_RW_has 6 = .ok (.getfield 12, 3) := by decide +kernel
theorem d_RW_has_9 : decode b_RW_has 9 = .ok (.invokevirtual 57, 3) := by decide +kernel
theorem d_RW_has_12 : decode b_RW_has 12 = .ok (.if_icmp .ge 7, 3) := by decide +kernel
theorem d_RW_has_15 : decode b_RW_has 15 = .ok (.iconst 1, 1) := by decide +kernel
theorem d_RW_has_16 : decode b_RW_has 16 = .ok (.goto 4, 3) := by decide +kernel
theorem d_RW_has_19 : decode b_RW_has 19 = .ok (.iconst 0, 1) := by decide +kernel
theorem d_RW_has_20 : decode b_RW_has 20 = .ok (.ireturn, 1) := by decide +kernel
theorem d_RW_statementOf_0 : decode b_RW_statementOf 0 = .ok (.aload_n 0, 1) := by decide +kernel
theorem d_RW_statementOf_1 : decode b_RW_statementOf 1 = .ok (.getfield 12, 3) := by decide +kernel
theorem d_RW_statementOf_4 : decode b_RW_statementOf 4 = .ok (.iload_n 1, 1) := by decide +kernel
theorem d_RW_statementOf_5 : decode b_RW_statementOf 5 = .ok (.invokevirtual 61, 3) := by decide +kernel
theorem d_RW_statementOf_8 : decode b_RW_statementOf 8 = .ok (.ireturn, 1) := by decide +kernel
theorem d_RW_kindOf_0 : decode b_RW_kindOf 0 = .ok (.aload_n 0, 1) := by decide +kernel
theorem d_RW_kindOf_1 : decode b_RW_kindOf 1 = .ok (.getfield 31, 3) := by decide +kernel
theorem d_RW_kindOf_4 : decode b_RW_kindOf 4 = .ok (.iload_n 1, 1) := by decide +kernel
theorem d_RW_kindOf_5 : decode b_RW_kindOf 5 = .ok (.invokevirtual 61, 3) := by decide +kernel
theorem d_RW_kindOf_8 : decode b_RW_kindOf 8 = .ok (.ireturn, 1) := by decide +kernel
theorem d_RW_amountOfParts_0 : decode b_RW_amountOfParts 0 = .ok (.aload_n 0, 1) := by decide +kernel
theorem d_RW_amountOfParts_1 : decode b_RW_amountOfParts 1 = .ok (.iload_n 1, 1) := by decide +kernel
theorem d_RW_amountOfParts_2 : decode b_RW_amountOfParts 2 = .ok (.invokevirtual 65, 3) := by decide +kernel
theorem d_RW_amountOfParts_5 : decode b_RW_amountOfParts 5 = .ok (.ifCond .eq 25, 3) := by decide +kernel
theorem d_RW_amountOfParts_8 : decode b_RW_amountOfParts 8 = .ok (.aload_n 0, 1) := by decide +kernel
theorem d_RW_amountOfParts_9 : decode b_RW_amountOfParts 9 = .ok (.getfield 18, 3) := by decide +kernel
theorem d_RW_amountOfParts_12 : decode b_RW_amountOfParts 12 = .ok (.iload_n 1, 1) := by decide +kernel
theorem d_RW_amountOfParts_13 : decode b_RW_amountOfParts 13 = .ok (.iconst 1, 1) := by decide +kernel
theorem d_RW_amountOfParts_14 : decode b_RW_amountOfParts 14 = .ok (.iadd, 1) := by decide +kernel
theorem d_RW_amountOfParts_15 : decode b_RW_amountOfParts 15 = .ok (.invokevirtual 61, 3) := by decide +kernel
theorem d_RW_amountOfParts_18 : decode b_RW_amountOfParts 18 = .ok (.aload_n 0, 1) := by decide +kernel
theorem d_RW_amountOfParts_19 : decode b_RW_amountOfParts 19 = .ok (.getfield 18, 3) := by decide +kernel
theorem d_RW_amountOfParts_22 : decode b_RW_amountOfParts 22 = .ok (.iload_n 1, 1) := by decide +kernel
theorem d_RW_amountOfParts_23 : decode b_RW_amountOfParts 23 = .ok (.invokevirtual 61, 3) := by decide +kernel
theorem d_RW_amountOfParts_26 : decode b_RW_amountOfParts 26 = .ok (.isub, 1) := by decide +kernel
theorem d_RW_amountOfParts_27 : decode b_RW_amountOfParts 27 = .ok (.goto 4, 3) := by decide +kernel
theorem d_RW_amountOfParts_30 : decode b_RW_amountOfParts 30 = .ok (.iconst 0, 1) := by decide +kernel
theorem d_RW_amountOfParts_31 : decode b_RW_amountOfParts 31 = .ok (.ireturn, 1) := by decide +kernel
theorem d_RW_part_0 : decode b_RW_part 0 = .ok (.iload_n 2, 1) := by decide +kernel
theorem d_RW_part_1 : decode b_RW_part 1 = .ok (.ifCond .lt 32, 3) := by decide +kernel
theorem d_RW_part_4 : decode b_RW_part 4 = .ok (.iload_n 2, 1) := by decide +kernel
theorem d_RW_part_5 : decode b_RW_part 5 = .ok (.aload_n 0, 1) := by decide +kernel
theorem d_RW_part_6 : decode b_RW_part 6 = .ok (.iload_n 1, 1) := by decide +kernel
theorem d_RW_part_7 : decode b_RW_part 7 = .ok (.invokevirtual 69, 3) := by decide +kernel
theorem d_RW_part_10 : decode b_RW_part 10 = .ok (.if_icmp .ge 23, 3) := by decide +kernel
theorem d_RW_part_13 : decode b_RW_part 13 = .ok (.aload_n 0, 1) := by decide +kernel
theorem d_RW_part_14 : decode b_RW_part 14 = .ok (.getfield 25, 3) := by decide +kernel
theorem d_RW_part_17 : decode b_RW_part 17 = .ok (.aload_n 0, 1) := by decide +kernel
theorem d_RW_part_18 : decode b_RW_part 18 = .ok (.getfield 18, 3) := by decide +kernel
theorem d_RW_part_21 : decode b_RW_part 21 = .ok (.iload_n 1, 1) := by decide +kernel
theorem d_RW_part_22 : decode b_RW_part 22 = .ok (.invokevirtual 61, 3) := by decide +kernel
theorem d_RW_part_25 : decode b_RW_part 25 = .ok (.iload_n 2, 1) := by decide +kernel
theorem d_RW_part_26 : decode b_RW_part 26 = .ok (.iadd, 1) := by decide +kernel
theorem d_RW_part_27 : decode b_RW_part 27 = .ok (.invokevirtual 61, 3) := by decide +kernel
theorem d_RW_part_30 : decode b_RW_part 30 = .ok (.goto 4, 3) := by decide +kernel
theorem d_RW_part_33 : decode b_RW_part 33 = .ok (.iconst (-1), 1) := by decide +kernel
theorem d_RW_part_34 : decode b_RW_part 34 = .ok (.ireturn, 1) := by decide +kernel
theorem d_RW_stepsInFull_0 : decode b_RW_stepsInFull 0 = .ok (.aload_n 0, 1) := by decide +kernel
theorem d_RW_stepsInFull_1 : decode b_RW_stepsInFull 1 = .ok (.iload_n 1, 1) := by decide +kernel
theorem d_RW_stepsInFull_2 : decode b_RW_stepsInFull 2 = .ok (.invokevirtual 65, 3) := by decide +kernel
theorem d_RW_stepsInFull_5 : decode b_RW_stepsInFull 5 = .ok (.ifCond .eq 21, 3) := by decide +kernel
theorem d_RW_stepsInFull_8 : decode b_RW_stepsInFull 8 = .ok (.iload_n 1, 1) := by decide +kernel
theorem d_RW_stepsInFull_9 : decode b_RW_stepsInFull 9 = .ok (.aload_n 0, 1) := by decide +kernel
theorem d_RW_stepsInFull_10 : decode b_RW_stepsInFull 10 = .ok (.getfield 50, 3) := by decide +kernel
theorem d_RW_stepsInFull_13 : decode b_RW_stepsInFull 13 = .ok (.arraylength, 1) := by decide +kernel
theorem d_RW_stepsInFull_14 : decode b_RW_stepsInFull 14 = .ok (.if_icmp .ge 12, 3) := by decide +kernel
theorem d_RW_stepsInFull_17 : decode b_RW_stepsInFull 17 = .ok (.aload_n 0, 1) := by decide +kernel
theorem d_RW_stepsInFull_18 : decode b_RW_stepsInFull 18 = .ok (.getfield 50, 3) := by decide +kernel
theorem d_RW_stepsInFull_21 : decode b_RW_stepsInFull 21 = .ok (.iload_n 1, 1) := by decide +kernel
theorem d_RW_stepsInFull_22 : decode b_RW_stepsInFull 22 = .ok (.laload, 1) := by decide +kernel
theorem d_RW_stepsInFull_23 : decode b_RW_stepsInFull 23 = .ok (.goto 4, 3) := by decide +kernel
theorem d_RW_stepsInFull_26 : decode b_RW_stepsInFull 26 = .ok (.lconst 0, 1) := by decide +kernel
theorem d_RW_stepsInFull_27 : decode b_RW_stepsInFull 27 = .ok (.lreturn, 1) := by decide +kernel
theorem d_RW_add_0 : decode b_RW_add 0 = .ok (.aload_n 0, 1) := by decide +kernel
theorem d_RW_add_1 : decode b_RW_add 1 = .ok (.invokevirtual 72, 3) := by decide +kernel
theorem d_RW_add_4 : decode b_RW_add 4 = .ok (.istore 4, 2) := by decide +kernel
theorem d_RW_add_6 : decode b_RW_add 6 = .ok (.aload_n 0, 1) := by decide +kernel
theorem d_RW_add_7 : decode b_RW_add 7 = .ok (.getfield 25, 3) := by decide +kernel
theorem d_RW_add_10 : decode b_RW_add 10 = .ok (.invokevirtual 57, 3) := by decide +kernel
theorem d_RW_add_13 : decode b_RW_add 13 = .ok (.istore 5, 2) := by decide +kernel
theorem d_RW_add_15 : decode b_RW_add 15 = .ok (.iload_n 3, 1) := by decide +kernel
theorem d_RW_add_16 : decode b_RW_add 16 = .ok (.istore 6, 2) := by decide +kernel
theorem d_RW_add_18 : decode b_RW_add 18 = .ok (.iload 6, 2) := by decide +kernel
theorem d_RW_add_20 : decode b_RW_add 20 = .ok (.aload_n 2, 1) := by decide +kernel
theorem d_RW_add_21 : decode b_RW_add 21 = .ok (.invokevirtual 57, 3) := by decide +kernel
theorem d_RW_add_24 : decode b_RW_add 24 = .ok (.if_icmp .ge 39, 3) := by decide +kernel
theorem d_RW_add_27 : decode b_RW_add 27 = .ok (.aload_n 0, 1) := by decide +kernel
theorem d_RW_add_28 : decode b_RW_add 28 = .ok (.getfield 25, 3) := by decide +kernel
theorem d_RW_add_31 : decode b_RW_add 31 = .ok (.aload_n 2, 1) := by decide +kernel
theorem d_RW_add_32 : decode b_RW_add 32 = .ok (.iload 6, 2) := by decide +kernel
theorem d_RW_add_34 : decode b_RW_add 34 = .ok (.invokevirtual 61, 3) := by decide +kernel
theorem d_RW_add_37 : decode b_RW_add 37 = .ok (.invokevirtual 21, 3) := by decide +kernel
theorem d_RW_add_40 : decode b_RW_add 40 = .ok (.aload_n 0, 1) := by decide +kernel
theorem d_RW_add_41 : decode b_RW_add 41 = .ok (.getfield 28, 3) := by decide +kernel
theorem d_RW_add_44 : decode b_RW_add 44 = .ok (.aload_n 0, 1) := by decide +kernel
theorem d_RW_add_45 : decode b_RW_add 45 = .ok (.aload_n 2, 1) := by decide +kernel
theorem d_RW_add_46 : decode b_RW_add 46 = .ok (.iload 6, 2) := by decide +kernel
theorem d_RW_add_48 : decode b_RW_add 48 = .ok (.invokevirtual 61, 3) := by decide +kernel
theorem d_RW_add_51 : decode b_RW_add 51 = .ok (.invokevirtual 75, 3) := by decide +kernel
theorem d_RW_add_54 : decode b_RW_add 54 = .ok (.invokevirtual 21, 3) := by decide +kernel
theorem d_RW_add_57 : decode b_RW_add 57 = .ok (.iinc 6 1, 3) := by decide +kernel
theorem d_RW_add_60 : decode b_RW_add 60 = .ok (.goto (-42), 3) := by decide +kernel
theorem d_RW_add_63 : decode b_RW_add 63 = .ok (.aload_n 0, 1) := by decide +kernel
theorem d_RW_add_64 : decode b_RW_add 64 = .ok (.getfield 18, 3) := by decide +kernel
theorem d_RW_add_67 : decode b_RW_add 67 = .ok (.aload_n 0, 1) := by decide +kernel
theorem d_RW_add_68 : decode b_RW_add 68 = .ok (.getfield 25, 3) := by decide +kernel
theorem d_RW_add_71 : decode b_RW_add 71 = .ok (.invokevirtual 57, 3) := by decide +kernel
theorem d_RW_add_74 : decode b_RW_add 74 = .ok (.invokevirtual 21, 3) := by decide +kernel
theorem d_RW_add_77 : decode b_RW_add 77 = .ok (.aload_n 0, 1) := by decide +kernel
theorem d_RW_add_78 : decode b_RW_add 78 = .ok (.getfield 12, 3) := by decide +kernel
theorem d_RW_add_81 : decode b_RW_add 81 = .ok (.iload_n 1, 1) := by decide +kernel
theorem d_RW_add_82 : decode b_RW_add 82 = .ok (.invokevirtual 21, 3) := by decide +kernel
theorem d_RW_add_85 : decode b_RW_add 85 = .ok (.aload_n 0, 1) := by decide +kernel
theorem d_RW_add_86 : decode b_RW_add 86 = .ok (.getfield 31, 3) := by decide +kernel
theorem d_RW_add_89 : decode b_RW_add 89 = .ok (.aload_n 0, 1) := by decide +kernel
theorem d_RW_add_90 : decode b_RW_add 90 = .ok (.iload 4, 2) := by decide +kernel
theorem d_RW_add_92 : decode b_RW_add 92 = .ok (.iload 5, 2) := by decide +kernel
theorem d_RW_add_94 : decode b_RW_add 94 = .ok (.invokevirtual 78, 3) := by decide +kernel
theorem d_RW_add_97 : decode b_RW_add 97 = .ok (.invokevirtual 21, 3) := by decide +kernel
theorem d_RW_add_100 : decode b_RW_add 100 = .ok (.aload_n 0, 1) := by decide +kernel
theorem d_RW_add_101 : decode b_RW_add 101 = .ok (.iload 4, 2) := by decide +kernel
theorem d_RW_add_103 : decode b_RW_add 103 = .ok (.aload_n 0, 1) := by decide +kernel
theorem d_RW_add_104 : decode b_RW_add 104 = .ok (.iload 4, 2) := by decide +kernel
theorem d_RW_add_106 : decode b_RW_add 106 = .ok (.invokevirtual 82, 3) := by decide +kernel
theorem d_RW_add_109 : decode b_RW_add 109 = .ok (.invokevirtual 86, 3) := by decide +kernel
theorem d_RW_add_112 : decode b_RW_add 112 = .ok (.iload 4, 2) := by decide +kernel
theorem d_RW_add_114 : decode b_RW_add 114 = .ok (.ireturn, 1) := by decide +kernel
theorem d_RW_kindOfNewRow_0 : decode b_RW_kindOfNewRow 0 = .ok (.aload_n 0, 1) := by decide +kernel
theorem d_RW_kindOfNewRow_1 : decode b_RW_kindOfNewRow 1 = .ok (.aload_n 0, 1) := by decide +kernel
theorem d_RW_kindOfNewRow_2 : decode b_RW_kindOfNewRow 2 = .ok (.iload_n 1, 1) := by decide +kernel
theorem d_RW_kindOfNewRow_3 : decode b_RW_kindOfNewRow 3 = .ok (.invokevirtual 90, 3) := by decide +kernel
theorem d_RW_kindOfNewRow_6 : decode b_RW_kindOfNewRow 6 = .ok (.aload_n 0, 1) := by decide +kernel
theorem d_RW_kindOfNewRow_7 : decode b_RW_kindOfNewRow 7 = .ok (.getfield 28, 3) := by decide +kernel
theorem d_RW_kindOfNewRow_10 : decode b_RW_kindOfNewRow 10 = .ok (.iload_n 2, 1) := by decide +kernel
theorem d_RW_kindOfNewRow_11 : decode b_RW_kindOfNewRow 11 = .ok (.invokevirtual 93, 3) := by decide +kernel
theorem d_RW_kindOfNewRow_14 : decode b_RW_kindOfNewRow 14 = .ok (.istore_n 3, 1) := by decide +kernel
theorem d_RW_kindOfNewRow_15 : decode b_RW_kindOfNewRow 15 = .ok (.iload_n 3, 1) := by decide +kernel
theorem d_RW_kindOfNewRow_16 : decode b_RW_kindOfNewRow 16 = .ok (.iconst (-1), 1) := by decide +kernel
theorem d_RW_kindOfNewRow_17 : decode b_RW_kindOfNewRow 17 = .ok (.if_icmp .eq 5, 3) := by decide +kernel
theorem d_RW_kindOfNewRow_20 : decode b_RW_kindOfNewRow 20 = .ok (.iload_n 3, 1) := by decide +kernel
theorem d_RW_kindOfNewRow_21 : decode b_RW_kindOfNewRow 21 = .ok (.ireturn, 1) := by decide +kernel
theorem d_RW_kindOfNewRow_22 : decode b_RW_kindOfNewRow 22 = .ok (.aload_n 0, 1) := by decide +kernel
theorem d_RW_kindOfNewRow_23 : decode b_RW_kindOfNewRow 23 = .ok (.invokevirtual 97, 3) := by decide +kernel
theorem d_RW_kindOfNewRow_26 : decode b_RW_kindOfNewRow 26 = .ok (.istore 4, 2) := by decide +kernel
theorem d_RW_kindOfNewRow_28 : decode b_RW_kindOfNewRow 28 = .ok (.aload_n 0, 1) := by decide +kernel
theorem d_RW_kindOfNewRow_29 : decode b_RW_kindOfNewRow 29 = .ok (.aload_n 0, 1) := by decide +kernel
theorem d_RW_kindOfNewRow_30 : decode b_RW_kindOfNewRow 30 = .ok (.iload_n 1, 1) := by decide +kernel
theorem d_RW_kindOfNewRow_31 : decode b_RW_kindOfNewRow 31 = .ok (.invokevirtual 90, 3) := by decide +kernel
theorem d_RW_kindOfNewRow_34 : decode b_RW_kindOfNewRow 34 = .ok (.aload_n 0, 1) := by decide +kernel
theorem d_RW_kindOfNewRow_35 : decode b_RW_kindOfNewRow 35 = .ok (.getfield 28, 3) := by decide +kernel
theorem d_RW_kindOfNewRow_38 : decode b_RW_kindOfNewRow 38 = .ok (.iload_n 2, 1) := by decide +kernel
theorem d_RW_kindOfNewRow_39 : decode b_RW_kindOfNewRow 39 = .ok (.invokevirtual 100, 3) := by decide +kernel
theorem d_RW_kindOfNewRow_42 : decode b_RW_kindOfNewRow 42 = .ok (.istore 5, 2) := by decide +kernel
theorem d_RW_kindOfNewRow_44 : decode b_RW_kindOfNewRow 44 = .ok (.aload_n 0, 1) := by decide +kernel
theorem d_RW_kindOfNewRow_45 : decode b_RW_kindOfNewRow 45 = .ok (.getfield 34, 3) := by decide +kernel
theorem d_RW_kindOfNewRow_48 : decode b_RW_kindOfNewRow 48 = .ok (.iload_n 1, 1) := by decide +kernel
theorem d_RW_kindOfNewRow_49 : decode b_RW_kindOfNewRow 49 = .ok (.invokevirtual 21, 3) := by decide +kernel
theorem d_RW_kindOfNewRow_52 : decode b_RW_kindOfNewRow 52 = .ok (.aload_n 0, 1) := by decide +kernel
theorem d_RW_kindOfNewRow_53 : decode b_RW_kindOfNewRow 53 = .ok (.getfield 37, 3) := by decide +kernel
theorem d_RW_kindOfNewRow_56 : decode b_RW_kindOfNewRow 56 = .ok (.aload_n 0, 1) := by decide +kernel
theorem d_RW_kindOfNewRow_57 : decode b_RW_kindOfNewRow 57 = .ok (.getfield 40, 3) := by decide +kernel
theorem d_RW_kindOfNewRow_60 : decode b_RW_kindOfNewRow 60 = .ok (.iload 5, 2) := by decide +kernel
theorem d_RW_kindOfNewRow_62 : decode b_RW_kindOfNewRow 62 = .ok (.iaload, 1) := by decide +kernel
theorem d_RW_kindOfNewRow_63 : decode b_RW_kindOfNewRow 63 = .ok (.invokevirtual 21, 3) := by decide +kernel
theorem d_RW_kindOfNewRow_66 : decode b_RW_kindOfNewRow 66 = .ok (.aload_n 0, 1) := by decide +kernel
theorem d_RW_kindOfNewRow_67 : decode b_RW_kindOfNewRow 67 = .ok (.getfield 40, 3) := by decide +kernel
theorem d_RW_kindOfNewRow_70 : decode b_RW_kindOfNewRow 70 = .ok (.iload 5, 2) := by decide +kernel
theorem d_RW_kindOfNewRow_72 : decode b_RW_kindOfNewRow 72 = .ok (.iload 4, 2) := by decide +kernel
theorem d_RW_kindOfNewRow_74 : decode b_RW_kindOfNewRow 74 = .ok (.iastore, 1) := by decide +kernel
theorem d_RW_kindOfNewRow_75 : decode b_RW_kindOfNewRow 75 = .ok (.iload 4, 2) := by decide +kernel
theorem d_RW_kindOfNewRow_77 : decode b_RW_kindOfNewRow 77 = .ok (.ireturn, 1) := by decide +kernel
theorem d_RW_kindMadeOf_0 : decode b_RW_kindMadeOf 0 = .ok (.aload_n 0, 1) := by decide +kernel
theorem d_RW_kindMadeOf_1 : decode b_RW_kindMadeOf 1 = .ok (.getfield 40, 3) := by decide +kernel
theorem d_RW_kindMadeOf_4 : decode b_RW_kindMadeOf 4 = .ok (.aload_n 0, 1) := by decide +kernel
theorem d_RW_kindMadeOf_5 : decode b_RW_kindMadeOf 5 = .ok (.iload_n 1, 1) := by decide +kernel
theorem d_RW_kindMadeOf_6 : decode b_RW_kindMadeOf 6 = .ok (.aload_n 2, 1) := by decide +kernel
theorem d_RW_kindMadeOf_7 : decode b_RW_kindMadeOf 7 = .ok (.iload_n 3, 1) := by decide +kernel
theorem d_RW_kindMadeOf_8 : decode b_RW_kindMadeOf 8 = .ok (.invokevirtual 100, 3) := by decide +kernel
theorem d_RW_kindMadeOf_11 : decode b_RW_kindMadeOf 11 = .ok (.iaload, 1) := by decide +kernel
theorem d_RW_kindMadeOf_12 : decode b_RW_kindMadeOf 12 = .ok (.istore 4, 2) := by decide +kernel
theorem d_RW_kindMadeOf_14 : decode b_RW_kindMadeOf 14 = .ok (.iconst 0, 1) := by decide +kernel
theorem d_RW_kindMadeOf_15 : decode b_RW_kindMadeOf 15 = .ok (.istore 5, 2) := by decide +kernel
theorem d_RW_kindMadeOf_17 : decode b_RW_kindMadeOf 17 = .ok (.iload 5, 2) := by decide +kernel
theorem d_RW_kindMadeOf_19 : decode b_RW_kindMadeOf 19 = .ok (.aload_n 0, 1) := by decide +kernel
theorem d_RW_kindMadeOf_20 : decode b_RW_kindMadeOf 20 = .ok (.invokevirtual 97, 3) := by decide +kernel
theorem d_RW_kindMadeOf_23 : decode b_RW_kindMadeOf 23 = .ok (.if_icmp .ge 41, 3) := by decide +kernel
theorem d_RW_kindMadeOf_26 : decode b_RW_kindMadeOf 26 = .ok (.iload 4, 2) := by decide +kernel
theorem d_RW_kindMadeOf_28 : decode b_RW_kindMadeOf 28 = .ok (.iconst (-1), 1) := by decide +kernel
theorem d_RW_kindMadeOf_29 : decode b_RW_kindMadeOf 29 = .ok (.if_icmp .eq 35, 3) := by decide +kernel
theorem d_RW_kindMadeOf_32 : decode b_RW_kindMadeOf 32 = .ok (.aload_n 0, 1) := by decide +kernel
theorem d_RW_kindMadeOf_33 : decode b_RW_kindMadeOf 33 = .ok (.iload 4, 2) := by decide +kernel
theorem d_RW_kindMadeOf_35 : decode b_RW_kindMadeOf 35 = .ok (.iload_n 1, 1) := by decide +kernel
theorem d_RW_kindMadeOf_36 : decode b_RW_kindMadeOf 36 = .ok (.aload_n 2, 1) := by decide +kernel
theorem d_RW_kindMadeOf_37 : decode b_RW_kindMadeOf 37 = .ok (.iload_n 3, 1) := by decide +kernel
theorem d_RW_kindMadeOf_38 : decode b_RW_kindMadeOf 38 = .ok (.invokevirtual 103, 3) := by decide +kernel
theorem d_RW_kindMadeOf_41 : decode b_RW_kindMadeOf 41 = .ok (.ifCond .eq 6, 3) := by decide +kernel
theorem d_RW_kindMadeOf_44 : decode b_RW_kindMadeOf 44 = .ok (.iload 4, 2) := by decide +kernel
theorem d_RW_kindMadeOf_46 : decode b_RW_kindMadeOf 46 = .ok (.ireturn, 1) := by decide +kernel
theorem d_RW_kindMadeOf_47 : decode b_RW_kindMadeOf 47 = .ok (.aload_n 0, 1) := by decide +kernel
theorem d_RW_kindMadeOf_48 : decode b_RW_kindMadeOf 48 = .ok (.getfield 37, 3) := by decide +kernel
theorem d_RW_kindMadeOf_51 : decode b_RW_kindMadeOf 51 = .ok (.iload 4, 2) := by decide +kernel
theorem d_RW_kindMadeOf_53 : decode b_RW_kindMadeOf 53 = .ok (.invokevirtual 61, 3) := by decide +kernel
theorem d_RW_kindMadeOf_56 : decode b_RW_kindMadeOf 56 = .ok (.istore 4, 2) := by decide +kernel
theorem d_RW_kindMadeOf_58 : decode b_RW_kindMadeOf 58 = .ok (.iinc 5 1, 3) := by decide +kernel
theorem d_RW_kindMadeOf_61 : decode b_RW_kindMadeOf 61 = .ok (.goto (-44), 3) := by decide +kernel
theorem d_RW_kindMadeOf_64 : decode b_RW_kindMadeOf 64 = .ok (.iconst (-1), 1) := by decide +kernel
theorem d_RW_kindMadeOf_65 : decode b_RW_kindMadeOf 65 = .ok (.ireturn, 1) := by decide +kernel
theorem d_RW_isMadeOf_0 : decode b_RW_isMadeOf 0 = .ok (.aload_n 0, 1) := by decide +kernel
theorem d_RW_isMadeOf_1 : decode b_RW_isMadeOf 1 = .ok (.getfield 34, 3) := by decide +kernel
theorem d_RW_isMadeOf_4 : decode b_RW_isMadeOf 4 = .ok (.iload_n 1, 1) := by decide +kernel
theorem d_RW_isMadeOf_5 : decode b_RW_isMadeOf 5 = .ok (.invokevirtual 61, 3) := by decide +kernel
theorem d_RW_isMadeOf_8 : decode b_RW_isMadeOf 8 = .ok (.istore 5, 2) := by decide +kernel
theorem d_RW_isMadeOf_10 : decode b_RW_isMadeOf 10 = .ok (.aload_n 0, 1) := by decide +kernel
theorem d_RW_isMadeOf_11 : decode b_RW_isMadeOf 11 = .ok (.iload 5, 2) := by decide +kernel
theorem d_RW_isMadeOf_13 : decode b_RW_isMadeOf 13 = .ok (.invokevirtual 90, 3) := by decide +kernel
theorem d_RW_isMadeOf_16 : decode b_RW_isMadeOf 16 = .ok (.iload_n 2, 1) := by decide +kernel
theorem d_RW_isMadeOf_17 : decode b_RW_isMadeOf 17 = .ok (.if_icmp .eq 5, 3) := by decide +kernel
theorem d_RW_isMadeOf_20 : decode b_RW_isMadeOf 20 = .ok (.iconst 0, 1) := by decide +kernel
theorem d_RW_isMadeOf_21 : decode b_RW_isMadeOf 21 = .ok (.ireturn, 1) := by decide +kernel
theorem d_RW_isMadeOf_22 : decode b_RW_isMadeOf 22 = .ok (.iconst 0, 1) := by decide +kernel
theorem d_RW_isMadeOf_23 : decode b_RW_isMadeOf 23 = .ok (.istore 6, 2) := by decide +kernel
theorem d_RW_isMadeOf_25 : decode b_RW_isMadeOf 25 = .ok (.iload 6, 2) := by decide +kernel
theorem d_RW_isMadeOf_27 : decode b_RW_isMadeOf 27 = .ok (.aload_n 3, 1) := by decide +kernel
theorem d_RW_isMadeOf_28 : decode b_RW_isMadeOf 28 = .ok (.invokevirtual 57, 3) := by decide +kernel
theorem d_RW_isMadeOf_31 : decode b_RW_isMadeOf 31 = .ok (.iload 4, 2) := by decide +kernel
theorem d_RW_isMadeOf_33 : decode b_RW_isMadeOf 33 = .ok (.isub, 1) := by decide +kernel
theorem d_RW_isMadeOf_34 : decode b_RW_isMadeOf 34 = .ok (.if_icmp .ge 42, 3) := by decide +kernel
theorem d_RW_isMadeOf_37 : decode b_RW_isMadeOf 37 = .ok (.aload_n 0, 1) := by decide +kernel
theorem d_RW_isMadeOf_38 : decode b_RW_isMadeOf 38 = .ok (.getfield 28, 3) := by decide +kernel
theorem d_RW_isMadeOf_41 : decode b_RW_isMadeOf 41 = .ok (.aload_n 0, 1) := by decide +kernel
theorem d_RW_isMadeOf_42 : decode b_RW_isMadeOf 42 = .ok (.getfield 18, 3) := by decide +kernel
theorem d_RW_isMadeOf_45 : decode b_RW_isMadeOf 45 = .ok (.iload 5, 2) := by decide +kernel
theorem d_RW_isMadeOf_47 : decode b_RW_isMadeOf 47 = .ok (.invokevirtual 61, 3) := by decide +kernel
theorem d_RW_isMadeOf_50 : decode b_RW_isMadeOf 50 = .ok (.iload 6, 2) := by decide +kernel
theorem d_RW_isMadeOf_52 : decode b_RW_isMadeOf 52 = .ok (.iadd, 1) := by decide +kernel
theorem d_RW_isMadeOf_53 : decode b_RW_isMadeOf 53 = .ok (.invokevirtual 61, 3) := by decide +kernel
theorem d_RW_isMadeOf_56 : decode b_RW_isMadeOf 56 = .ok (.aload_n 3, 1) := by decide +kernel
theorem d_RW_isMadeOf_57 : decode b_RW_isMadeOf 57 = .ok (.iload 4, 2) := by decide +kernel
theorem d_RW_isMadeOf_59 : decode b_RW_isMadeOf 59 = .ok (.iload 6, 2) := by decide +kernel
theorem d_RW_isMadeOf_61 : decode b_RW_isMadeOf 61 = .ok (.iadd, 1) := by decide +kernel
theorem d_RW_isMadeOf_62 : decode b_RW_isMadeOf 62 = .ok (.invokevirtual 61, 3) := by decide +kernel
theorem d_RW_isMadeOf_65 : decode b_RW_isMadeOf 65 = .ok (.if_icmp .eq 5, 3) := by decide +kernel
theorem d_RW_isMadeOf_68 : decode b_RW_isMadeOf 68 = .ok (.iconst 0, 1) := by decide +kernel
theorem d_RW_isMadeOf_69 : decode b_RW_isMadeOf 69 = .ok (.ireturn, 1) := by decide +kernel
theorem d_RW_isMadeOf_70 : decode b_RW_isMadeOf 70 = .ok (.iinc 6 1, 3) := by decide +kernel
theorem d_RW_isMadeOf_73 : decode b_RW_isMadeOf 73 = .ok (.goto (-48), 3) := by decide +kernel
theorem d_RW_isMadeOf_76 : decode b_RW_isMadeOf 76 = .ok (.iconst 1, 1) := by decide +kernel
theorem d_RW_isMadeOf_77 : decode b_RW_isMadeOf 77 = .ok (.ireturn, 1) := by decide +kernel
theorem d_RW_bucketOf_0 : decode b_RW_bucketOf 0 = .ok (.iload_n 1, 1) := by decide +kernel
theorem d_RW_bucketOf_1 : decode b_RW_bucketOf 1 = .ok (.istore 4, 2) := by decide +kernel
theorem d_RW_bucketOf_3 : decode b_RW_bucketOf 3 = .ok (.iload_n 3, 1) := by decide +kernel
theorem d_RW_bucketOf_4 : decode b_RW_bucketOf 4 = .ok (.istore 5, 2) := by decide +kernel
theorem d_RW_bucketOf_6 : decode b_RW_bucketOf 6 = .ok (.iload 5, 2) := by decide +kernel
theorem d_RW_bucketOf_8 : decode b_RW_bucketOf 8 = .ok (.aload_n 2, 1) := by decide +kernel
theorem d_RW_bucketOf_9 : decode b_RW_bucketOf 9 = .ok (.invokevirtual 57, 3) := by decide +kernel
theorem d_RW_bucketOf_12 : decode b_RW_bucketOf 12 = .ok (.if_icmp .ge 23, 3) := by decide +kernel
theorem d_RW_bucketOf_15 : decode b_RW_bucketOf 15 = .ok (.bipush 31, 2) := by decide +kernel
theorem d_RW_bucketOf_17 : decode b_RW_bucketOf 17 = .ok (.iload 4, 2) := by decide +kernel
theorem d_RW_bucketOf_19 : decode b_RW_bucketOf 19 = .ok (.imul, 1) := by decide +kernel
theorem d_RW_bucketOf_20 : decode b_RW_bucketOf 20 = .ok (.aload_n 2, 1) := by decide +kernel
theorem d_RW_bucketOf_21 : decode b_RW_bucketOf 21 = .ok (.iload 5, 2) := by decide +kernel
theorem d_RW_bucketOf_23 : decode b_RW_bucketOf 23 = .ok (.invokevirtual 61, 3) := by decide +kernel
theorem d_RW_bucketOf_26 : decode b_RW_bucketOf 26 = .ok (.iadd, 1) := by decide +kernel
theorem d_RW_bucketOf_27 : decode b_RW_bucketOf 27 = .ok (.istore 4, 2) := by decide +kernel
theorem d_RW_bucketOf_29 : decode b_RW_bucketOf 29 = .ok (.iinc 5 1, 3) := by decide +kernel
theorem d_RW_bucketOf_32 : decode b_RW_bucketOf 32 = .ok (.goto (-26), 3) := by decide +kernel
theorem d_RW_bucketOf_35 : decode b_RW_bucketOf 35 = .ok (.iload 4, 2) := by decide +kernel
theorem d_RW_bucketOf_37 : decode b_RW_bucketOf 37 = .ok (.sipush 511, 3) := by decide +kernel
theorem d_RW_bucketOf_40 : decode b_RW_bucketOf 40 = .ok (.iand, 1) := by decide +kernel
theorem d_RW_bucketOf_41 : decode b_RW_bucketOf 41 = .ok (.ireturn, 1) := by decide +kernel
theorem d_RW_countSteps_0 : decode b_RW_countSteps 0 = .ok (.lconst 1, 1) := by decide +kernel
theorem d_RW_countSteps_1 : decode b_RW_countSteps 1 = .ok (.lstore_n 2, 1) := by decide +kernel
theorem d_RW_countSteps_2 : decode b_RW_countSteps 2 = .ok (.iconst 0, 1) := by decide +kernel
theorem d_RW_countSteps_3 : decode b_RW_countSteps 3 = .ok (.istore 4, 2) := by decide +kernel
theorem d_RW_countSteps_5 : decode b_RW_countSteps 5 = .ok (.iload 4, 2) := by decide +kernel
theorem d_RW_countSteps_7 : decode b_RW_countSteps 7 = .ok (.aload_n 0, 1) := by decide +kernel
theorem d_RW_countSteps_8 : decode b_RW_countSteps 8 = .ok (.iload_n 1, 1) := by decide +kernel
theorem d_RW_countSteps_9 : decode b_RW_countSteps 9 = .ok (.invokevirtual 69, 3) := by decide +kernel
theorem d_RW_countSteps_12 : decode b_RW_countSteps 12 = .ok (.if_icmp .ge 29, 3) := by decide +kernel
theorem d_RW_countSteps_15 : decode b_RW_countSteps 15 = .ok (.lload_n 2, 1) := by decide +kernel
theorem d_RW_countSteps_16 : decode b_RW_countSteps 16 = .ok (.aload_n 0, 1) := by decide +kernel
theorem d_RW_countSteps_17 : decode b_RW_countSteps 17 = .ok (.aload_n 0, 1) := by decide +kernel
theorem d_RW_countSteps_18 : decode b_RW_countSteps 18 = .ok (.iload_n 1, 1) := by decide +kernel
theorem d_RW_countSteps_19 : decode b_RW_countSteps 19 = .ok (.iload 4, 2) := by decide +kernel
theorem d_RW_countSteps_21 : decode b_RW_countSteps 21 = .ok (.invokevirtual 107, 3) := by decide +kernel
theorem d_RW_countSteps_24 : decode b_RW_countSteps 24 = .ok (.invokevirtual 110, 3) := by decide +kernel
theorem d_RW_countSteps_27 : decode b_RW_countSteps 27 = .ok (.ladd, 1) := by decide +kernel
theorem d_RW_countSteps_28 : decode b_RW_countSteps 28 = .ok (.ldc2_w 113, 3) := by decide +kernel
theorem d_RW_countSteps_31 : decode b_RW_countSteps 31 = .ok (.invokestatic 115, 3) := by decide +kernel
theorem d_RW_countSteps_34 : decode b_RW_countSteps 34 = .ok (.lstore_n 2, 1) := by decide +kernel
theorem d_RW_countSteps_35 : decode b_RW_countSteps 35 = .ok (.iinc 4 1, 3) := by decide +kernel
theorem d_RW_countSteps_38 : decode b_RW_countSteps 38 = .ok (.goto (-33), 3) := by decide +kernel
theorem d_RW_countSteps_41 : decode b_RW_countSteps 41 = .ok (.lload_n 2, 1) := by decide +kernel
theorem d_RW_countSteps_42 : decode b_RW_countSteps 42 = .ok (.lreturn, 1) := by decide +kernel
theorem d_RW_keepSteps_0 : decode b_RW_keepSteps 0 = .ok (.iload_n 1, 1) := by decide +kernel
theorem d_RW_keepSteps_1 : decode b_RW_keepSteps 1 = .ok (.aload_n 0, 1) := by decide +kernel
theorem d_RW_keepSteps_2 : decode b_RW_keepSteps 2 = .ok (.getfield 50, 3) := by decide +kernel
theorem d_RW_keepSteps_5 : decode b_RW_keepSteps 5 = .ok (.arraylength, 1) := by decide +kernel
theorem d_RW_keepSteps_6 : decode b_RW_keepSteps 6 = .ok (.if_icmp .lt 17, 3) := by decide +kernel
theorem d_RW_keepSteps_9 : decode b_RW_keepSteps 9 = .ok (.aload_n 0, 1) := by decide +kernel
theorem d_RW_keepSteps_10 : decode b_RW_keepSteps 10 = .ok (.aload_n 0, 1) := by decide +kernel
theorem d_RW_keepSteps_11 : decode b_RW_keepSteps 11 = .ok (.getfield 50, 3) := by decide +kernel
theorem d_RW_keepSteps_14 : decode b_RW_keepSteps 14 = .ok (.iconst 2, 1) := by decide +kernel
theorem d_RW_keepSteps_15 : decode b_RW_keepSteps 15 = .ok (.iload_n 1, 1) := by decide +kernel
theorem d_RW_keepSteps_16 : decode b_RW_keepSteps 16 = .ok (.imul, 1) := by decide +kernel
theorem d_RW_keepSteps_17 : decode b_RW_keepSteps 17 = .ok (.invokestatic 121, 3) := by decide +kernel
theorem d_RW_keepSteps_20 : decode b_RW_keepSteps 20 = .ok (.putfield 50, 3) := by decide +kernel
theorem d_RW_keepSteps_23 : decode b_RW_keepSteps 23 = .ok (.aload_n 0, 1) := by decide +kernel
theorem d_RW_keepSteps_24 : decode b_RW_keepSteps 24 = .ok (.getfield 50, 3) := by decide +kernel
theorem d_RW_keepSteps_27 : decode b_RW_keepSteps 27 = .ok (.iload_n 1, 1) := by decide +kernel
theorem d_RW_keepSteps_28 : decode b_RW_keepSteps 28 = .ok (.lload_n 2, 1) := by decide +kernel
theorem d_RW_keepSteps_29 : decode b_RW_keepSteps 29 = .ok (.lastore, 1) := by decide +kernel
theorem d_RW_keepSteps_30 : decode b_RW_keepSteps 30 = .ok (.return_, 1) := by decide +kernel
theorem d_RW_statementInFull_0 : decode b_RW_statementInFull 0 = .ok (.iload_n 1, 1) := by decide +kernel
theorem d_RW_statementInFull_1 : decode b_RW_statementInFull 1 = .ok (.istore_n 3, 1) := by decide +kernel
theorem d_RW_statementInFull_2 : decode b_RW_statementInFull 2 = .ok (.iload_n 2, 1) := by decide +kernel
theorem d_RW_statementInFull_3 : decode b_RW_statementInFull 3 = .ok (.i2l, 1) := by decide +kernel
theorem d_RW_statementInFull_4 : decode b_RW_statementInFull 4 = .ok (.lstore 4, 2) := by decide +kernel
theorem d_RW_statementInFull_6 : decode b_RW_statementInFull 6 = .ok (.iconst 0, 1) := by decide +kernel
theorem d_RW_statementInFull_7 : decode b_RW_statementInFull 7 = .ok (.istore 6, 2) := by decide +kernel
theorem d_RW_statementInFull_9 : decode b_RW_statementInFull 9 = .ok (.iload 6, 2) := by decide +kernel
theorem d_RW_statementInFull_11 : decode b_RW_statementInFull 11 = .ok (.sipush 4000, 3) := by decide +kernel
theorem d_RW_statementInFull_14 : decode b_RW_statementInFull 14 = .ok (.if_icmp .ge 96, 3) := by decide +kernel
theorem d_RW_statementInFull_17 : decode b_RW_statementInFull 17 = .ok (.aload_n 0, 1) := by decide +kernel
theorem d_RW_statementInFull_18 : decode b_RW_statementInFull 18 = .ok (.iload_n 3, 1) := by decide +kernel
theorem d_RW_statementInFull_19 : decode b_RW_statementInFull 19 = .ok (.invokevirtual 65, 3) := by decide +kernel
theorem d_RW_statementInFull_22 : decode b_RW_statementInFull 22 = .ok (.ifCond .eq 88, 3) := by decide +kernel
theorem d_RW_statementInFull_25 : decode b_RW_statementInFull 25 = .ok (.lload 4, 2) := by decide +kernel
theorem d_RW_statementInFull_27 : decode b_RW_statementInFull 27 = .ok (.aload_n 0, 1) := by decide +kernel
theorem d_RW_statementInFull_28 : decode b_RW_statementInFull 28 = .ok (.iload_n 3, 1) := by decide +kernel
theorem d_RW_statementInFull_29 : decode b_RW_statementInFull 29 = .ok (.invokevirtual 110, 3) := by decide +kernel
theorem d_RW_statementInFull_32 : decode b_RW_statementInFull 32 = .ok (.lconst 1, 1) := by decide +kernel
theorem d_RW_statementInFull_33 : decode b_RW_statementInFull 33 = .ok (.lsub, 1) := by decide +kernel
theorem d_RW_statementInFull_34 : decode b_RW_statementInFull 34 = .ok (.lcmp, 1) := by decide +kernel
theorem d_RW_statementInFull_35 : decode b_RW_statementInFull 35 = .ok (.ifCond .lt 9, 3) := by decide +kernel
theorem d_RW_statementInFull_38 : decode b_RW_statementInFull 38 = .ok (.aload_n 0, 1) := by decide +kernel
theorem d_RW_statementInFull_39 : decode b_RW_statementInFull 39 = .ok (.iload_n 3, 1) := by decide +kernel
theorem d_RW_statementInFull_40 : decode b_RW_statementInFull 40 = .ok (.invokevirtual 90, 3) := by decide +kernel
theorem d_RW_statementInFull_43 : decode b_RW_statementInFull 43 = .ok (.ireturn, 1) := by decide +kernel
theorem d_RW_statementInFull_44 : decode b_RW_statementInFull 44 = .ok (.iconst 0, 1) := by decide +kernel
theorem d_RW_statementInFull_45 : decode b_RW_statementInFull 45 = .ok (.istore 7, 2) := by decide +kernel
theorem d_RW_statementInFull_47 : decode b_RW_statementInFull 47 = .ok (.iload 7, 2) := by decide +kernel
theorem d_RW_statementInFull_49 : decode b_RW_statementInFull 49 = .ok (.aload_n 0, 1) := by decide +kernel
theorem d_RW_statementInFull_50 : decode b_RW_statementInFull 50 = .ok (.iload_n 3, 1) := by decide +kernel
theorem d_RW_statementInFull_51 : decode b_RW_statementInFull 51 = .ok (.invokevirtual 69, 3) := by decide +kernel
theorem d_RW_statementInFull_54 : decode b_RW_statementInFull 54 = .ok (.if_icmp .ge 42, 3) := by decide +kernel
theorem d_RW_statementInFull_57 : decode b_RW_statementInFull 57 = .ok (.lload 4, 2) := by decide +kernel
theorem d_RW_statementInFull_59 : decode b_RW_statementInFull 59 = .ok (.aload_n 0, 1) := by decide +kernel
theorem d_RW_statementInFull_60 : decode b_RW_statementInFull 60 = .ok (.aload_n 0, 1) := by decide +kernel
theorem d_RW_statementInFull_61 : decode b_RW_statementInFull 61 = .ok (.iload_n 3, 1) := by decide +kernel
theorem d_RW_statementInFull_62 : decode b_RW_statementInFull 62 = .ok (.iload 7, 2) := by decide +kernel
theorem d_RW_statementInFull_64 : decode b_RW_statementInFull 64 = .ok (.invokevirtual 107, 3) := by decide +kernel
theorem d_RW_statementInFull_67 : decode b_RW_statementInFull 67 = .ok (.invokevirtual 110, 3) := by decide +kernel
theorem d_RW_statementInFull_70 : decode b_RW_statementInFull 70 = .ok (.lcmp, 1) := by decide +kernel
theorem d_RW_statementInFull_71 : decode b_RW_statementInFull 71 = .ok (.ifCond .lt 25, 3) := by decide +kernel
theorem d_RW_statementInFull_74 : decode b_RW_statementInFull 74 = .ok (.lload 4, 2) := by decide +kernel
theorem d_RW_statementInFull_76 : decode b_RW_statementInFull 76 = .ok (.aload_n 0, 1) := by decide +kernel
theorem d_RW_statementInFull_77 : decode b_RW_statementInFull 77 = .ok (.aload_n 0, 1) := by decide +kernel
theorem d_RW_statementInFull_78 : decode b_RW_statementInFull 78 = .ok (.iload_n 3, 1) := by decide +kernel
theorem d_RW_statementInFull_79 : decode b_RW_statementInFull 79 = .ok (.iload 7, 2) := by decide +kernel
theorem d_RW_statementInFull_81 : decode b_RW_statementInFull 81 = .ok (.invokevirtual 107, 3) := by decide +kernel
theorem d_RW_statementInFull_84 : decode b_RW_statementInFull 84 = .ok (.invokevirtual 110, 3) := by decide +kernel
theorem d_RW_statementInFull_87 : decode b_RW_statementInFull 87 = .ok (.lsub, 1) := by decide +kernel
theorem d_RW_statementInFull_88 : decode b_RW_statementInFull 88 = .ok (.lstore 4, 2) := by decide +kernel
theorem d_RW_statementInFull_90 : decode b_RW_statementInFull 90 = .ok (.iinc 7 1, 3) := by decide +kernel
theorem d_RW_statementInFull_93 : decode b_RW_statementInFull 93 = .ok (.goto (-46), 3) := by decide +kernel
theorem d_RW_statementInFull_96 : decode b_RW_statementInFull 96 = .ok (.aload_n 0, 1) := by decide +kernel
theorem d_RW_statementInFull_97 : decode b_RW_statementInFull 97 = .ok (.iload_n 3, 1) := by decide +kernel
theorem d_RW_statementInFull_98 : decode b_RW_statementInFull 98 = .ok (.iload 7, 2) := by decide +kernel
theorem d_RW_statementInFull_100 : decode b_RW_statementInFull 100 = .ok (.invokevirtual 107, 3) := by decide +kernel
theorem d_RW_statementInFull_103 : decode b_RW_statementInFull 103 = .ok (.istore_n 3, 1) := by decide +kernel
theorem d_RW_statementInFull_104 : decode b_RW_statementInFull 104 = .ok (.iinc 6 1, 3) := by decide +kernel
theorem d_RW_statementInFull_107 : decode b_RW_statementInFull 107 = .ok (.goto (-98), 3) := by decide +kernel
theorem d_RW_statementInFull_110 : decode b_RW_statementInFull 110 = .ok (.iconst (-1), 1) := by decide +kernel
theorem d_RW_statementInFull_111 : decode b_RW_statementInFull 111 = .ok (.ireturn, 1) := by decide +kernel
end
section
abbrev tRW : Type := tIL × tIL × tIL × tIL × tIL × tIL × tIL × (Nat → Int32) × ((Nat → Int64) × Nat)
abbrev gRW_statements (σ : tRW) : tIL := σ.1
abbrev gRW_starts (σ : tRW) : tIL := σ.2.1
abbrev gRW_parts (σ : tRW) : tIL := σ.2.2.1
abbrev gRW_partKinds (σ : tRW) : tIL := σ.2.2.2.1
abbrev gRW_kinds (σ : tRW) : tIL := σ.2.2.2.2.1
abbrev gRW_firstOfKind (σ : tRW) : tIL := σ.2.2.2.2.2.1
abbrev gRW_olderKind (σ : tRW) : tIL := σ.2.2.2.2.2.2.1
abbrev gRW_newestKind (σ : tRW) : Nat → Int32 := σ.2.2.2.2.2.2.2.1
abbrev gRW_steps (σ : tRW) : (Nat → Int64) × Nat := σ.2.2.2.2.2.2.2.2
def uRW_statements (σ : tRW) (v : tIL) : tRW := (v, gRW_starts σ, gRW_parts σ, gRW_partKinds σ, gRW_kinds σ, gRW_firstOfKind σ, gRW_olderKind σ, gRW_newestKind σ, gRW_steps σ)
def uRW_starts (σ : tRW) (v : tIL) : tRW := (gRW_statements σ, v, gRW_parts σ, gRW_partKinds σ, gRW_kinds σ, gRW_firstOfKind σ, gRW_olderKind σ, gRW_newestKind σ, gRW_steps σ)
def uRW_parts (σ : tRW) (v : tIL) : tRW := (gRW_statements σ, gRW_starts σ, v, gRW_partKinds σ, gRW_kinds σ, gRW_firstOfKind σ, gRW_olderKind σ, gRW_newestKind σ, gRW_steps σ)
def uRW_partKinds (σ : tRW) (v : tIL) : tRW := (gRW_statements σ, gRW_starts σ, gRW_parts σ, v, gRW_kinds σ, gRW_firstOfKind σ, gRW_olderKind σ, gRW_newestKind σ, gRW_steps σ)
def uRW_kinds (σ : tRW) (v : tIL) : tRW := (gRW_statements σ, gRW_starts σ, gRW_parts σ, gRW_partKinds σ, v, gRW_firstOfKind σ, gRW_olderKind σ, gRW_newestKind σ, gRW_steps σ)
def uRW_firstOfKind (σ : tRW) (v : tIL) : tRW := (gRW_statements σ, gRW_starts σ, gRW_parts σ, gRW_partKinds σ, gRW_kinds σ, v, gRW_olderKind σ, gRW_newestKind σ, gRW_steps σ)
def uRW_olderKind (σ : tRW) (v : tIL) : tRW := (gRW_statements σ, gRW_starts σ, gRW_parts σ, gRW_partKinds σ, gRW_kinds σ, gRW_firstOfKind σ, v, gRW_newestKind σ, gRW_steps σ)
def uRW_newestKind (σ : tRW) (v : Nat → Int32) : tRW := (gRW_statements σ, gRW_starts σ, gRW_parts σ, gRW_partKinds σ, gRW_kinds σ, gRW_firstOfKind σ, gRW_olderKind σ, v, gRW_steps σ)
def uRW_steps (σ : tRW) (v : (Nat → Int64) × Nat) : tRW := (gRW_statements σ, gRW_starts σ, gRW_parts σ, gRW_partKinds σ, gRW_kinds σ, gRW_firstOfKind σ, gRW_olderKind σ, gRW_newestKind σ, v)
def pRW (G : pG) (h0 : Nat) (ad : Nat → Nat) (σ : tRW) (w : va_W) : Prop := ∃ (q7 q8 : Nat) (w0 w1 w2 w3 w4 w5 w6 : va_W), w = [[(h0, .inr (2, [.ref (ad 0), .ref (ad 1), .ref (ad 2), .ref (ad 3), .ref (ad 4), .ref (ad 5), .ref (ad 6), .ref q7, .ref q8]))], [(q7, .inl (G.2.1, 512, .inl (gRW_newestKind σ)))], [(q8, .inl (G.2.2.1, (gRW_steps σ).2, .inr (.inl (gRW_steps σ).1)))], w0, w1, w2, w3, w4, w5, w6].flatten ∧ pIL G (ad 0) (gRW_statements σ) w0 ∧ pIL G (ad 1) (gRW_starts σ) w1 ∧ pIL G (ad 2) (gRW_parts σ) w2 ∧ pIL G (ad 3) (gRW_partKinds σ) w3 ∧ pIL G (ad 4) (gRW_kinds σ) w4 ∧ pIL G (ad 5) (gRW_firstOfKind σ) w5 ∧ pIL G (ad 6) (gRW_olderKind σ) w6 ∧ (1 ≤ (gRW_steps σ).2 ∧ (gRW_steps σ).2 ≤ 16777216)
theorem pRW_recv {G : pG} {s : State} {H : Heap} {h0 : Nat} {ad : Nat → Nat} {σ : tRW} {w : va_W} (hK : va_K G.1 vwCl (tyG G) s) (hP : va_P G.1 vwCl w H) (h : pRW G h0 ad σ w) : ∃ cell : Cell, H[h0]? = some cell ∧ cell.vm.isStatics = false ∧ s.vm.findClass RRW = some cell.cls := by
  obtain ⟨q7, q8, w0, w1, w2, w3, w4, w5, w6, rfl, -, -, -, -, -, -, -, -⟩ := h
  exact va_recv (q0 := 0) (ci := 2) hK hP rfl rfl

def A_RW_forget (σ : tRW) : tRW := uRW_newestKind (uRW_olderKind (uRW_firstOfKind (uRW_kinds (uRW_partKinds (uRW_parts (uRW_starts (uRW_statements σ (A_IL_cut (gRW_statements σ) 0)) (A_IL_cut (gRW_starts σ) 1)) (A_IL_cut (gRW_parts σ) 0)) (A_IL_cut (gRW_partKinds σ) 0)) (A_IL_cut (gRW_kinds σ) 0)) (A_IL_cut (gRW_firstOfKind σ) 0)) (A_IL_cut (gRW_olderKind σ) 0)) (fun _ => (-1))
set_option maxHeartbeats 4000000 in
set_option maxRecDepth 100000 in
theorem c_RW_forget (l : Launch) (G : pG) (h0 : Nat) (ad : Nat → Nat) (σ : tRW) (H : Heap) (w : va_W) (hP0 : va_P G.1 vwCl w H) (hD0 : va_D (fun _ => True) w) (hσ : pRW G h0 ad σ w) (res : tRW) (hr0 : A_RW_forget σ = res) : MWv l y_RW_forget w_RW_forget 1 23 0 G [.ref h0] H w (pRW G h0 ad res) := by
  refine Met.ofW (cc := b_RW_forget) (maxL := 1) (ret := none) (by decide) rfl ?_
  intro p e s m args below meth c s₁ B hml hv
  obtain ⟨rfl, rfl, hK⟩ := hv
  have hx := B.exec
  have hb := B.bytes
  have hr := B.returns
  have hts0 := atoms_spec (ws := w_RW_forget) B.pre
  have hts := fun w (h : w ∈ lw_g) => hts0 w (List.mem_cons_of_mem _ h)
  have hown : s.vm.findClass RRW = some m.cls := findClass_of_methodNamed B.named
  have hlocks := B.notSynchronized
  have hA : ∀ q : Nat, s.heap.size ≤ q → va_A w s.heap.size q := fun _ h => Or.inr h
  have hB : bk G.1 vwCl (va_A w s.heap.size) [w] s.heap := bk_init hP0 hD0
  generalize va_A w s.heap.size = A at *
  have hS : va_S A s.heap s.heap [] := va_S.rf
  obtain ⟨q15, q16, w1, w3, w5, w7, w9, w11, w13, rfl, h2, h4, h6, h8, h10, h12, h14, h17⟩ := hσ
  have hB := bk_many hB
  have hk : 0 + 0 = 0 := rfl
  have hl := lv_entry ([.ref h0]) (n := 1) (Nat.le_of_ble_eq_true rfl)
  rw [lg_entry_eq]
  generalize (lg_sl ([.ref h0]) ++ List.replicate (1 - (lg_sl ([.ref h0])).length) Slot.unset).toArray = ls at hl ⊢
  have hl : lv_has ls 1 [(0, .ref h0)] := hl
  unfold A_RW_forget at hr0
  refine lv_aload_n hx hb d_RW_forget_0 rfl (lv_at hl 0 rfl) ?_
  refine va_get (D := G.1) (ci := 2) (v := .ref (ad 0)) (C := RRW) (T := TRW) (N := 9) hx hb hts inRW hown hK hB.1 0 rfl rfl 0 (by decide) (hts _ fl_RW_12) (fun _ h9 => h9) rfl d_RW_forget_1 ?_
  refine lv_iconst (v := 0) hx hb d_RW_forget_4 (by decide) ?_
  refine wrV0 (G := G) (k := 3) (As := [.int 0]) (rest := []) (C := RIL) ⟨hx, hb, hml, hown, hts⟩ (c_IL_cut l G (ad 0) (gRW_statements σ) 0 _ _ (bk_gP (k := 3) hB.1 rfl) (bk_own (k := 3) hB rfl) h2 _ rfl) (cwV 1 hts (gd_V ml_RW_54 im_IL_cut sl_IL_cut ini_IL k_IL_cut) rfl rmK_c rmK_s (by decide +kernel) ⟨Nat.le_of_ble_eq_true rfl, Nat.le_of_ble_eq_true rfl⟩) hK (pIL_recv hK (bk_gP (k := 3) hB.1 rfl) h2) hS hA hB rfl hk ⟨rfl, rfl⟩ rfl hl.1 (Nat.le_of_ble_eq_true rfl) d_RW_forget_5 (fun u18 H locs hu19 hB hS => ?_)
  have hB : bk G.1 vwCl A [[(h0, .inr (2, [.ref (ad 0), .ref (ad 1), .ref (ad 2), .ref (ad 3), .ref (ad 4), .ref (ad 5), .ref (ad 6), .ref q15, .ref q16]))], [(q15, .inl (G.2.1, 512, .inl (gRW_newestKind σ)))], [(q16, .inl (G.2.2.1, (gRW_steps σ).2, .inr (.inl (gRW_steps σ).1)))], u18, w3, w5, w7, w9, w11, w13] H := hB
  refine lv_aload_n hx hb d_RW_forget_8 rfl (lv_at hl 0 rfl) ?_
  refine va_get (D := G.1) (ci := 2) (v := .ref (ad 1)) (C := RRW) (T := TRW) (N := 9) hx hb hts inRW hown hK hB.1 0 rfl rfl 1 (by decide) (hts _ fl_RW_18) (fun _ h9 => h9) rfl d_RW_forget_9 ?_
  refine lv_iconst (v := 1) hx hb d_RW_forget_12 (by decide) ?_
  refine wrV0 (G := G) (k := 4) (As := [.int 1]) (rest := []) (C := RIL) ⟨hx, hb, hml, hown, hts⟩ (c_IL_cut l G (ad 1) (gRW_starts σ) 1 _ _ (bk_gP (k := 4) hB.1 rfl) (bk_own (k := 4) hB rfl) h4 _ rfl) (cwV 1 hts (gd_V ml_RW_54 im_IL_cut sl_IL_cut ini_IL k_IL_cut) rfl rmK_c rmK_s (by decide +kernel) ⟨Nat.le_of_ble_eq_true rfl, Nat.le_of_ble_eq_true rfl⟩) hK (pIL_recv hK (bk_gP (k := 4) hB.1 rfl) h4) hS hA hB rfl hk ⟨rfl, rfl⟩ rfl hl.1 (Nat.le_of_ble_eq_true rfl) d_RW_forget_13 (fun u20 H locs hu21 hB hS => ?_)
  have hB : bk G.1 vwCl A [[(h0, .inr (2, [.ref (ad 0), .ref (ad 1), .ref (ad 2), .ref (ad 3), .ref (ad 4), .ref (ad 5), .ref (ad 6), .ref q15, .ref q16]))], [(q15, .inl (G.2.1, 512, .inl (gRW_newestKind σ)))], [(q16, .inl (G.2.2.1, (gRW_steps σ).2, .inr (.inl (gRW_steps σ).1)))], u18, u20, w5, w7, w9, w11, w13] H := hB
  refine lv_aload_n hx hb d_RW_forget_16 rfl (lv_at hl 0 rfl) ?_
  refine va_get (D := G.1) (ci := 2) (v := .ref (ad 2)) (C := RRW) (T := TRW) (N := 9) hx hb hts inRW hown hK hB.1 0 rfl rfl 2 (by decide) (hts _ fl_RW_25) (fun _ h9 => h9) rfl d_RW_forget_17 ?_
  refine lv_iconst (v := 0) hx hb d_RW_forget_20 (by decide) ?_
  refine wrV0 (G := G) (k := 5) (As := [.int 0]) (rest := []) (C := RIL) ⟨hx, hb, hml, hown, hts⟩ (c_IL_cut l G (ad 2) (gRW_parts σ) 0 _ _ (bk_gP (k := 5) hB.1 rfl) (bk_own (k := 5) hB rfl) h6 _ rfl) (cwV 1 hts (gd_V ml_RW_54 im_IL_cut sl_IL_cut ini_IL k_IL_cut) rfl rmK_c rmK_s (by decide +kernel) ⟨Nat.le_of_ble_eq_true rfl, Nat.le_of_ble_eq_true rfl⟩) hK (pIL_recv hK (bk_gP (k := 5) hB.1 rfl) h6) hS hA hB rfl hk ⟨rfl, rfl⟩ rfl hl.1 (Nat.le_of_ble_eq_true rfl) d_RW_forget_21 (fun u22 H locs hu23 hB hS => ?_)
  have hB : bk G.1 vwCl A [[(h0, .inr (2, [.ref (ad 0), .ref (ad 1), .ref (ad 2), .ref (ad 3), .ref (ad 4), .ref (ad 5), .ref (ad 6), .ref q15, .ref q16]))], [(q15, .inl (G.2.1, 512, .inl (gRW_newestKind σ)))], [(q16, .inl (G.2.2.1, (gRW_steps σ).2, .inr (.inl (gRW_steps σ).1)))], u18, u20, u22, w7, w9, w11, w13] H := hB
  refine lv_aload_n hx hb d_RW_forget_24 rfl (lv_at hl 0 rfl) ?_
  refine va_get (D := G.1) (ci := 2) (v := .ref (ad 3)) (C := RRW) (T := TRW) (N := 9) hx hb hts inRW hown hK hB.1 0 rfl rfl 3 (by decide) (hts _ fl_RW_28) (fun _ h9 => h9) rfl d_RW_forget_25 ?_
  refine lv_iconst (v := 0) hx hb d_RW_forget_28 (by decide) ?_
  refine wrV0 (G := G) (k := 6) (As := [.int 0]) (rest := []) (C := RIL) ⟨hx, hb, hml, hown, hts⟩ (c_IL_cut l G (ad 3) (gRW_partKinds σ) 0 _ _ (bk_gP (k := 6) hB.1 rfl) (bk_own (k := 6) hB rfl) h8 _ rfl) (cwV 1 hts (gd_V ml_RW_54 im_IL_cut sl_IL_cut ini_IL k_IL_cut) rfl rmK_c rmK_s (by decide +kernel) ⟨Nat.le_of_ble_eq_true rfl, Nat.le_of_ble_eq_true rfl⟩) hK (pIL_recv hK (bk_gP (k := 6) hB.1 rfl) h8) hS hA hB rfl hk ⟨rfl, rfl⟩ rfl hl.1 (Nat.le_of_ble_eq_true rfl) d_RW_forget_29 (fun u24 H locs hu25 hB hS => ?_)
  have hB : bk G.1 vwCl A [[(h0, .inr (2, [.ref (ad 0), .ref (ad 1), .ref (ad 2), .ref (ad 3), .ref (ad 4), .ref (ad 5), .ref (ad 6), .ref q15, .ref q16]))], [(q15, .inl (G.2.1, 512, .inl (gRW_newestKind σ)))], [(q16, .inl (G.2.2.1, (gRW_steps σ).2, .inr (.inl (gRW_steps σ).1)))], u18, u20, u22, u24, w9, w11, w13] H := hB
  refine lv_aload_n hx hb d_RW_forget_32 rfl (lv_at hl 0 rfl) ?_
  refine va_get (D := G.1) (ci := 2) (v := .ref (ad 4)) (C := RRW) (T := TRW) (N := 9) hx hb hts inRW hown hK hB.1 0 rfl rfl 4 (by decide) (hts _ fl_RW_31) (fun _ h9 => h9) rfl d_RW_forget_33 ?_
  refine lv_iconst (v := 0) hx hb d_RW_forget_36 (by decide) ?_
  refine wrV0 (G := G) (k := 7) (As := [.int 0]) (rest := []) (C := RIL) ⟨hx, hb, hml, hown, hts⟩ (c_IL_cut l G (ad 4) (gRW_kinds σ) 0 _ _ (bk_gP (k := 7) hB.1 rfl) (bk_own (k := 7) hB rfl) h10 _ rfl) (cwV 1 hts (gd_V ml_RW_54 im_IL_cut sl_IL_cut ini_IL k_IL_cut) rfl rmK_c rmK_s (by decide +kernel) ⟨Nat.le_of_ble_eq_true rfl, Nat.le_of_ble_eq_true rfl⟩) hK (pIL_recv hK (bk_gP (k := 7) hB.1 rfl) h10) hS hA hB rfl hk ⟨rfl, rfl⟩ rfl hl.1 (Nat.le_of_ble_eq_true rfl) d_RW_forget_37 (fun u26 H locs hu27 hB hS => ?_)
  have hB : bk G.1 vwCl A [[(h0, .inr (2, [.ref (ad 0), .ref (ad 1), .ref (ad 2), .ref (ad 3), .ref (ad 4), .ref (ad 5), .ref (ad 6), .ref q15, .ref q16]))], [(q15, .inl (G.2.1, 512, .inl (gRW_newestKind σ)))], [(q16, .inl (G.2.2.1, (gRW_steps σ).2, .inr (.inl (gRW_steps σ).1)))], u18, u20, u22, u24, u26, w11, w13] H := hB
  refine lv_aload_n hx hb d_RW_forget_40 rfl (lv_at hl 0 rfl) ?_
  refine va_get (D := G.1) (ci := 2) (v := .ref (ad 5)) (C := RRW) (T := TRW) (N := 9) hx hb hts inRW hown hK hB.1 0 rfl rfl 5 (by decide) (hts _ fl_RW_34) (fun _ h9 => h9) rfl d_RW_forget_41 ?_
  refine lv_iconst (v := 0) hx hb d_RW_forget_44 (by decide) ?_
  refine wrV0 (G := G) (k := 8) (As := [.int 0]) (rest := []) (C := RIL) ⟨hx, hb, hml, hown, hts⟩ (c_IL_cut l G (ad 5) (gRW_firstOfKind σ) 0 _ _ (bk_gP (k := 8) hB.1 rfl) (bk_own (k := 8) hB rfl) h12 _ rfl) (cwV 1 hts (gd_V ml_RW_54 im_IL_cut sl_IL_cut ini_IL k_IL_cut) rfl rmK_c rmK_s (by decide +kernel) ⟨Nat.le_of_ble_eq_true rfl, Nat.le_of_ble_eq_true rfl⟩) hK (pIL_recv hK (bk_gP (k := 8) hB.1 rfl) h12) hS hA hB rfl hk ⟨rfl, rfl⟩ rfl hl.1 (Nat.le_of_ble_eq_true rfl) d_RW_forget_45 (fun u28 H locs hu29 hB hS => ?_)
  have hB : bk G.1 vwCl A [[(h0, .inr (2, [.ref (ad 0), .ref (ad 1), .ref (ad 2), .ref (ad 3), .ref (ad 4), .ref (ad 5), .ref (ad 6), .ref q15, .ref q16]))], [(q15, .inl (G.2.1, 512, .inl (gRW_newestKind σ)))], [(q16, .inl (G.2.2.1, (gRW_steps σ).2, .inr (.inl (gRW_steps σ).1)))], u18, u20, u22, u24, u26, u28, w13] H := hB
  refine lv_aload_n hx hb d_RW_forget_48 rfl (lv_at hl 0 rfl) ?_
  refine va_get (D := G.1) (ci := 2) (v := .ref (ad 6)) (C := RRW) (T := TRW) (N := 9) hx hb hts inRW hown hK hB.1 0 rfl rfl 6 (by decide) (hts _ fl_RW_37) (fun _ h9 => h9) rfl d_RW_forget_49 ?_
  refine lv_iconst (v := 0) hx hb d_RW_forget_52 (by decide) ?_
  refine wrV0 (G := G) (k := 9) (As := [.int 0]) (rest := []) (C := RIL) ⟨hx, hb, hml, hown, hts⟩ (c_IL_cut l G (ad 6) (gRW_olderKind σ) 0 _ _ (bk_gP (k := 9) hB.1 rfl) (bk_own (k := 9) hB rfl) h14 _ rfl) (cwV 1 hts (gd_V ml_RW_54 im_IL_cut sl_IL_cut ini_IL k_IL_cut) rfl rmK_c rmK_s (by decide +kernel) ⟨Nat.le_of_ble_eq_true rfl, Nat.le_of_ble_eq_true rfl⟩) hK (pIL_recv hK (bk_gP (k := 9) hB.1 rfl) h14) hS hA hB rfl hk ⟨rfl, rfl⟩ rfl hl.1 (Nat.le_of_ble_eq_true rfl) d_RW_forget_53 (fun u30 H locs hu31 hB hS => ?_)
  have hB : bk G.1 vwCl A [[(h0, .inr (2, [.ref (ad 0), .ref (ad 1), .ref (ad 2), .ref (ad 3), .ref (ad 4), .ref (ad 5), .ref (ad 6), .ref q15, .ref q16]))], [(q15, .inl (G.2.1, 512, .inl (gRW_newestKind σ)))], [(q16, .inl (G.2.2.1, (gRW_steps σ).2, .inr (.inl (gRW_steps σ).1)))], u18, u20, u22, u24, u26, u28, u30] H := hB
  refine lv_aload_n hx hb d_RW_forget_56 rfl (lv_at hl 0 rfl) ?_
  refine va_get (D := G.1) (ci := 2) (v := .ref q15) (C := RRW) (T := TRW) (N := 9) hx hb hts inRW hown hK hB.1 0 rfl rfl 7 (by decide) (hts _ fl_RW_40) (fun _ h9 => h9) rfl d_RW_forget_57 ?_
  refine lv_iconst (v := (-1)) hx hb d_RW_forget_60 (by decide) ?_
  refine wrS0 (G := G) (k := 1) (As := [.ref q15, .int (-1)]) (rest := []) ⟨hx, hb, hml, hown, hts⟩ (c_AR_fill l G q15 512 (gRW_newestKind σ) (-1) _ _ (bk_gP (k := 1) hB.1 rfl) (bk_own (k := 1) hB rfl) rfl (by decide)) (va_cwS 2 hts (gd_S ml_RW_44 sm_AR_fill ini_AR k_AR_fill) rfl rfl rfl (by decide +kernel) ⟨Nat.le_of_ble_eq_true rfl, Nat.le_of_ble_eq_true rfl⟩) hK hS hA hB rfl hk ⟨rfl, rfl⟩ rfl hl.1 (Nat.le_of_ble_eq_true rfl) d_RW_forget_61 (fun u32 H locs hu33 hB hS => ?_)
  subst hu33
  have hB : bk G.1 vwCl A [[(h0, .inr (2, [.ref (ad 0), .ref (ad 1), .ref (ad 2), .ref (ad 3), .ref (ad 4), .ref (ad 5), .ref (ad 6), .ref q15, .ref q16]))], [(q15, .inl (G.2.1, 512, .inl (fun _ => (-1))))], [(q16, .inl (G.2.2.1, (gRW_steps σ).2, .inr (.inl (gRW_steps σ).1)))], u18, u20, u22, u24, u26, u28, u30] H := hB
  subst hr0
  refine W.widen (k := 0) (n := 0) (Nat.le_refl _) (Nat.le_refl _) ?_
  exact W.vret hx hb hr (fun t ht hW => ⟨⟨[[(h0, .inr (2, [.ref (ad 0), .ref (ad 1), .ref (ad 2), .ref (ad 3), .ref (ad 4), .ref (ad 5), .ref (ad 6), .ref q15, .ref q16]))], [(q15, .inl (G.2.1, 512, .inl (fun _ => (-1))))], [(q16, .inl (G.2.2.1, (gRW_steps σ).2, .inr (.inl (gRW_steps σ).1)))], u18, u20, u22, u24, u26, u28, u30].flatten, rfl, ⟨q15, q16, u18, u20, u22, u24, u26, u28, u30, rfl, hu19, hu21, hu23, hu25, hu27, hu29, hu31, h17⟩, by rw [ht]; exact hB.1, hB.2⟩, hS.F ht⟩) hS.2.2 d_RW_forget_64

def A_RW_amount (σ : tRW) : Int32 := A_IL_length (gRW_statements σ)
set_option maxHeartbeats 4000000 in
set_option maxRecDepth 100000 in
theorem c_RW_amount (l : Launch) (G : pG) (h0 : Nat) (ad : Nat → Nat) (σ : tRW) (H : Heap) (w : va_W) (hP0 : va_P G.1 vwCl w H) (hσ : pRW G h0 ad σ w) (res : Int32) (hr0 : A_RW_amount σ = res) : MRi l y_RW_amount w_RW_amount 1 20 G [.ref h0] H res := by
  refine Met.ofW (cc := b_RW_amount) (maxL := 1) (ret := (some .int)) (by decide) rfl ?_
  intro p e s m args below meth c s₁ B hml hv
  obtain ⟨rfl, rfl, hK⟩ := hv
  have hx := B.exec
  have hb := B.bytes
  have hr := B.returns
  have hts0 := atoms_spec (ws := w_RW_amount) B.pre
  have hts := fun w (h : w ∈ lw_g) => hts0 w (List.mem_cons_of_mem _ h)
  have hown : s.vm.findClass RRW = some m.cls := findClass_of_methodNamed B.named
  have hlocks := B.notSynchronized
  have hσ0 := hσ
  obtain ⟨q15, q16, w1, w3, w5, w7, w9, w11, w13, rfl, h2, h4, h6, h8, h10, h12, h14, h17⟩ := hσ
  have hP := hP0
  obtain ⟨A, hAe⟩ : ∃ A : Nat → Prop, A = fun _ => False := ⟨_, rfl⟩
  rw [← hAe]
  have hS : va_S A s.heap s.heap [] := va_S.rf
  have hl := lv_entry ([.ref h0]) (n := 1) (Nat.le_of_ble_eq_true rfl)
  rw [lg_entry_eq]
  generalize (lg_sl ([.ref h0]) ++ List.replicate (1 - (lg_sl ([.ref h0])).length) Slot.unset).toArray = ls at hl ⊢
  have hl : lv_has ls 1 [(0, .ref h0)] := hl
  unfold A_RW_amount at hr0
  refine lv_aload_n hx hb d_RW_amount_0 rfl (lv_at hl 0 rfl) ?_
  refine va_get (D := G.1) (ci := 2) (v := .ref (ad 0)) (C := RRW) (T := TRW) (N := 9) hx hb hts inRW hown hK hP 0 rfl rfl 0 (by decide) (hts _ fl_RW_12) (fun _ h9 => h9) rfl d_RW_amount_1 ?_
  refine rdV (G := G) (As := []) (rest := []) (C := RIL) ⟨hx, hb, hml, hown, hts⟩ (c_IL_length l G (ad 0) (gRW_statements σ) _ _ (bk_gP (k := 3) hP rfl) h2 _ rfl) (cwV 0 hts (gd_V ml_RW_57 im_IL_length sl_IL_length ini_IL k_IL_length) rfl rmK_c rmK_s (by decide +kernel) ⟨Nat.le_of_ble_eq_true rfl, Nat.le_of_ble_eq_true rfl⟩) hK (pIL_recv hK (bk_gP (k := 3) hP rfl) h2) hS ⟨Nat.le_refl _, Nat.le_refl _⟩ rfl hl.1 (Nat.le_of_ble_eq_true rfl) d_RW_amount_4 (fun locs hS => ?_)
  exact W.iret (v := (A_IL_length (gRW_statements σ))) hx hb hr (fun t ht hW => ⟨⟨(A_IL_length (gRW_statements σ)), (), rfl, hr0, ht⟩, hS.F ht⟩) hS.2.2 d_RW_amount_7

def A_RW_amountOfKinds (σ : tRW) : Int32 := A_IL_length (gRW_firstOfKind σ)
set_option maxHeartbeats 4000000 in
set_option maxRecDepth 100000 in
theorem c_RW_amountOfKinds (l : Launch) (G : pG) (h0 : Nat) (ad : Nat → Nat) (σ : tRW) (H : Heap) (w : va_W) (hP0 : va_P G.1 vwCl w H) (hσ : pRW G h0 ad σ w) (res : Int32) (hr0 : A_RW_amountOfKinds σ = res) : MRi l y_RW_amountOfKinds w_RW_amountOfKinds 1 20 G [.ref h0] H res := by
  refine Met.ofW (cc := b_RW_amountOfKinds) (maxL := 1) (ret := (some .int)) (by decide) rfl ?_
  intro p e s m args below meth c s₁ B hml hv
  obtain ⟨rfl, rfl, hK⟩ := hv
  have hx := B.exec
  have hb := B.bytes
  have hr := B.returns
  have hts0 := atoms_spec (ws := w_RW_amountOfKinds) B.pre
  have hts := fun w (h : w ∈ lw_g) => hts0 w (List.mem_cons_of_mem _ h)
  have hown : s.vm.findClass RRW = some m.cls := findClass_of_methodNamed B.named
  have hlocks := B.notSynchronized
  have hσ0 := hσ
  obtain ⟨q15, q16, w1, w3, w5, w7, w9, w11, w13, rfl, h2, h4, h6, h8, h10, h12, h14, h17⟩ := hσ
  have hP := hP0
  obtain ⟨A, hAe⟩ : ∃ A : Nat → Prop, A = fun _ => False := ⟨_, rfl⟩
  rw [← hAe]
  have hS : va_S A s.heap s.heap [] := va_S.rf
  have hl := lv_entry ([.ref h0]) (n := 1) (Nat.le_of_ble_eq_true rfl)
  rw [lg_entry_eq]
  generalize (lg_sl ([.ref h0]) ++ List.replicate (1 - (lg_sl ([.ref h0])).length) Slot.unset).toArray = ls at hl ⊢
  have hl : lv_has ls 1 [(0, .ref h0)] := hl
  unfold A_RW_amountOfKinds at hr0
  refine lv_aload_n hx hb d_RW_amountOfKinds_0 rfl (lv_at hl 0 rfl) ?_
  refine va_get (D := G.1) (ci := 2) (v := .ref (ad 5)) (C := RRW) (T := TRW) (N := 9) hx hb hts inRW hown hK hP 0 rfl rfl 5 (by decide) (hts _ fl_RW_34) (fun _ h9 => h9) rfl d_RW_amountOfKinds_1 ?_
  refine rdV (G := G) (As := []) (rest := []) (C := RIL) ⟨hx, hb, hml, hown, hts⟩ (c_IL_length l G (ad 5) (gRW_firstOfKind σ) _ _ (bk_gP (k := 8) hP rfl) h12 _ rfl) (cwV 0 hts (gd_V ml_RW_57 im_IL_length sl_IL_length ini_IL k_IL_length) rfl rmK_c rmK_s (by decide +kernel) ⟨Nat.le_of_ble_eq_true rfl, Nat.le_of_ble_eq_true rfl⟩) hK (pIL_recv hK (bk_gP (k := 8) hP rfl) h12) hS ⟨Nat.le_refl _, Nat.le_refl _⟩ rfl hl.1 (Nat.le_of_ble_eq_true rfl) d_RW_amountOfKinds_4 (fun locs hS => ?_)
  exact W.iret (v := (A_IL_length (gRW_firstOfKind σ))) hx hb hr (fun t ht hW => ⟨⟨(A_IL_length (gRW_firstOfKind σ)), (), rfl, hr0, ht⟩, hS.F ht⟩) hS.2.2 d_RW_amountOfKinds_7

def A_RW_has (σ : tRW) (r : Int32) : Int32 := if r < 0 then 0 else (if (A_IL_length (gRW_statements σ)) ≤ r then 0 else 1)
set_option maxHeartbeats 4000000 in
set_option maxRecDepth 100000 in
theorem c_RW_has (l : Launch) (G : pG) (h0 : Nat) (ad : Nat → Nat) (σ : tRW) (r : Int32) (H : Heap) (w : va_W) (hP0 : va_P G.1 vwCl w H) (hσ : pRW G h0 ad σ w) (res : Int32) (hr0 : A_RW_has σ r = res) : MRi l y_RW_has w_RW_has 1 20 G [.ref h0, .int r] H res := by
  refine Met.ofW (cc := b_RW_has) (maxL := 2) (ret := (some .boolean)) (by decide) rfl ?_
  intro p e s m args below meth c s₁ B hml hv
  obtain ⟨rfl, rfl, hK⟩ := hv
  have hx := B.exec
  have hb := B.bytes
  have hr := B.returns
  have hts0 := atoms_spec (ws := w_RW_has) B.pre
  have hts := fun w (h : w ∈ lw_g) => hts0 w (List.mem_cons_of_mem _ h)
  have hown : s.vm.findClass RRW = some m.cls := findClass_of_methodNamed B.named
  have hlocks := B.notSynchronized
  have hσ0 := hσ
  obtain ⟨q15, q16, w1, w3, w5, w7, w9, w11, w13, rfl, h2, h4, h6, h8, h10, h12, h14, h17⟩ := hσ
  have hP := hP0
  obtain ⟨A, hAe⟩ : ∃ A : Nat → Prop, A = fun _ => False := ⟨_, rfl⟩
  rw [← hAe]
  have hS : va_S A s.heap s.heap [] := va_S.rf
  have hl := lv_entry ([.ref h0, .int r]) (n := 2) (Nat.le_of_ble_eq_true rfl)
  rw [lg_entry_eq]
  generalize (lg_sl ([.ref h0, .int r]) ++ List.replicate (2 - (lg_sl ([.ref h0, .int r])).length) Slot.unset).toArray = ls at hl ⊢
  have hl : lv_has ls 2 [(0, .ref h0), (1, .int r)] := hl
  unfold A_RW_has at hr0
  refine lv_iload_n hx hb d_RW_has_0 rfl (lv_at hl 1 rfl) ?_
  refine lv_if_lt (tgt := 19) hx hb d_RW_has_1 (by decide) (fun c18 => ?_) (fun c18 => ?_)
  · have hr0 := ai_pos c18 hr0
    refine lv_iconst (v := 0) hx hb d_RW_has_19 (by decide) ?_
    exact W.zret (v := 0) hx hb hr (by decide) (fun t ht hW => ⟨⟨0, (), rfl, hr0, ht⟩, hS.F ht⟩) hS.2.2 d_RW_has_20
  · have hr0 := ai_neg c18 hr0
    refine lv_iload_n hx hb d_RW_has_4 rfl (lv_at hl 1 rfl) ?_
    refine lv_aload_n hx hb d_RW_has_5 rfl (lv_at hl 0 rfl) ?_
    refine va_get (D := G.1) (ci := 2) (v := .ref (ad 0)) (C := RRW) (T := TRW) (N := 9) hx hb hts inRW hown hK hP 0 rfl rfl 0 (by decide) (hts _ fl_RW_12) (fun _ h9 => h9) rfl d_RW_has_6 ?_
    refine rdV (G := G) (As := []) (rest := [.int r]) (C := RIL) ⟨hx, hb, hml, hown, hts⟩ (c_IL_length l G (ad 0) (gRW_statements σ) _ _ (bk_gP (k := 3) hP rfl) h2 _ rfl) (cwV 0 hts (gd_V ml_RW_57 im_IL_length sl_IL_length ini_IL k_IL_length) rfl rmK_c rmK_s (by decide +kernel) ⟨Nat.le_of_ble_eq_true rfl, Nat.le_of_ble_eq_true rfl⟩) hK (pIL_recv hK (bk_gP (k := 3) hP rfl) h2) hS ⟨Nat.le_refl _, Nat.le_refl _⟩ rfl hl.1 (Nat.le_of_ble_eq_true rfl) d_RW_has_9 (fun locs hS => ?_)
    refine lv_icmp_ge (tgt := 19) hx hb d_RW_has_12 (by decide) (fun c19 => ?_) (fun c19 => ?_)
    · have hr0 := ai_pos c19 hr0
      refine lv_iconst (v := 0) hx hb d_RW_has_19 (by decide) ?_
      exact W.zret (v := 0) hx hb hr (by decide) (fun t ht hW => ⟨⟨0, (), rfl, hr0, ht⟩, hS.F ht⟩) hS.2.2 d_RW_has_20
    · have hr0 := ai_neg c19 hr0
      refine lv_iconst (v := 1) hx hb d_RW_has_15 (by decide) ?_
      refine lv_goto (tgt := 20) hx hb d_RW_has_16 (by decide) ?_
      exact W.zret (v := 1) hx hb hr (by decide) (fun t ht hW => ⟨⟨1, (), rfl, hr0, ht⟩, hS.F ht⟩) hS.2.2 d_RW_has_20

def A_RW_statementOf (σ : tRW) (r : Int32) : Int32 := A_IL_at (gRW_statements σ) r
set_option maxHeartbeats 4000000 in
set_option maxRecDepth 100000 in
theorem c_RW_statementOf (l : Launch) (G : pG) (h0 : Nat) (ad : Nat → Nat) (σ : tRW) (r : Int32) (H : Heap) (w : va_W) (hP0 : va_P G.1 vwCl w H) (hσ : pRW G h0 ad σ w) (res : Int32) (hr0 : A_RW_statementOf σ r = res) : MRi l y_RW_statementOf w_RW_statementOf 1 21 G [.ref h0, .int r] H res := by
  refine Met.ofW (cc := b_RW_statementOf) (maxL := 2) (ret := (some .int)) (by decide) rfl ?_
  intro p e s m args below meth c s₁ B hml hv
  obtain ⟨rfl, rfl, hK⟩ := hv
  have hx := B.exec
  have hb := B.bytes
  have hr := B.returns
  have hts0 := atoms_spec (ws := w_RW_statementOf) B.pre
  have hts := fun w (h : w ∈ lw_g) => hts0 w (List.mem_cons_of_mem _ h)
  have hown : s.vm.findClass RRW = some m.cls := findClass_of_methodNamed B.named
  have hlocks := B.notSynchronized
  have hσ0 := hσ
  obtain ⟨q15, q16, w1, w3, w5, w7, w9, w11, w13, rfl, h2, h4, h6, h8, h10, h12, h14, h17⟩ := hσ
  have hP := hP0
  obtain ⟨A, hAe⟩ : ∃ A : Nat → Prop, A = fun _ => False := ⟨_, rfl⟩
  rw [← hAe]
  have hS : va_S A s.heap s.heap [] := va_S.rf
  have hl := lv_entry ([.ref h0, .int r]) (n := 2) (Nat.le_of_ble_eq_true rfl)
  rw [lg_entry_eq]
  generalize (lg_sl ([.ref h0, .int r]) ++ List.replicate (2 - (lg_sl ([.ref h0, .int r])).length) Slot.unset).toArray = ls at hl ⊢
  have hl : lv_has ls 2 [(0, .ref h0), (1, .int r)] := hl
  unfold A_RW_statementOf at hr0
  refine lv_aload_n hx hb d_RW_statementOf_0 rfl (lv_at hl 0 rfl) ?_
  refine va_get (D := G.1) (ci := 2) (v := .ref (ad 0)) (C := RRW) (T := TRW) (N := 9) hx hb hts inRW hown hK hP 0 rfl rfl 0 (by decide) (hts _ fl_RW_12) (fun _ h9 => h9) rfl d_RW_statementOf_1 ?_
  refine lv_iload_n hx hb d_RW_statementOf_4 rfl (lv_at hl 1 rfl) ?_
  refine rdV (G := G) (As := [.int r]) (rest := []) (C := RIL) ⟨hx, hb, hml, hown, hts⟩ (c_IL_at l G (ad 0) (gRW_statements σ) r _ _ (bk_gP (k := 3) hP rfl) h2 _ rfl) (cwV 1 hts (gd_V ml_RW_61 im_IL_at sl_IL_at ini_IL k_IL_at) rfl rmK_c rmK_s (by decide +kernel) ⟨Nat.le_of_ble_eq_true rfl, Nat.le_of_ble_eq_true rfl⟩) hK (pIL_recv hK (bk_gP (k := 3) hP rfl) h2) hS ⟨Nat.le_refl _, Nat.le_refl _⟩ rfl hl.1 (Nat.le_of_ble_eq_true rfl) d_RW_statementOf_5 (fun locs hS => ?_)
  exact W.iret (v := (A_IL_at (gRW_statements σ) r)) hx hb hr (fun t ht hW => ⟨⟨(A_IL_at (gRW_statements σ) r), (), rfl, hr0, ht⟩, hS.F ht⟩) hS.2.2 d_RW_statementOf_8

def A_RW_kindOf (σ : tRW) (r : Int32) : Int32 := A_IL_at (gRW_kinds σ) r
set_option maxHeartbeats 4000000 in
set_option maxRecDepth 100000 in
theorem c_RW_kindOf (l : Launch) (G : pG) (h0 : Nat) (ad : Nat → Nat) (σ : tRW) (r : Int32) (H : Heap) (w : va_W) (hP0 : va_P G.1 vwCl w H) (hσ : pRW G h0 ad σ w) (res : Int32) (hr0 : A_RW_kindOf σ r = res) : MRi l y_RW_kindOf w_RW_kindOf 1 21 G [.ref h0, .int r] H res := by
  refine Met.ofW (cc := b_RW_kindOf) (maxL := 2) (ret := (some .int)) (by decide) rfl ?_
  intro p e s m args below meth c s₁ B hml hv
  obtain ⟨rfl, rfl, hK⟩ := hv
  have hx := B.exec
  have hb := B.bytes
  have hr := B.returns
  have hts0 := atoms_spec (ws := w_RW_kindOf) B.pre
  have hts := fun w (h : w ∈ lw_g) => hts0 w (List.mem_cons_of_mem _ h)
  have hown : s.vm.findClass RRW = some m.cls := findClass_of_methodNamed B.named
  have hlocks := B.notSynchronized
  have hσ0 := hσ
  obtain ⟨q15, q16, w1, w3, w5, w7, w9, w11, w13, rfl, h2, h4, h6, h8, h10, h12, h14, h17⟩ := hσ
  have hP := hP0
  obtain ⟨A, hAe⟩ : ∃ A : Nat → Prop, A = fun _ => False := ⟨_, rfl⟩
  rw [← hAe]
  have hS : va_S A s.heap s.heap [] := va_S.rf
  have hl := lv_entry ([.ref h0, .int r]) (n := 2) (Nat.le_of_ble_eq_true rfl)
  rw [lg_entry_eq]
  generalize (lg_sl ([.ref h0, .int r]) ++ List.replicate (2 - (lg_sl ([.ref h0, .int r])).length) Slot.unset).toArray = ls at hl ⊢
  have hl : lv_has ls 2 [(0, .ref h0), (1, .int r)] := hl
  unfold A_RW_kindOf at hr0
  refine lv_aload_n hx hb d_RW_kindOf_0 rfl (lv_at hl 0 rfl) ?_
  refine va_get (D := G.1) (ci := 2) (v := .ref (ad 4)) (C := RRW) (T := TRW) (N := 9) hx hb hts inRW hown hK hP 0 rfl rfl 4 (by decide) (hts _ fl_RW_31) (fun _ h9 => h9) rfl d_RW_kindOf_1 ?_
  refine lv_iload_n hx hb d_RW_kindOf_4 rfl (lv_at hl 1 rfl) ?_
  refine rdV (G := G) (As := [.int r]) (rest := []) (C := RIL) ⟨hx, hb, hml, hown, hts⟩ (c_IL_at l G (ad 4) (gRW_kinds σ) r _ _ (bk_gP (k := 7) hP rfl) h10 _ rfl) (cwV 1 hts (gd_V ml_RW_61 im_IL_at sl_IL_at ini_IL k_IL_at) rfl rmK_c rmK_s (by decide +kernel) ⟨Nat.le_of_ble_eq_true rfl, Nat.le_of_ble_eq_true rfl⟩) hK (pIL_recv hK (bk_gP (k := 7) hP rfl) h10) hS ⟨Nat.le_refl _, Nat.le_refl _⟩ rfl hl.1 (Nat.le_of_ble_eq_true rfl) d_RW_kindOf_5 (fun locs hS => ?_)
  exact W.iret (v := (A_IL_at (gRW_kinds σ) r)) hx hb hr (fun t ht hW => ⟨⟨(A_IL_at (gRW_kinds σ) r), (), rfl, hr0, ht⟩, hS.F ht⟩) hS.2.2 d_RW_kindOf_8

def A_RW_amountOfParts (σ : tRW) (r : Int32) : Int32 := if (A_RW_has σ r) = 0 then 0 else ((A_IL_at (gRW_starts σ) (r + 1)) - (A_IL_at (gRW_starts σ) r))
set_option maxHeartbeats 4000000 in
set_option maxRecDepth 100000 in
theorem c_RW_amountOfParts (l : Launch) (G : pG) (h0 : Nat) (ad : Nat → Nat) (σ : tRW) (r : Int32) (H : Heap) (w : va_W) (hP0 : va_P G.1 vwCl w H) (hσ : pRW G h0 ad σ w) (res : Int32) (hr0 : A_RW_amountOfParts σ r = res) : MRi l y_RW_amountOfParts w_RW_amountOfParts 2 41 G [.ref h0, .int r] H res := by
  refine Met.ofW (cc := b_RW_amountOfParts) (maxL := 2) (ret := (some .int)) (by decide) rfl ?_
  intro p e s m args below meth c s₁ B hml hv
  obtain ⟨rfl, rfl, hK⟩ := hv
  have hx := B.exec
  have hb := B.bytes
  have hr := B.returns
  have hts0 := atoms_spec (ws := w_RW_amountOfParts) B.pre
  have hts := fun w (h : w ∈ lw_g) => hts0 w (List.mem_cons_of_mem _ h)
  have hown : s.vm.findClass RRW = some m.cls := findClass_of_methodNamed B.named
  have hlocks := B.notSynchronized
  have hσ0 := hσ
  obtain ⟨q15, q16, w1, w3, w5, w7, w9, w11, w13, rfl, h2, h4, h6, h8, h10, h12, h14, h17⟩ := hσ
  have hP := hP0
  obtain ⟨A, hAe⟩ : ∃ A : Nat → Prop, A = fun _ => False := ⟨_, rfl⟩
  rw [← hAe]
  have hS : va_S A s.heap s.heap [] := va_S.rf
  have hl := lv_entry ([.ref h0, .int r]) (n := 2) (Nat.le_of_ble_eq_true rfl)
  rw [lg_entry_eq]
  generalize (lg_sl ([.ref h0, .int r]) ++ List.replicate (2 - (lg_sl ([.ref h0, .int r])).length) Slot.unset).toArray = ls at hl ⊢
  have hl : lv_has ls 2 [(0, .ref h0), (1, .int r)] := hl
  unfold A_RW_amountOfParts at hr0
  refine lv_aload_n hx hb d_RW_amountOfParts_0 rfl (lv_at hl 0 rfl) ?_
  refine lv_iload_n hx hb d_RW_amountOfParts_1 rfl (lv_at hl 1 rfl) ?_
  refine rdV (G := G) (As := [.int r]) (rest := []) (C := RRW) ⟨hx, hb, hml, hown, hts⟩ (c_RW_has l G h0 ad σ r _ _ hP0 hσ0 _ rfl) (cwV 1 hts (gd_V ml_RW_65 im_RW_has sl_RW_has ini_RW k_RW_has) rfl rmK_c rmK_s (by decide +kernel) ⟨Nat.le_of_ble_eq_true rfl, Nat.le_of_ble_eq_true rfl⟩) hK (pRW_recv hK hP0 hσ0) hS ⟨Nat.le_refl _, Nat.le_refl _⟩ rfl hl.1 (Nat.le_of_ble_eq_true rfl) d_RW_amountOfParts_2 (fun locs hS => ?_)
  refine lv_if_eq (tgt := 30) hx hb d_RW_amountOfParts_5 (by decide) (fun c18 => ?_) (fun c18 => ?_)
  · have hr0 := ai_pos c18 hr0
    refine lv_iconst (v := 0) hx hb d_RW_amountOfParts_30 (by decide) ?_
    exact W.iret (v := 0) hx hb hr (fun t ht hW => ⟨⟨0, (), rfl, hr0, ht⟩, hS.F ht⟩) hS.2.2 d_RW_amountOfParts_31
  · have hr0 := ai_neg c18 hr0
    refine lv_aload_n hx hb d_RW_amountOfParts_8 rfl (lv_at hl 0 rfl) ?_
    refine va_get (D := G.1) (ci := 2) (v := .ref (ad 1)) (C := RRW) (T := TRW) (N := 9) hx hb hts inRW hown hK hP 0 rfl rfl 1 (by decide) (hts _ fl_RW_18) (fun _ h9 => h9) rfl d_RW_amountOfParts_9 ?_
    refine lv_iload_n hx hb d_RW_amountOfParts_12 rfl (lv_at hl 1 rfl) ?_
    refine lv_iconst (v := 1) hx hb d_RW_amountOfParts_13 (by decide) ?_
    refine lv_iadd hx hb d_RW_amountOfParts_14 ?_
    refine rdV (G := G) (As := [.int (r + 1)]) (rest := []) (C := RIL) ⟨hx, hb, hml, hown, hts⟩ (c_IL_at l G (ad 1) (gRW_starts σ) (r + 1) _ _ (bk_gP (k := 4) hP rfl) h4 _ rfl) (cwV 1 hts (gd_V ml_RW_61 im_IL_at sl_IL_at ini_IL k_IL_at) rfl rmK_c rmK_s (by decide +kernel) ⟨Nat.le_of_ble_eq_true rfl, Nat.le_of_ble_eq_true rfl⟩) hK (pIL_recv hK (bk_gP (k := 4) hP rfl) h4) hS ⟨Nat.le_refl _, Nat.le_refl _⟩ rfl hl.1 (Nat.le_of_ble_eq_true rfl) d_RW_amountOfParts_15 (fun locs hS => ?_)
    refine lv_aload_n hx hb d_RW_amountOfParts_18 rfl (lv_at hl 0 rfl) ?_
    refine va_get (D := G.1) (ci := 2) (v := .ref (ad 1)) (C := RRW) (T := TRW) (N := 9) hx hb hts inRW hown hK hP 0 rfl rfl 1 (by decide) (hts _ fl_RW_18) (fun _ h9 => h9) rfl d_RW_amountOfParts_19 ?_
    refine lv_iload_n hx hb d_RW_amountOfParts_22 rfl (lv_at hl 1 rfl) ?_
    refine rdV (G := G) (As := [.int r]) (rest := [.int (A_IL_at (gRW_starts σ) (r + 1))]) (C := RIL) ⟨hx, hb, hml, hown, hts⟩ (c_IL_at l G (ad 1) (gRW_starts σ) r _ _ (bk_gP (k := 4) hP rfl) h4 _ rfl) (cwV 1 hts (gd_V ml_RW_61 im_IL_at sl_IL_at ini_IL k_IL_at) rfl rmK_c rmK_s (by decide +kernel) ⟨Nat.le_of_ble_eq_true rfl, Nat.le_of_ble_eq_true rfl⟩) hK (pIL_recv hK (bk_gP (k := 4) hP rfl) h4) hS ⟨Nat.le_refl _, Nat.le_refl _⟩ rfl hl.1 (Nat.le_of_ble_eq_true rfl) d_RW_amountOfParts_23 (fun locs hS => ?_)
    refine lv_isub hx hb d_RW_amountOfParts_26 ?_
    refine lv_goto (tgt := 31) hx hb d_RW_amountOfParts_27 (by decide) ?_
    exact W.iret (v := ((A_IL_at (gRW_starts σ) (r + 1)) - (A_IL_at (gRW_starts σ) r))) hx hb hr (fun t ht hW => ⟨⟨((A_IL_at (gRW_starts σ) (r + 1)) - (A_IL_at (gRW_starts σ) r)), (), rfl, hr0, ht⟩, hS.F ht⟩) hS.2.2 d_RW_amountOfParts_31

def A_RW_part (σ : tRW) (r : Int32) (k : Int32) : Int32 := if k < 0 then (-1) else (if (A_RW_amountOfParts σ r) ≤ k then (-1) else (A_IL_at (gRW_parts σ) ((A_IL_at (gRW_starts σ) r) + k)))
set_option maxHeartbeats 4000000 in
set_option maxRecDepth 100000 in
theorem c_RW_part (l : Launch) (G : pG) (h0 : Nat) (ad : Nat → Nat) (σ : tRW) (r : Int32) (k : Int32) (H : Heap) (w : va_W) (hP0 : va_P G.1 vwCl w H) (hσ : pRW G h0 ad σ w) (res : Int32) (hr0 : A_RW_part σ r k = res) : MRi l y_RW_part w_RW_part 3 62 G [.ref h0, .int r, .int k] H res := by
  refine Met.ofW (cc := b_RW_part) (maxL := 3) (ret := (some .int)) (by decide) rfl ?_
  intro p e s m args below meth c s₁ B hml hv
  obtain ⟨rfl, rfl, hK⟩ := hv
  have hx := B.exec
  have hb := B.bytes
  have hr := B.returns
  have hts0 := atoms_spec (ws := w_RW_part) B.pre
  have hts := fun w (h : w ∈ lw_g) => hts0 w (List.mem_cons_of_mem _ h)
  have hown : s.vm.findClass RRW = some m.cls := findClass_of_methodNamed B.named
  have hlocks := B.notSynchronized
  have hσ0 := hσ
  obtain ⟨q15, q16, w1, w3, w5, w7, w9, w11, w13, rfl, h2, h4, h6, h8, h10, h12, h14, h17⟩ := hσ
  have hP := hP0
  obtain ⟨A, hAe⟩ : ∃ A : Nat → Prop, A = fun _ => False := ⟨_, rfl⟩
  rw [← hAe]
  have hS : va_S A s.heap s.heap [] := va_S.rf
  have hl := lv_entry ([.ref h0, .int r, .int k]) (n := 3) (Nat.le_of_ble_eq_true rfl)
  rw [lg_entry_eq]
  generalize (lg_sl ([.ref h0, .int r, .int k]) ++ List.replicate (3 - (lg_sl ([.ref h0, .int r, .int k])).length) Slot.unset).toArray = ls at hl ⊢
  have hl : lv_has ls 3 [(0, .ref h0), (1, .int r), (2, .int k)] := hl
  unfold A_RW_part at hr0
  refine lv_iload_n hx hb d_RW_part_0 rfl (lv_at hl 2 rfl) ?_
  refine lv_if_lt (tgt := 33) hx hb d_RW_part_1 (by decide) (fun c18 => ?_) (fun c18 => ?_)
  · have hr0 := ai_pos c18 hr0
    refine lv_iconst (v := (-1)) hx hb d_RW_part_33 (by decide) ?_
    exact W.iret (v := (-1)) hx hb hr (fun t ht hW => ⟨⟨(-1), (), rfl, hr0, ht⟩, hS.F ht⟩) hS.2.2 d_RW_part_34
  · have hr0 := ai_neg c18 hr0
    refine lv_iload_n hx hb d_RW_part_4 rfl (lv_at hl 2 rfl) ?_
    refine lv_aload_n hx hb d_RW_part_5 rfl (lv_at hl 0 rfl) ?_
    refine lv_iload_n hx hb d_RW_part_6 rfl (lv_at hl 1 rfl) ?_
    refine rdV (G := G) (As := [.int r]) (rest := [.int k]) (C := RRW) ⟨hx, hb, hml, hown, hts⟩ (c_RW_amountOfParts l G h0 ad σ r _ _ hP0 hσ0 _ rfl) (cwV 1 hts (gd_V ml_RW_69 im_RW_amountOfParts sl_RW_amountOfParts ini_RW k_RW_amountOfParts) rfl rmK_c rmK_s (by decide +kernel) ⟨Nat.le_of_ble_eq_true rfl, Nat.le_of_ble_eq_true rfl⟩) hK (pRW_recv hK hP0 hσ0) hS ⟨Nat.le_refl _, Nat.le_refl _⟩ rfl hl.1 (Nat.le_of_ble_eq_true rfl) d_RW_part_7 (fun locs hS => ?_)
    refine lv_icmp_ge (tgt := 33) hx hb d_RW_part_10 (by decide) (fun c19 => ?_) (fun c19 => ?_)
    · have hr0 := ai_pos c19 hr0
      refine lv_iconst (v := (-1)) hx hb d_RW_part_33 (by decide) ?_
      exact W.iret (v := (-1)) hx hb hr (fun t ht hW => ⟨⟨(-1), (), rfl, hr0, ht⟩, hS.F ht⟩) hS.2.2 d_RW_part_34
    · have hr0 := ai_neg c19 hr0
      refine lv_aload_n hx hb d_RW_part_13 rfl (lv_at hl 0 rfl) ?_
      refine va_get (D := G.1) (ci := 2) (v := .ref (ad 2)) (C := RRW) (T := TRW) (N := 9) hx hb hts inRW hown hK hP 0 rfl rfl 2 (by decide) (hts _ fl_RW_25) (fun _ h9 => h9) rfl d_RW_part_14 ?_
      refine lv_aload_n hx hb d_RW_part_17 rfl (lv_at hl 0 rfl) ?_
      refine va_get (D := G.1) (ci := 2) (v := .ref (ad 1)) (C := RRW) (T := TRW) (N := 9) hx hb hts inRW hown hK hP 0 rfl rfl 1 (by decide) (hts _ fl_RW_18) (fun _ h9 => h9) rfl d_RW_part_18 ?_
      refine lv_iload_n hx hb d_RW_part_21 rfl (lv_at hl 1 rfl) ?_
      refine rdV (G := G) (As := [.int r]) (rest := [.ref (ad 2)]) (C := RIL) ⟨hx, hb, hml, hown, hts⟩ (c_IL_at l G (ad 1) (gRW_starts σ) r _ _ (bk_gP (k := 4) hP rfl) h4 _ rfl) (cwV 1 hts (gd_V ml_RW_61 im_IL_at sl_IL_at ini_IL k_IL_at) rfl rmK_c rmK_s (by decide +kernel) ⟨Nat.le_of_ble_eq_true rfl, Nat.le_of_ble_eq_true rfl⟩) hK (pIL_recv hK (bk_gP (k := 4) hP rfl) h4) hS ⟨Nat.le_refl _, Nat.le_refl _⟩ rfl hl.1 (Nat.le_of_ble_eq_true rfl) d_RW_part_22 (fun locs hS => ?_)
      refine lv_iload_n hx hb d_RW_part_25 rfl (lv_at hl 2 rfl) ?_
      refine lv_iadd hx hb d_RW_part_26 ?_
      refine rdV (G := G) (As := [.int ((A_IL_at (gRW_starts σ) r) + k)]) (rest := []) (C := RIL) ⟨hx, hb, hml, hown, hts⟩ (c_IL_at l G (ad 2) (gRW_parts σ) ((A_IL_at (gRW_starts σ) r) + k) _ _ (bk_gP (k := 5) hP rfl) h6 _ rfl) (cwV 1 hts (gd_V ml_RW_61 im_IL_at sl_IL_at ini_IL k_IL_at) rfl rmK_c rmK_s (by decide +kernel) ⟨Nat.le_of_ble_eq_true rfl, Nat.le_of_ble_eq_true rfl⟩) hK (pIL_recv hK (bk_gP (k := 5) hP rfl) h6) hS ⟨Nat.le_refl _, Nat.le_refl _⟩ rfl hl.1 (Nat.le_of_ble_eq_true rfl) d_RW_part_27 (fun locs hS => ?_)
      refine lv_goto (tgt := 34) hx hb d_RW_part_30 (by decide) ?_
      exact W.iret (v := (A_IL_at (gRW_parts σ) ((A_IL_at (gRW_starts σ) r) + k))) hx hb hr (fun t ht hW => ⟨⟨(A_IL_at (gRW_parts σ) ((A_IL_at (gRW_starts σ) r) + k)), (), rfl, hr0, ht⟩, hS.F ht⟩) hS.2.2 d_RW_part_34
end
section
theorem sf_in {σ : tRW} {r : Int32} {n : Nat} (h : ¬ A_RW_has σ r = 0) (c : ¬ nI n ≤ r) (hn : n ≤ 16777216) : vp_in r n := by
  have h1 : ¬ r < 0 := fun h1 => h (if_pos h1)
  obtain ⟨j, hj, rfl, -⟩ := pk_mu h1 c (by omega)
  exact vp_in_nI hj (by omega)

def A_RW_stepsInFull (σ : tRW) (r : Int32) : Int64 := if (A_RW_has σ r) = 0 then 0 else (if (nI (gRW_steps σ).2) ≤ r then 0 else ((gRW_steps σ).1 r.toNatClampNeg))
set_option maxHeartbeats 4000000 in
set_option maxRecDepth 100000 in
theorem c_RW_stepsInFull (l : Launch) (G : pG) (h0 : Nat) (ad : Nat → Nat) (σ : tRW) (r : Int32) (H : Heap) (w : va_W) (hP0 : va_P G.1 vwCl w H) (hσ : pRW G h0 ad σ w) (res : Int64) (hr0 : A_RW_stepsInFull σ r = res) : MRl l y_RW_stepsInFull w_RW_stepsInFull 2 41 G [.ref h0, .int r] H res := by
  refine Met.ofW (cc := b_RW_stepsInFull) (maxL := 2) (ret := (some .long)) (by decide) rfl ?_
  intro p e s m args below meth c s₁ B hml hv
  obtain ⟨rfl, rfl, hK⟩ := hv
  have hx := B.exec
  have hb := B.bytes
  have hr := B.returns
  have hts0 := atoms_spec (ws := w_RW_stepsInFull) B.pre
  have hts := fun w (h : w ∈ lw_g) => hts0 w (List.mem_cons_of_mem _ h)
  have hown : s.vm.findClass RRW = some m.cls := findClass_of_methodNamed B.named
  have hlocks := B.notSynchronized
  have hσ0 := hσ
  obtain ⟨q15, q16, w1, w3, w5, w7, w9, w11, w13, rfl, h2, h4, h6, h8, h10, h12, h14, h17⟩ := hσ
  have hP := hP0
  obtain ⟨A, hAe⟩ : ∃ A : Nat → Prop, A = fun _ => False := ⟨_, rfl⟩
  rw [← hAe]
  have hS : va_S A s.heap s.heap [] := va_S.rf
  have hl := lv_entry ([.ref h0, .int r]) (n := 2) (Nat.le_of_ble_eq_true rfl)
  rw [lg_entry_eq]
  generalize (lg_sl ([.ref h0, .int r]) ++ List.replicate (2 - (lg_sl ([.ref h0, .int r])).length) Slot.unset).toArray = ls at hl ⊢
  have hl : lv_has ls 2 [(0, .ref h0), (1, .int r)] := hl
  unfold A_RW_stepsInFull at hr0
  refine lv_aload_n hx hb d_RW_stepsInFull_0 rfl (lv_at hl 0 rfl) ?_
  refine lv_iload_n hx hb d_RW_stepsInFull_1 rfl (lv_at hl 1 rfl) ?_
  refine rdV (G := G) (As := [.int r]) (rest := []) (C := RRW) ⟨hx, hb, hml, hown, hts⟩ (c_RW_has l G h0 ad σ r _ _ hP0 hσ0 _ rfl) (cwV 1 hts (gd_V ml_RW_65 im_RW_has sl_RW_has ini_RW k_RW_has) rfl rmK_c rmK_s (by decide +kernel) ⟨Nat.le_of_ble_eq_true rfl, Nat.le_of_ble_eq_true rfl⟩) hK (pRW_recv hK hP0 hσ0) hS ⟨Nat.le_refl _, Nat.le_refl _⟩ rfl hl.1 (Nat.le_of_ble_eq_true rfl) d_RW_stepsInFull_2 (fun locs hS => ?_)
  refine lv_if_eq (tgt := 26) hx hb d_RW_stepsInFull_5 (by decide) (fun c18 => ?_) (fun c18 => ?_)
  · have hr0 := ai_pos c18 hr0
    refine lv_lconst (v := 0) hx hb d_RW_stepsInFull_26 (by decide) ?_
    exact W.lret (v := 0) hx hb hr (fun t ht hW => ⟨⟨0, (), rfl, hr0, ht⟩, hS.F ht⟩) hS.2.2 d_RW_stepsInFull_27
  · have hr0 := ai_neg c18 hr0
    refine lv_iload_n hx hb d_RW_stepsInFull_8 rfl (lv_at hl 1 rfl) ?_
    refine lv_aload_n hx hb d_RW_stepsInFull_9 rfl (lv_at hl 0 rfl) ?_
    refine va_get (D := G.1) (ci := 2) (v := .ref q16) (C := RRW) (T := TRW) (N := 9) hx hb hts inRW hown hK hP 0 rfl rfl 8 (by decide) (hts _ fl_RW_50) (fun _ h9 => h9) rfl d_RW_stepsInFull_10 ?_
    refine va_alen (v := nI (gRW_steps σ).2) hx hb hK hP 2 1 rfl rfl rfl d_RW_stepsInFull_13 ?_
    refine lv_icmp_ge (tgt := 26) hx hb d_RW_stepsInFull_14 (by decide) (fun c19 => ?_) (fun c19 => ?_)
    · have hr0 := ai_pos c19 hr0
      refine lv_lconst (v := 0) hx hb d_RW_stepsInFull_26 (by decide) ?_
      exact W.lret (v := 0) hx hb hr (fun t ht hW => ⟨⟨0, (), rfl, hr0, ht⟩, hS.F ht⟩) hS.2.2 d_RW_stepsInFull_27
    · have hr0 := ai_neg c19 hr0
      refine lv_aload_n hx hb d_RW_stepsInFull_17 rfl (lv_at hl 0 rfl) ?_
      refine va_get (D := G.1) (ci := 2) (v := .ref q16) (C := RRW) (T := TRW) (N := 9) hx hb hts inRW hown hK hP 0 rfl rfl 8 (by decide) (hts _ fl_RW_50) (fun _ h9 => h9) rfl d_RW_stepsInFull_18 ?_
      refine lv_iload_n hx hb d_RW_stepsInFull_21 rfl (lv_at hl 1 rfl) ?_
      refine va_lald hx hb hK hP 2 1 rfl rfl (sf_in c18 c19 h17.2) d_RW_stepsInFull_22 ?_
      refine lv_goto (tgt := 27) hx hb d_RW_stepsInFull_23 (by decide) ?_
      exact W.lret (v := ((gRW_steps σ).1 r.toNatClampNeg)) hx hb hr (fun t ht hW => ⟨⟨((gRW_steps σ).1 r.toNatClampNeg), (), rfl, hr0, ht⟩, hS.F ht⟩) hS.2.2 d_RW_stepsInFull_27

def M_RW_bucketOf_L6 (x_list : tIL) (σ : tRW) (mix : Int32) (k : Int32) : Nat := ((A_IL_length x_list).toInt - k.toInt).toNat
def A_RW_bucketOf_L6 (x_list : tIL) (σ : tRW) : Nat → Int32 → Int32 → Int32
  | 0, _, _ => 0
  | n6 + 1, mix, k => if (A_IL_length x_list) ≤ k then (mix &&& 511) else (A_RW_bucketOf_L6 x_list σ n6 ((31 * mix) + (A_IL_at x_list k)) (k + 1))
def A_RW_bucketOf (σ : tRW) (x_list : tIL) (statement : Int32) (start : Int32) : Int32 := A_RW_bucketOf_L6 x_list σ (M_RW_bucketOf_L6 x_list σ statement start + 1) statement start
set_option maxHeartbeats 4000000 in
set_option maxRecDepth 100000 in
theorem c_RW_bucketOf (l : Launch) (G : pG) (h0 : Nat) (ad : Nat → Nat) (σ : tRW) (statement : Int32) (list : Nat) (start : Int32) (H : Heap) (w : va_W) (x_list : tIL) (v_list : va_W) (hv_list : va_P G.1 vwCl v_list H) (hx_list : pIL G list x_list v_list) (hP0 : va_P G.1 vwCl w H) (hσ : pRW G h0 ad σ w) (res : Int32) (hr0 : A_RW_bucketOf σ x_list statement start = res) : MRi l y_RW_bucketOf w_RW_bucketOf 1 21 G [.ref h0, .int statement, .ref list, .int start] H res := by
  refine Met.ofW (cc := b_RW_bucketOf) (maxL := 6) (ret := (some .int)) (by decide) rfl ?_
  intro p e s m args below meth c s₁ B hml hv
  obtain ⟨rfl, rfl, hK⟩ := hv
  have hx := B.exec
  have hb := B.bytes
  have hr := B.returns
  have hts0 := atoms_spec (ws := w_RW_bucketOf) B.pre
  have hts := fun w (h : w ∈ lw_g) => hts0 w (List.mem_cons_of_mem _ h)
  have hown : s.vm.findClass RRW = some m.cls := findClass_of_methodNamed B.named
  have hlocks := B.notSynchronized
  have hσ0 := hσ
  obtain ⟨q15, q16, w1, w3, w5, w7, w9, w11, w13, rfl, h2, h4, h6, h8, h10, h12, h14, h17⟩ := hσ
  have hP := hP0
  obtain ⟨A, hAe⟩ : ∃ A : Nat → Prop, A = fun _ => False := ⟨_, rfl⟩
  rw [← hAe]
  have hS : va_S A s.heap s.heap [] := va_S.rf
  have hl := lv_entry ([.ref h0, .int statement, .ref list, .int start]) (n := 6) (Nat.le_of_ble_eq_true rfl)
  rw [lg_entry_eq]
  generalize (lg_sl ([.ref h0, .int statement, .ref list, .int start]) ++ List.replicate (6 - (lg_sl ([.ref h0, .int statement, .ref list, .int start])).length) Slot.unset).toArray = ls at hl ⊢
  have hl : lv_has ls 6 [(0, .ref h0), (1, .int statement), (2, .ref list), (3, .int start)] := hl
  unfold A_RW_bucketOf at hr0
  refine lv_iload_n hx hb d_RW_bucketOf_0 rfl (lv_at hl 1 rfl) ?_
  refine lv_istore (lv' := [(4, .int statement), (0, .ref h0), (1, .int statement), (2, .ref list), (3, .int start)]) hx hb d_RW_bucketOf_1 hl (by decide) rfl (fun ls hl => ?_)
  refine lv_iload_n hx hb d_RW_bucketOf_3 rfl (lv_at hl 4 rfl) ?_
  refine lv_istore (lv' := [(5, .int start), (4, .int statement), (0, .ref h0), (1, .int statement), (2, .ref list), (3, .int start)]) hx hb d_RW_bucketOf_4 hl (by decide) rfl (fun ls hl => ?_)
  refine lp_R (I := fun n6 locs ls => ∃ (mix : Int32) (k : Int32), va_S A s.heap s.heap locs ∧ lv_has ls 6 [(0, .ref h0), (2, .ref list), (4, .int mix), (5, .int k)] ∧ A_RW_bucketOf_L6 x_list σ n6 mix k = res ∧ M_RW_bucketOf_L6 x_list σ mix k < n6) ?_ ?_ (M_RW_bucketOf_L6 x_list σ statement start + 1) _ _ ⟨statement, start, hS, lv_sub hl [2, 4, 1, 0] rfl, hr0, Nat.lt_succ_self _⟩
  · intro n6 ih6 locs ls ⟨mix, k, hS, hl, hr0, hm6⟩
    rw [A_RW_bucketOf_L6] at hr0
    refine lv_iload hx hb d_RW_bucketOf_6 (lv_at hl 3 rfl) ?_
    refine lv_aload_n hx hb d_RW_bucketOf_8 rfl (lv_at hl 1 rfl) ?_
    refine rdV (G := G) (As := []) (rest := [.int k]) (C := RIL) ⟨hx, hb, hml, hown, hts⟩ (c_IL_length l G list x_list _ _ hv_list hx_list _ rfl) (cwV 0 hts (gd_V ml_RW_57 im_IL_length sl_IL_length ini_IL k_IL_length) rfl rmK_c rmK_s (by decide +kernel) ⟨Nat.le_of_ble_eq_true rfl, Nat.le_of_ble_eq_true rfl⟩) hK (pIL_recv hK hv_list hx_list) hS ⟨Nat.le_refl _, Nat.le_refl _⟩ rfl hl.1 (Nat.le_of_ble_eq_true rfl) d_RW_bucketOf_9 (fun locs hS => ?_)
    refine lv_icmp_ge (tgt := 35) hx hb d_RW_bucketOf_12 (by decide) (fun c18 => ?_) (fun c18 => ?_)
    · have hr0 := ai_pos c18 hr0
      refine lv_iload hx hb d_RW_bucketOf_35 (lv_at hl 2 rfl) ?_
      refine lv_sipush (v := 511) hx hb d_RW_bucketOf_37 (by decide) ?_
      refine lv_iand hx hb d_RW_bucketOf_40 ?_
      exact W.iret (v := (mix &&& 511)) hx hb hr (fun t ht hW => ⟨⟨(mix &&& 511), (), rfl, hr0, ht⟩, hS.F ht⟩) hS.2.2 d_RW_bucketOf_41
    · have hr0 := ai_neg c18 hr0
      refine lv_bipush (v := 31) hx hb d_RW_bucketOf_15 (by decide) ?_
      refine lv_iload hx hb d_RW_bucketOf_17 (lv_at hl 2 rfl) ?_
      refine lv_imul hx hb d_RW_bucketOf_19 ?_
      refine lv_aload_n hx hb d_RW_bucketOf_20 rfl (lv_at hl 1 rfl) ?_
      refine lv_iload hx hb d_RW_bucketOf_21 (lv_at hl 3 rfl) ?_
      refine rdV (G := G) (As := [.int k]) (rest := [.int (31 * mix)]) (C := RIL) ⟨hx, hb, hml, hown, hts⟩ (c_IL_at l G list x_list k _ _ hv_list hx_list _ rfl) (cwV 1 hts (gd_V ml_RW_61 im_IL_at sl_IL_at ini_IL k_IL_at) rfl rmK_c rmK_s (by decide +kernel) ⟨Nat.le_of_ble_eq_true rfl, Nat.le_of_ble_eq_true rfl⟩) hK (pIL_recv hK hv_list hx_list) hS ⟨Nat.le_refl _, Nat.le_refl _⟩ rfl hl.1 (Nat.le_of_ble_eq_true rfl) d_RW_bucketOf_23 (fun locs hS => ?_)
      refine lv_iadd hx hb d_RW_bucketOf_26 ?_
      refine lv_istore (lv' := [(4, .int ((31 * mix) + (A_IL_at x_list k))), (0, .ref h0), (2, .ref list), (5, .int k)]) hx hb d_RW_bucketOf_27 hl (by decide) rfl (fun ls hl => ?_)
      refine lv_iinc (v := k + 1) (lv' := [(5, .int (k + 1)), (4, .int ((31 * mix) + (A_IL_at x_list k))), (0, .ref h0), (2, .ref list)]) hx hb d_RW_bucketOf_29 hl (k := 3) rfl rfl (by decide) rfl (fun ls hl => ?_)
      refine lv_goto (tgt := 6) hx hb d_RW_bucketOf_32 (by decide) ?_
      exact ih6 _ _ ⟨((31 * mix) + (A_IL_at x_list k)), (k + 1), hS, lv_sub hl [2, 3, 1, 0] rfl, hr0, up_dec c18 hm6⟩
  · rintro locs ls ⟨_, _, -, -, -, hz⟩; exact Nat.not_lt_zero _ hz

theorem bo_in (σ : tRW) (x : tIL) (a b : Int32) : vp_in (A_RW_bucketOf σ x a b) 512 := by
  have key : ∀ (n : Nat) (m k : Int32), vp_in (A_RW_bucketOf_L6 x σ n m k) 512 := by
    intro n
    induction n with
    | zero => intro m k; exact vp_in_nI (n := 0) (by decide) (by decide)
    | succ n ih =>
      intro m k
      rw [A_RW_bucketOf_L6]
      split
      · exact pk_andIn m 9 (by decide) (by decide)
      · exact ih _ _
  exact key _ _ _

def M_RW_isMadeOf_L25 (x_list : tIL) (σ : tRW) (start : Int32) (r : Int32) (k : Int32) : Nat := ((A_IL_length x_list - start).toInt - k.toInt).toNat
def A_RW_isMadeOf_L25 (x_list : tIL) (σ : tRW) (start : Int32) (r : Int32) : Nat → Int32 → Int32
  | 0, _ => 0
  | n25 + 1, k => if ((A_IL_length x_list) - start) ≤ k then 1 else (if (A_IL_at (gRW_partKinds σ) ((A_IL_at (gRW_starts σ) r) + k)) = (A_IL_at x_list (start + k)) then (A_RW_isMadeOf_L25 x_list σ start r n25 (k + 1)) else 0)
def A_RW_isMadeOf (σ : tRW) (x_list : tIL) (kind : Int32) (statement : Int32) (start : Int32) : Int32 := if (A_RW_statementOf σ (A_IL_at (gRW_firstOfKind σ) kind)) = statement then (A_RW_isMadeOf_L25 x_list σ start (A_IL_at (gRW_firstOfKind σ) kind) (M_RW_isMadeOf_L25 x_list σ start (A_IL_at (gRW_firstOfKind σ) kind) 0 + 1) 0) else 0
set_option maxHeartbeats 4000000 in
set_option maxRecDepth 100000 in
theorem c_RW_isMadeOf (l : Launch) (G : pG) (h0 : Nat) (ad : Nat → Nat) (σ : tRW) (kind : Int32) (statement : Int32) (list : Nat) (start : Int32) (H : Heap) (w : va_W) (x_list : tIL) (v_list : va_W) (hv_list : va_P G.1 vwCl v_list H) (hx_list : pIL G list x_list v_list) (hP0 : va_P G.1 vwCl w H) (hσ : pRW G h0 ad σ w) (res : Int32) (hr0 : A_RW_isMadeOf σ x_list kind statement start = res) : MRi l y_RW_isMadeOf w_RW_isMadeOf 2 42 G [.ref h0, .int kind, .int statement, .ref list, .int start] H res := by
  refine Met.ofW (cc := b_RW_isMadeOf) (maxL := 7) (ret := (some .boolean)) (by decide) rfl ?_
  intro p e s m args below meth c s₁ B hml hv
  obtain ⟨rfl, rfl, hK⟩ := hv
  have hx := B.exec
  have hb := B.bytes
  have hr := B.returns
  have hts0 := atoms_spec (ws := w_RW_isMadeOf) B.pre
  have hts := fun w (h : w ∈ lw_g) => hts0 w (List.mem_cons_of_mem _ h)
  have hown : s.vm.findClass RRW = some m.cls := findClass_of_methodNamed B.named
  have hlocks := B.notSynchronized
  have hσ0 := hσ
  obtain ⟨q15, q16, w1, w3, w5, w7, w9, w11, w13, rfl, h2, h4, h6, h8, h10, h12, h14, h17⟩ := hσ
  have hP := hP0
  obtain ⟨A, hAe⟩ : ∃ A : Nat → Prop, A = fun _ => False := ⟨_, rfl⟩
  rw [← hAe]
  have hS : va_S A s.heap s.heap [] := va_S.rf
  have hl := lv_entry ([.ref h0, .int kind, .int statement, .ref list, .int start]) (n := 7) (Nat.le_of_ble_eq_true rfl)
  rw [lg_entry_eq]
  generalize (lg_sl ([.ref h0, .int kind, .int statement, .ref list, .int start]) ++ List.replicate (7 - (lg_sl ([.ref h0, .int kind, .int statement, .ref list, .int start])).length) Slot.unset).toArray = ls at hl ⊢
  have hl : lv_has ls 7 [(0, .ref h0), (1, .int kind), (2, .int statement), (3, .ref list), (4, .int start)] := hl
  unfold A_RW_isMadeOf at hr0
  refine lv_aload_n hx hb d_RW_isMadeOf_0 rfl (lv_at hl 0 rfl) ?_
  refine va_get (D := G.1) (ci := 2) (v := .ref (ad 5)) (C := RRW) (T := TRW) (N := 9) hx hb hts inRW hown hK hP 0 rfl rfl 5 (by decide) (hts _ fl_RW_34) (fun _ h9 => h9) rfl d_RW_isMadeOf_1 ?_
  refine lv_iload_n hx hb d_RW_isMadeOf_4 rfl (lv_at hl 1 rfl) ?_
  refine rdV (G := G) (As := [.int kind]) (rest := []) (C := RIL) ⟨hx, hb, hml, hown, hts⟩ (c_IL_at l G (ad 5) (gRW_firstOfKind σ) kind _ _ (bk_gP (k := 8) hP rfl) h12 _ rfl) (cwV 1 hts (gd_V ml_RW_61 im_IL_at sl_IL_at ini_IL k_IL_at) rfl rmK_c rmK_s (by decide +kernel) ⟨Nat.le_of_ble_eq_true rfl, Nat.le_of_ble_eq_true rfl⟩) hK (pIL_recv hK (bk_gP (k := 8) hP rfl) h12) hS ⟨Nat.le_refl _, Nat.le_refl _⟩ rfl hl.1 (Nat.le_of_ble_eq_true rfl) d_RW_isMadeOf_5 (fun locs hS => ?_)
  refine lv_istore (lv' := [(5, .int (A_IL_at (gRW_firstOfKind σ) kind)), (0, .ref h0), (1, .int kind), (2, .int statement), (3, .ref list), (4, .int start)]) hx hb d_RW_isMadeOf_8 hl (by decide) rfl (fun ls hl => ?_)
  refine lv_aload_n hx hb d_RW_isMadeOf_10 rfl (lv_at hl 1 rfl) ?_
  refine lv_iload hx hb d_RW_isMadeOf_11 (lv_at hl 0 rfl) ?_
  refine rdV (G := G) (As := [.int (A_IL_at (gRW_firstOfKind σ) kind)]) (rest := []) (C := RRW) ⟨hx, hb, hml, hown, hts⟩ (c_RW_statementOf l G h0 ad σ (A_IL_at (gRW_firstOfKind σ) kind) _ _ hP0 hσ0 _ rfl) (cwV 1 hts (gd_V ml_RW_90 im_RW_statementOf sl_RW_statementOf ini_RW k_RW_statementOf) rfl rmK_c rmK_s (by decide +kernel) ⟨Nat.le_of_ble_eq_true rfl, Nat.le_of_ble_eq_true rfl⟩) hK (pRW_recv hK hP0 hσ0) hS ⟨Nat.le_refl _, Nat.le_refl _⟩ rfl hl.1 (Nat.le_of_ble_eq_true rfl) d_RW_isMadeOf_13 (fun locs hS => ?_)
  refine lv_iload_n hx hb d_RW_isMadeOf_16 rfl (lv_at hl 3 rfl) ?_
  refine lv_icmp_eq (tgt := 22) hx hb d_RW_isMadeOf_17 (by decide) (fun c18 => ?_) (fun c18 => ?_)
  · have hr0 := ai_pos c18 hr0
    refine lv_iconst (v := 0) hx hb d_RW_isMadeOf_22 (by decide) ?_
    refine lv_istore (lv' := [(6, .int 0), (5, .int (A_IL_at (gRW_firstOfKind σ) kind)), (0, .ref h0), (1, .int kind), (2, .int statement), (3, .ref list), (4, .int start)]) hx hb d_RW_isMadeOf_23 hl (by decide) rfl (fun ls hl => ?_)
    refine lp_R (I := fun n25 locs ls => ∃ (k : Int32), va_S A s.heap s.heap locs ∧ lv_has ls 7 [(0, .ref h0), (3, .ref list), (4, .int start), (5, .int (A_IL_at (gRW_firstOfKind σ) kind)), (6, .int k)] ∧ A_RW_isMadeOf_L25 x_list σ start (A_IL_at (gRW_firstOfKind σ) kind) n25 k = res ∧ M_RW_isMadeOf_L25 x_list σ start (A_IL_at (gRW_firstOfKind σ) kind) k < n25) ?_ ?_ (M_RW_isMadeOf_L25 x_list σ start (A_IL_at (gRW_firstOfKind σ) kind) 0 + 1) _ _ ⟨0, hS, lv_sub hl [2, 5, 6, 1, 0] rfl, hr0, Nat.lt_succ_self _⟩
    · intro n25 ih25 locs ls ⟨k, hS, hl, hr0, hm25⟩
      rw [A_RW_isMadeOf_L25] at hr0
      refine lv_iload hx hb d_RW_isMadeOf_25 (lv_at hl 4 rfl) ?_
      refine lv_aload_n hx hb d_RW_isMadeOf_27 rfl (lv_at hl 1 rfl) ?_
      refine rdV (G := G) (As := []) (rest := [.int k]) (C := RIL) ⟨hx, hb, hml, hown, hts⟩ (c_IL_length l G list x_list _ _ hv_list hx_list _ rfl) (cwV 0 hts (gd_V ml_RW_57 im_IL_length sl_IL_length ini_IL k_IL_length) rfl rmK_c rmK_s (by decide +kernel) ⟨Nat.le_of_ble_eq_true rfl, Nat.le_of_ble_eq_true rfl⟩) hK (pIL_recv hK hv_list hx_list) hS ⟨Nat.le_refl _, Nat.le_refl _⟩ rfl hl.1 (Nat.le_of_ble_eq_true rfl) d_RW_isMadeOf_28 (fun locs hS => ?_)
      refine lv_iload hx hb d_RW_isMadeOf_31 (lv_at hl 2 rfl) ?_
      refine lv_isub hx hb d_RW_isMadeOf_33 ?_
      refine lv_icmp_ge (tgt := 76) hx hb d_RW_isMadeOf_34 (by decide) (fun c19 => ?_) (fun c19 => ?_)
      · have hr0 := ai_pos c19 hr0
        refine lv_iconst (v := 1) hx hb d_RW_isMadeOf_76 (by decide) ?_
        exact W.zret (v := 1) hx hb hr (by decide) (fun t ht hW => ⟨⟨1, (), rfl, hr0, ht⟩, hS.F ht⟩) hS.2.2 d_RW_isMadeOf_77
      · have hr0 := ai_neg c19 hr0
        refine lv_aload_n hx hb d_RW_isMadeOf_37 rfl (lv_at hl 0 rfl) ?_
        refine va_get (D := G.1) (ci := 2) (v := .ref (ad 3)) (C := RRW) (T := TRW) (N := 9) hx hb hts inRW hown hK hP 0 rfl rfl 3 (by decide) (hts _ fl_RW_28) (fun _ h9 => h9) rfl d_RW_isMadeOf_38 ?_
        refine lv_aload_n hx hb d_RW_isMadeOf_41 rfl (lv_at hl 0 rfl) ?_
        refine va_get (D := G.1) (ci := 2) (v := .ref (ad 1)) (C := RRW) (T := TRW) (N := 9) hx hb hts inRW hown hK hP 0 rfl rfl 1 (by decide) (hts _ fl_RW_18) (fun _ h9 => h9) rfl d_RW_isMadeOf_42 ?_
        refine lv_iload hx hb d_RW_isMadeOf_45 (lv_at hl 3 rfl) ?_
        refine rdV (G := G) (As := [.int (A_IL_at (gRW_firstOfKind σ) kind)]) (rest := [.ref (ad 3)]) (C := RIL) ⟨hx, hb, hml, hown, hts⟩ (c_IL_at l G (ad 1) (gRW_starts σ) (A_IL_at (gRW_firstOfKind σ) kind) _ _ (bk_gP (k := 4) hP rfl) h4 _ rfl) (cwV 1 hts (gd_V ml_RW_61 im_IL_at sl_IL_at ini_IL k_IL_at) rfl rmK_c rmK_s (by decide +kernel) ⟨Nat.le_of_ble_eq_true rfl, Nat.le_of_ble_eq_true rfl⟩) hK (pIL_recv hK (bk_gP (k := 4) hP rfl) h4) hS ⟨Nat.le_refl _, Nat.le_refl _⟩ rfl hl.1 (Nat.le_of_ble_eq_true rfl) d_RW_isMadeOf_47 (fun locs hS => ?_)
        refine lv_iload hx hb d_RW_isMadeOf_50 (lv_at hl 4 rfl) ?_
        refine lv_iadd hx hb d_RW_isMadeOf_52 ?_
        refine rdV (G := G) (As := [.int ((A_IL_at (gRW_starts σ) (A_IL_at (gRW_firstOfKind σ) kind)) + k)]) (rest := []) (C := RIL) ⟨hx, hb, hml, hown, hts⟩ (c_IL_at l G (ad 3) (gRW_partKinds σ) ((A_IL_at (gRW_starts σ) (A_IL_at (gRW_firstOfKind σ) kind)) + k) _ _ (bk_gP (k := 6) hP rfl) h8 _ rfl) (cwV 1 hts (gd_V ml_RW_61 im_IL_at sl_IL_at ini_IL k_IL_at) rfl rmK_c rmK_s (by decide +kernel) ⟨Nat.le_of_ble_eq_true rfl, Nat.le_of_ble_eq_true rfl⟩) hK (pIL_recv hK (bk_gP (k := 6) hP rfl) h8) hS ⟨Nat.le_refl _, Nat.le_refl _⟩ rfl hl.1 (Nat.le_of_ble_eq_true rfl) d_RW_isMadeOf_53 (fun locs hS => ?_)
        refine lv_aload_n hx hb d_RW_isMadeOf_56 rfl (lv_at hl 1 rfl) ?_
        refine lv_iload hx hb d_RW_isMadeOf_57 (lv_at hl 2 rfl) ?_
        refine lv_iload hx hb d_RW_isMadeOf_59 (lv_at hl 4 rfl) ?_
        refine lv_iadd hx hb d_RW_isMadeOf_61 ?_
        refine rdV (G := G) (As := [.int (start + k)]) (rest := [.int (A_IL_at (gRW_partKinds σ) ((A_IL_at (gRW_starts σ) (A_IL_at (gRW_firstOfKind σ) kind)) + k))]) (C := RIL) ⟨hx, hb, hml, hown, hts⟩ (c_IL_at l G list x_list (start + k) _ _ hv_list hx_list _ rfl) (cwV 1 hts (gd_V ml_RW_61 im_IL_at sl_IL_at ini_IL k_IL_at) rfl rmK_c rmK_s (by decide +kernel) ⟨Nat.le_of_ble_eq_true rfl, Nat.le_of_ble_eq_true rfl⟩) hK (pIL_recv hK hv_list hx_list) hS ⟨Nat.le_refl _, Nat.le_refl _⟩ rfl hl.1 (Nat.le_of_ble_eq_true rfl) d_RW_isMadeOf_62 (fun locs hS => ?_)
        refine lv_icmp_eq (tgt := 70) hx hb d_RW_isMadeOf_65 (by decide) (fun c20 => ?_) (fun c20 => ?_)
        · have hr0 := ai_pos c20 hr0
          refine lv_iinc (v := k + 1) (lv' := [(6, .int (k + 1)), (0, .ref h0), (3, .ref list), (4, .int start), (5, .int (A_IL_at (gRW_firstOfKind σ) kind))]) hx hb d_RW_isMadeOf_70 hl (k := 4) rfl rfl (by decide) rfl (fun ls hl => ?_)
          refine lv_goto (tgt := 25) hx hb d_RW_isMadeOf_73 (by decide) ?_
          exact ih25 _ _ ⟨(k + 1), hS, lv_sub hl [1, 2, 3, 4, 0] rfl, hr0, up_dec c19 hm25⟩
        · have hr0 := ai_neg c20 hr0
          refine lv_iconst (v := 0) hx hb d_RW_isMadeOf_68 (by decide) ?_
          exact W.zret (v := 0) hx hb hr (by decide) (fun t ht hW => ⟨⟨0, (), rfl, hr0, ht⟩, hS.F ht⟩) hS.2.2 d_RW_isMadeOf_69
    · rintro locs ls ⟨_, -, -, -, hz⟩; exact Nat.not_lt_zero _ hz
  · have hr0 := ai_neg c18 hr0
    refine lv_iconst (v := 0) hx hb d_RW_isMadeOf_20 (by decide) ?_
    exact W.zret (v := 0) hx hb hr (by decide) (fun t ht hW => ⟨⟨0, (), rfl, hr0, ht⟩, hS.F ht⟩) hS.2.2 d_RW_isMadeOf_21

def M_RW_kindMadeOf_L17 (x_list : tIL) (σ : tRW) (statement : Int32) (start : Int32) (kind : Int32) (seen : Int32) : Nat := ((A_RW_amountOfKinds σ).toInt - seen.toInt).toNat
def A_RW_kindMadeOf_L17 (x_list : tIL) (σ : tRW) (statement : Int32) (start : Int32) : Nat → Int32 → Int32 → Int32
  | 0, _, _ => 0
  | n17 + 1, kind, seen => if (A_RW_amountOfKinds σ) ≤ seen then (-1) else (if kind = (-1) then (-1) else (if (A_RW_isMadeOf σ x_list kind statement start) = 0 then (A_RW_kindMadeOf_L17 x_list σ statement start n17 (A_IL_at (gRW_olderKind σ) kind) (seen + 1)) else kind))
def A_RW_kindMadeOf (σ : tRW) (x_list : tIL) (statement : Int32) (start : Int32) : Int32 := A_RW_kindMadeOf_L17 x_list σ statement start (M_RW_kindMadeOf_L17 x_list σ statement start ((gRW_newestKind σ) (A_RW_bucketOf σ x_list statement start).toNatClampNeg) 0 + 1) ((gRW_newestKind σ) (A_RW_bucketOf σ x_list statement start).toNatClampNeg) 0
set_option maxHeartbeats 4000000 in
set_option maxRecDepth 100000 in
theorem c_RW_kindMadeOf (l : Launch) (G : pG) (h0 : Nat) (ad : Nat → Nat) (σ : tRW) (statement : Int32) (list : Nat) (start : Int32) (H : Heap) (w : va_W) (x_list : tIL) (v_list : va_W) (hv_list : va_P G.1 vwCl v_list H) (hx_list : pIL G list x_list v_list) (hP0 : va_P G.1 vwCl w H) (hσ : pRW G h0 ad σ w) (res : Int32) (hr0 : A_RW_kindMadeOf σ x_list statement start = res) : MRi l y_RW_kindMadeOf w_RW_kindMadeOf 3 68 G [.ref h0, .int statement, .ref list, .int start] H res := by
  refine Met.ofW (cc := b_RW_kindMadeOf) (maxL := 6) (ret := (some .int)) (by decide) rfl ?_
  intro p e s m args below meth c s₁ B hml hv
  obtain ⟨rfl, rfl, hK⟩ := hv
  have hx := B.exec
  have hb := B.bytes
  have hr := B.returns
  have hts0 := atoms_spec (ws := w_RW_kindMadeOf) B.pre
  have hts := fun w (h : w ∈ lw_g) => hts0 w (List.mem_cons_of_mem _ h)
  have hown : s.vm.findClass RRW = some m.cls := findClass_of_methodNamed B.named
  have hlocks := B.notSynchronized
  have hσ0 := hσ
  obtain ⟨q15, q16, w1, w3, w5, w7, w9, w11, w13, rfl, h2, h4, h6, h8, h10, h12, h14, h17⟩ := hσ
  have hP := hP0
  obtain ⟨A, hAe⟩ : ∃ A : Nat → Prop, A = fun _ => False := ⟨_, rfl⟩
  rw [← hAe]
  have hS : va_S A s.heap s.heap [] := va_S.rf
  have hl := lv_entry ([.ref h0, .int statement, .ref list, .int start]) (n := 6) (Nat.le_of_ble_eq_true rfl)
  rw [lg_entry_eq]
  generalize (lg_sl ([.ref h0, .int statement, .ref list, .int start]) ++ List.replicate (6 - (lg_sl ([.ref h0, .int statement, .ref list, .int start])).length) Slot.unset).toArray = ls at hl ⊢
  have hl : lv_has ls 6 [(0, .ref h0), (1, .int statement), (2, .ref list), (3, .int start)] := hl
  unfold A_RW_kindMadeOf at hr0
  refine lv_aload_n hx hb d_RW_kindMadeOf_0 rfl (lv_at hl 0 rfl) ?_
  refine va_get (D := G.1) (ci := 2) (v := .ref q15) (C := RRW) (T := TRW) (N := 9) hx hb hts inRW hown hK hP 0 rfl rfl 7 (by decide) (hts _ fl_RW_40) (fun _ h9 => h9) rfl d_RW_kindMadeOf_1 ?_
  refine lv_aload_n hx hb d_RW_kindMadeOf_4 rfl (lv_at hl 0 rfl) ?_
  refine lv_iload_n hx hb d_RW_kindMadeOf_5 rfl (lv_at hl 1 rfl) ?_
  refine lv_aload_n hx hb d_RW_kindMadeOf_6 rfl (lv_at hl 2 rfl) ?_
  refine lv_iload_n hx hb d_RW_kindMadeOf_7 rfl (lv_at hl 3 rfl) ?_
  refine rdV (G := G) (As := [.int statement, .ref list, .int start]) (rest := [.ref q15]) (C := RRW) ⟨hx, hb, hml, hown, hts⟩ (c_RW_bucketOf l G h0 ad σ statement list start _ _ x_list _ hv_list hx_list hP0 hσ0 _ rfl) (cwV 3 hts (gd_V ml_RW_100 im_RW_bucketOf sl_RW_bucketOf ini_RW k_RW_bucketOf) rfl rmK_c rmK_s (by decide +kernel) ⟨Nat.le_of_ble_eq_true rfl, Nat.le_of_ble_eq_true rfl⟩) hK (pRW_recv hK hP0 hσ0) hS ⟨Nat.le_refl _, Nat.le_refl _⟩ rfl hl.1 (Nat.le_of_ble_eq_true rfl) d_RW_kindMadeOf_8 (fun locs hS => ?_)
  refine va_iald hx hb hK hP 1 0 rfl rfl (bo_in _ _ _ _) d_RW_kindMadeOf_11 ?_
  refine lv_istore (lv' := [(4, .int ((gRW_newestKind σ) (A_RW_bucketOf σ x_list statement start).toNatClampNeg)), (0, .ref h0), (1, .int statement), (2, .ref list), (3, .int start)]) hx hb d_RW_kindMadeOf_12 hl (by decide) rfl (fun ls hl => ?_)
  refine lv_iconst (v := 0) hx hb d_RW_kindMadeOf_14 (by decide) ?_
  refine lv_istore (lv' := [(5, .int 0), (4, .int ((gRW_newestKind σ) (A_RW_bucketOf σ x_list statement start).toNatClampNeg)), (0, .ref h0), (1, .int statement), (2, .ref list), (3, .int start)]) hx hb d_RW_kindMadeOf_15 hl (by decide) rfl (fun ls hl => ?_)
  refine lp_R (I := fun n17 locs ls => ∃ (kind : Int32) (seen : Int32), va_S A s.heap s.heap locs ∧ lv_has ls 6 [(0, .ref h0), (2, .ref list), (1, .int statement), (3, .int start), (4, .int kind), (5, .int seen)] ∧ A_RW_kindMadeOf_L17 x_list σ statement start n17 kind seen = res ∧ M_RW_kindMadeOf_L17 x_list σ statement start kind seen < n17) ?_ ?_ (M_RW_kindMadeOf_L17 x_list σ statement start ((gRW_newestKind σ) (A_RW_bucketOf σ x_list statement start).toNatClampNeg) 0 + 1) _ _ ⟨((gRW_newestKind σ) (A_RW_bucketOf σ x_list statement start).toNatClampNeg), 0, hS, lv_sub hl [2, 4, 3, 5, 1, 0] rfl, hr0, Nat.lt_succ_self _⟩
  · intro n17 ih17 locs ls ⟨kind, seen, hS, hl, hr0, hm17⟩
    rw [A_RW_kindMadeOf_L17] at hr0
    refine lv_iload hx hb d_RW_kindMadeOf_17 (lv_at hl 5 rfl) ?_
    refine lv_aload_n hx hb d_RW_kindMadeOf_19 rfl (lv_at hl 0 rfl) ?_
    refine rdV (G := G) (As := []) (rest := [.int seen]) (C := RRW) ⟨hx, hb, hml, hown, hts⟩ (c_RW_amountOfKinds l G h0 ad σ _ _ hP0 hσ0 _ rfl) (cwV 0 hts (gd_V ml_RW_97 im_RW_amountOfKinds sl_RW_amountOfKinds ini_RW k_RW_amountOfKinds) rfl rmK_c rmK_s (by decide +kernel) ⟨Nat.le_of_ble_eq_true rfl, Nat.le_of_ble_eq_true rfl⟩) hK (pRW_recv hK hP0 hσ0) hS ⟨Nat.le_refl _, Nat.le_refl _⟩ rfl hl.1 (Nat.le_of_ble_eq_true rfl) d_RW_kindMadeOf_20 (fun locs hS => ?_)
    refine lv_icmp_ge (tgt := 64) hx hb d_RW_kindMadeOf_23 (by decide) (fun c18 => ?_) (fun c18 => ?_)
    · have hr0 := ai_pos c18 hr0
      refine lv_iconst (v := (-1)) hx hb d_RW_kindMadeOf_64 (by decide) ?_
      exact W.iret (v := (-1)) hx hb hr (fun t ht hW => ⟨⟨(-1), (), rfl, hr0, ht⟩, hS.F ht⟩) hS.2.2 d_RW_kindMadeOf_65
    · have hr0 := ai_neg c18 hr0
      refine lv_iload hx hb d_RW_kindMadeOf_26 (lv_at hl 4 rfl) ?_
      refine lv_iconst (v := (-1)) hx hb d_RW_kindMadeOf_28 (by decide) ?_
      refine lv_icmp_eq (tgt := 64) hx hb d_RW_kindMadeOf_29 (by decide) (fun c19 => ?_) (fun c19 => ?_)
      · have hr0 := ai_pos c19 hr0
        refine lv_iconst (v := (-1)) hx hb d_RW_kindMadeOf_64 (by decide) ?_
        exact W.iret (v := (-1)) hx hb hr (fun t ht hW => ⟨⟨(-1), (), rfl, hr0, ht⟩, hS.F ht⟩) hS.2.2 d_RW_kindMadeOf_65
      · have hr0 := ai_neg c19 hr0
        refine lv_aload_n hx hb d_RW_kindMadeOf_32 rfl (lv_at hl 0 rfl) ?_
        refine lv_iload hx hb d_RW_kindMadeOf_33 (lv_at hl 4 rfl) ?_
        refine lv_iload_n hx hb d_RW_kindMadeOf_35 rfl (lv_at hl 2 rfl) ?_
        refine lv_aload_n hx hb d_RW_kindMadeOf_36 rfl (lv_at hl 1 rfl) ?_
        refine lv_iload_n hx hb d_RW_kindMadeOf_37 rfl (lv_at hl 3 rfl) ?_
        refine rdV (G := G) (As := [.int kind, .int statement, .ref list, .int start]) (rest := []) (C := RRW) ⟨hx, hb, hml, hown, hts⟩ (c_RW_isMadeOf l G h0 ad σ kind statement list start _ _ x_list _ hv_list hx_list hP0 hσ0 _ rfl) (cwV 4 hts (gd_V ml_RW_103 im_RW_isMadeOf sl_RW_isMadeOf ini_RW k_RW_isMadeOf) rfl rmK_c rmK_s (by decide +kernel) ⟨Nat.le_of_ble_eq_true rfl, Nat.le_of_ble_eq_true rfl⟩) hK (pRW_recv hK hP0 hσ0) hS ⟨Nat.le_refl _, Nat.le_refl _⟩ rfl hl.1 (Nat.le_of_ble_eq_true rfl) d_RW_kindMadeOf_38 (fun locs hS => ?_)
        refine lv_if_eq (tgt := 47) hx hb d_RW_kindMadeOf_41 (by decide) (fun c20 => ?_) (fun c20 => ?_)
        · have hr0 := ai_pos c20 hr0
          refine lv_aload_n hx hb d_RW_kindMadeOf_47 rfl (lv_at hl 0 rfl) ?_
          refine va_get (D := G.1) (ci := 2) (v := .ref (ad 6)) (C := RRW) (T := TRW) (N := 9) hx hb hts inRW hown hK hP 0 rfl rfl 6 (by decide) (hts _ fl_RW_37) (fun _ h9 => h9) rfl d_RW_kindMadeOf_48 ?_
          refine lv_iload hx hb d_RW_kindMadeOf_51 (lv_at hl 4 rfl) ?_
          refine rdV (G := G) (As := [.int kind]) (rest := []) (C := RIL) ⟨hx, hb, hml, hown, hts⟩ (c_IL_at l G (ad 6) (gRW_olderKind σ) kind _ _ (bk_gP (k := 9) hP rfl) h14 _ rfl) (cwV 1 hts (gd_V ml_RW_61 im_IL_at sl_IL_at ini_IL k_IL_at) rfl rmK_c rmK_s (by decide +kernel) ⟨Nat.le_of_ble_eq_true rfl, Nat.le_of_ble_eq_true rfl⟩) hK (pIL_recv hK (bk_gP (k := 9) hP rfl) h14) hS ⟨Nat.le_refl _, Nat.le_refl _⟩ rfl hl.1 (Nat.le_of_ble_eq_true rfl) d_RW_kindMadeOf_53 (fun locs hS => ?_)
          refine lv_istore (lv' := [(4, .int (A_IL_at (gRW_olderKind σ) kind)), (0, .ref h0), (2, .ref list), (1, .int statement), (3, .int start), (5, .int seen)]) hx hb d_RW_kindMadeOf_56 hl (by decide) rfl (fun ls hl => ?_)
          refine lv_iinc (v := seen + 1) (lv' := [(5, .int (seen + 1)), (4, .int (A_IL_at (gRW_olderKind σ) kind)), (0, .ref h0), (2, .ref list), (1, .int statement), (3, .int start)]) hx hb d_RW_kindMadeOf_58 hl (k := 5) rfl rfl (by decide) rfl (fun ls hl => ?_)
          refine lv_goto (tgt := 17) hx hb d_RW_kindMadeOf_61 (by decide) ?_
          exact ih17 _ _ ⟨(A_IL_at (gRW_olderKind σ) kind), (seen + 1), hS, lv_sub hl [2, 3, 4, 5, 1, 0] rfl, hr0, up_dec c18 hm17⟩
        · have hr0 := ai_neg c20 hr0
          refine lv_iload hx hb d_RW_kindMadeOf_44 (lv_at hl 4 rfl) ?_
          exact W.iret (v := kind) hx hb hr (fun t ht hW => ⟨⟨kind, (), rfl, hr0, ht⟩, hS.F ht⟩) hS.2.2 d_RW_kindMadeOf_46
  · rintro locs ls ⟨_, _, -, -, -, hz⟩; exact Nat.not_lt_zero _ hz

def M_RW_countSteps_L5 (σ : tRW) (r : Int32) (sum : Int64) (k : Int32) : Nat := ((A_RW_amountOfParts σ r).toInt - k.toInt).toNat
def A_RW_countSteps_L5 (σ : tRW) (r : Int32) : Nat → Int64 → Int32 → Int64
  | 0, _, _ => 0
  | n5 + 1, sum, k => if (A_RW_amountOfParts σ r) ≤ k then sum else (A_RW_countSteps_L5 σ r n5 (if 1000000000000000001 < (sum + (A_RW_stepsInFull σ (A_RW_part σ r k))) then 1000000000000000001 else (sum + (A_RW_stepsInFull σ (A_RW_part σ r k)))) (k + 1))
def A_RW_countSteps (σ : tRW) (r : Int32) : Int64 := A_RW_countSteps_L5 σ r (M_RW_countSteps_L5 σ r 1 0 + 1) 1 0
set_option maxHeartbeats 4000000 in
set_option maxRecDepth 100000 in
theorem c_RW_countSteps (l : Launch) (G : pG) (h0 : Nat) (ad : Nat → Nat) (σ : tRW) (r : Int32) (H : Heap) (w : va_W) (hP0 : va_P G.1 vwCl w H) (hσ : pRW G h0 ad σ w) (res : Int64) (hr0 : A_RW_countSteps σ r = res) : MRl l y_RW_countSteps w_RW_countSteps 4 84 G [.ref h0, .int r] H res := by
  refine Met.ofW (cc := b_RW_countSteps) (maxL := 5) (ret := (some .long)) (by decide) rfl ?_
  intro p e s m args below meth c s₁ B hml hv
  obtain ⟨rfl, rfl, hK⟩ := hv
  have hx := B.exec
  have hb := B.bytes
  have hr := B.returns
  have hts0 := atoms_spec (ws := w_RW_countSteps) B.pre
  have hts := fun w (h : w ∈ lw_g) => hts0 w (List.mem_cons_of_mem _ h)
  have hown : s.vm.findClass RRW = some m.cls := findClass_of_methodNamed B.named
  have hlocks := B.notSynchronized
  have hσ0 := hσ
  obtain ⟨q15, q16, w1, w3, w5, w7, w9, w11, w13, rfl, h2, h4, h6, h8, h10, h12, h14, h17⟩ := hσ
  have hP := hP0
  obtain ⟨A, hAe⟩ : ∃ A : Nat → Prop, A = fun _ => False := ⟨_, rfl⟩
  rw [← hAe]
  have hS : va_S A s.heap s.heap [] := va_S.rf
  have hl := lv_entry ([.ref h0, .int r]) (n := 5) (Nat.le_of_ble_eq_true rfl)
  rw [lg_entry_eq]
  generalize (lg_sl ([.ref h0, .int r]) ++ List.replicate (5 - (lg_sl ([.ref h0, .int r])).length) Slot.unset).toArray = ls at hl ⊢
  have hl : lv_has ls 5 [(0, .ref h0), (1, .int r)] := hl
  unfold A_RW_countSteps at hr0
  refine lv_lconst (v := 1) hx hb d_RW_countSteps_0 (by decide) ?_
  refine lv_lstore_n (lv' := [(2, .long 1), (0, .ref h0), (1, .int r)]) hx hb d_RW_countSteps_1 rfl hl (by decide) rfl (fun ls hl => ?_)
  refine lv_iconst (v := 0) hx hb d_RW_countSteps_2 (by decide) ?_
  refine lv_istore (lv' := [(4, .int 0), (2, .long 1), (0, .ref h0), (1, .int r)]) hx hb d_RW_countSteps_3 hl (by decide) rfl (fun ls hl => ?_)
  refine lp_R (I := fun n5 locs ls => ∃ (sum : Int64) (k : Int32), va_S A s.heap s.heap locs ∧ lv_has ls 5 [(0, .ref h0), (1, .int r), (2, .long sum), (4, .int k)] ∧ A_RW_countSteps_L5 σ r n5 sum k = res ∧ M_RW_countSteps_L5 σ r sum k < n5) ?_ ?_ (M_RW_countSteps_L5 σ r 1 0 + 1) _ _ ⟨1, 0, hS, lv_sub hl [2, 3, 1, 0] rfl, hr0, Nat.lt_succ_self _⟩
  · intro n5 ih5 locs ls ⟨sum, k, hS, hl, hr0, hm5⟩
    rw [A_RW_countSteps_L5] at hr0
    refine lv_iload hx hb d_RW_countSteps_5 (lv_at hl 3 rfl) ?_
    refine lv_aload_n hx hb d_RW_countSteps_7 rfl (lv_at hl 0 rfl) ?_
    refine lv_iload_n hx hb d_RW_countSteps_8 rfl (lv_at hl 1 rfl) ?_
    refine rdV (G := G) (As := [.int r]) (rest := [.int k]) (C := RRW) ⟨hx, hb, hml, hown, hts⟩ (c_RW_amountOfParts l G h0 ad σ r _ _ hP0 hσ0 _ rfl) (cwV 1 hts (gd_V ml_RW_69 im_RW_amountOfParts sl_RW_amountOfParts ini_RW k_RW_amountOfParts) rfl rmK_c rmK_s (by decide +kernel) ⟨Nat.le_of_ble_eq_true rfl, Nat.le_of_ble_eq_true rfl⟩) hK (pRW_recv hK hP0 hσ0) hS ⟨Nat.le_refl _, Nat.le_refl _⟩ rfl hl.1 (Nat.le_of_ble_eq_true rfl) d_RW_countSteps_9 (fun locs hS => ?_)
    refine lv_icmp_ge (tgt := 41) hx hb d_RW_countSteps_12 (by decide) (fun c18 => ?_) (fun c18 => ?_)
    · have hr0 := ai_pos c18 hr0
      refine lv_lload_n hx hb d_RW_countSteps_41 rfl (lv_at hl 2 rfl) ?_
      exact W.lret (v := sum) hx hb hr (fun t ht hW => ⟨⟨sum, (), rfl, hr0, ht⟩, hS.F ht⟩) hS.2.2 d_RW_countSteps_42
    · have hr0 := ai_neg c18 hr0
      refine lv_lload_n hx hb d_RW_countSteps_15 rfl (lv_at hl 2 rfl) ?_
      refine lv_aload_n hx hb d_RW_countSteps_16 rfl (lv_at hl 0 rfl) ?_
      refine lv_aload_n hx hb d_RW_countSteps_17 rfl (lv_at hl 0 rfl) ?_
      refine lv_iload_n hx hb d_RW_countSteps_18 rfl (lv_at hl 1 rfl) ?_
      refine lv_iload hx hb d_RW_countSteps_19 (lv_at hl 3 rfl) ?_
      refine rdV (G := G) (As := [.int r, .int k]) (rest := [.ref h0, .long sum]) (C := RRW) ⟨hx, hb, hml, hown, hts⟩ (c_RW_part l G h0 ad σ r k _ _ hP0 hσ0 _ rfl) (cwV 2 hts (gd_V ml_RW_107 im_RW_part sl_RW_part ini_RW k_RW_part) rfl rmK_c rmK_s (by decide +kernel) ⟨Nat.le_of_ble_eq_true rfl, Nat.le_of_ble_eq_true rfl⟩) hK (pRW_recv hK hP0 hσ0) hS ⟨Nat.le_refl _, Nat.le_refl _⟩ rfl hl.1 (Nat.le_of_ble_eq_true rfl) d_RW_countSteps_21 (fun locs hS => ?_)
      refine rdVl (G := G) (As := [.int (A_RW_part σ r k)]) (rest := [.long sum]) (C := RRW) ⟨hx, hb, hml, hown, hts⟩ (c_RW_stepsInFull l G h0 ad σ (A_RW_part σ r k) _ _ hP0 hσ0 _ rfl) (cwV 1 hts (gd_V ml_RW_110 im_RW_stepsInFull sl_RW_stepsInFull ini_RW k_RW_stepsInFull) rfl rmK_c rmK_s (by decide +kernel) ⟨Nat.le_of_ble_eq_true rfl, Nat.le_of_ble_eq_true rfl⟩) hK (pRW_recv hK hP0 hσ0) hS ⟨Nat.le_refl _, Nat.le_refl _⟩ rfl hl.1 (Nat.le_of_ble_eq_true rfl) d_RW_countSteps_24 (fun locs hS => ?_)
      refine lv_ladd hx hb d_RW_countSteps_27 ?_
      refine lv_ldc2 (v := 1000000000000000001) hx hb hown (hts _ cl2_RW_113) d_RW_countSteps_28 ?_
      refine va_mmin_long hx hb (hml.trans hl.1.symm) hown (hts _ ml_RW_115) (hts _ sm_math_minJ) (hts _ ini_java_lang_Math) (hts _ k_math_minJ) (Nat.le_of_ble_eq_true rfl) (Nat.le_of_ble_eq_true rfl) (Nat.le_refl _) (Nat.le_refl _) d_RW_countSteps_31 ?_
      refine lv_lstore_n (lv' := [(2, .long (if 1000000000000000001 < (sum + (A_RW_stepsInFull σ (A_RW_part σ r k))) then 1000000000000000001 else (sum + (A_RW_stepsInFull σ (A_RW_part σ r k))))), (0, .ref h0), (1, .int r), (4, .int k)]) hx hb d_RW_countSteps_34 rfl hl (by decide) rfl (fun ls hl => ?_)
      refine lv_iinc (v := k + 1) (lv' := [(4, .int (k + 1)), (2, .long (if 1000000000000000001 < (sum + (A_RW_stepsInFull σ (A_RW_part σ r k))) then 1000000000000000001 else (sum + (A_RW_stepsInFull σ (A_RW_part σ r k))))), (0, .ref h0), (1, .int r)]) hx hb d_RW_countSteps_35 hl (k := 3) rfl rfl (by decide) rfl (fun ls hl => ?_)
      refine lv_goto (tgt := 5) hx hb d_RW_countSteps_38 (by decide) ?_
      exact ih5 _ _ ⟨(if 1000000000000000001 < (sum + (A_RW_stepsInFull σ (A_RW_part σ r k))) then 1000000000000000001 else (sum + (A_RW_stepsInFull σ (A_RW_part σ r k)))), (k + 1), hS, lv_sub hl [2, 3, 1, 0] rfl, hr0, up_dec c18 hm5⟩
  · rintro locs ls ⟨_, _, -, -, -, hz⟩; exact Nat.not_lt_zero _ hz
end
section
theorem ks_mul {r : Int32} (h : ¬ r < 0) : (2 : Int32) * r = nI (2 * r.toNatClampNeg) := by
  obtain ⟨j, hj, rfl⟩ := nI_of h
  rw [nI_clamp hj]
  exact pk_mul 2 j
theorem ks_b {r : Int32} {n : Nat} (h : ¬ r < 0) (c : ¬ r < nI n) (h1 : 1 ≤ n) (hn : n ≤ 16777216) : 1 ≤ r.toNatClampNeg ∧ n < 2 * r.toNatClampNeg := by
  obtain ⟨j, hj, rfl⟩ := nI_of h
  rw [nI_clamp hj]
  rcases Nat.lt_or_ge j n with h2 | h2
  · exfalso
    by_cases h3 : n < 2 ^ 31
    · exact c (nI_lt h2 h3)
    · exact absurd h3 (by omega)
  · omega
theorem bk_drop2 {D : va_G} {cl : List vw_C} {A : Nat → Prop} {b0 b1 : va_W} {x y : Nat × va_E} {bs : List va_W} {H : Heap} (h : bk D cl A (b0 :: b1 :: [x, y] :: bs) H) : bk D cl A (b0 :: b1 :: [y] :: bs) H := by
  obtain ⟨hP, hD⟩ := h
  rw [bk_mem] at hP
  rw [bk_nd] at hD
  refine ⟨bk_mem.mpr fun q hq => hP q ?_, bk_nd.mpr ⟨?_, fun q hq => hD.2 q ?_⟩⟩
  · simp only [List.flatten_cons, List.mem_append, List.mem_cons, List.not_mem_nil, or_false] at hq ⊢
    rcases hq with h | h | h | h
    · exact Or.inl h
    · exact Or.inr (Or.inl h)
    · exact Or.inr (Or.inr (Or.inl (Or.inr h)))
    · exact Or.inr (Or.inr (Or.inr h))
  · refine List.Nodup.sublist (List.Sublist.map _ ?_) hD.1
    simp only [List.flatten_cons]
    refine List.Sublist.append (List.Sublist.refl _) (List.Sublist.append (List.Sublist.refl _) (List.Sublist.append ?_ (List.Sublist.refl _)))
    exact List.Sublist.cons _ (List.Sublist.refl _)
  · simp only [List.flatten_cons, List.mem_append, List.mem_cons, List.not_mem_nil, or_false] at hq ⊢
    rcases hq with h | h | h | h
    · exact Or.inl h
    · exact Or.inr (Or.inl h)
    · exact Or.inr (Or.inr (Or.inl (Or.inr h)))
    · exact Or.inr (Or.inr (Or.inr h))
theorem ks_in1 {r : Int32} {n : Nat} (h : ¬ r < 0) (c : r < nI n) (h1 : n ≤ 16777216) : vp_in r n := by
  obtain ⟨j, hj, rfl⟩ := nI_of h
  exact vp_in_nI ((nI_ltI hj (by omega)).mp c) (by omega)
theorem ks_in2 {r : Int32} {n : Nat} (h : ¬ r < 0) (c : 1 ≤ r.toNatClampNeg ∧ n < 2 * r.toNatClampNeg) (hb : 2 * r.toNatClampNeg ≤ 16777216) : vp_in r (2 * r.toNatClampNeg) := by
  obtain ⟨j, hj, rfl⟩ := nI_of h
  rw [nI_clamp hj] at c hb ⊢
  exact vp_in_nI (by omega) (by omega)
theorem pIL_len {G : pG} {a : Nat} {x : tIL} {w : va_W} (h : pIL G a x w) : x.1.length ≤ 16777216 := by
  obtain ⟨q, f, -, hc, -⟩ := h
  omega

def A_RW_kindOfNewRow (σ : tRW) (r : Int32) (start : Int32) : Int32 × tRW := if (A_RW_kindMadeOf σ (gRW_partKinds σ) (A_RW_statementOf σ r) start) = (-1) then (A_RW_amountOfKinds σ, uRW_newestKind (uRW_olderKind (uRW_firstOfKind σ (A_IL_add (gRW_firstOfKind σ) r)) (A_IL_add (gRW_olderKind σ) ((gRW_newestKind σ) (A_RW_bucketOf σ (gRW_partKinds σ) (A_RW_statementOf σ r) start).toNatClampNeg))) (upd (gRW_newestKind σ) (A_RW_bucketOf σ (gRW_partKinds σ) (A_RW_statementOf σ r) start).toNatClampNeg (A_RW_amountOfKinds σ))) else (A_RW_kindMadeOf σ (gRW_partKinds σ) (A_RW_statementOf σ r) start, σ)
def K_RW_kindOfNewRow (σ : tRW) (r : Int32) (start : Int32) : Nat := if (A_RW_kindMadeOf σ (gRW_partKinds σ) (A_RW_statementOf σ r) start) = (-1) then ((K_IL_add (gRW_firstOfKind σ) r) + ((K_IL_add (gRW_olderKind σ) ((gRW_newestKind σ) (A_RW_bucketOf σ (gRW_partKinds σ) (A_RW_statementOf σ r) start).toNatClampNeg)) + 0)) else 0
set_option maxHeartbeats 4000000 in
set_option maxRecDepth 100000 in
theorem c_RW_kindOfNewRow (l : Launch) (G : pG) (h0 : Nat) (ad : Nat → Nat) (σ : tRW) (r : Int32) (start : Int32) (H : Heap) (w : va_W) (hP0 : va_P G.1 vwCl w H) (hD0 : va_D (fun _ => True) w) (hσ : pRW G h0 ad σ w) (res : Int32 × tRW) (hr0 : A_RW_kindOfNewRow σ r start = res) (Kt : Nat) (hk : K_RW_kindOfNewRow σ r start = Kt) (hKb : Kt ≤ 16777216) : MWi l y_RW_kindOfNewRow w_RW_kindOfNewRow 4 103 Kt G [.ref h0, .int r, .int start] H w res.1 (pRW G h0 ad res.2) := by
  refine Met.ofW (cc := b_RW_kindOfNewRow) (maxL := 6) (ret := (some .int)) (by decide) rfl ?_
  intro p e s m args below meth c s₁ B hml hv
  obtain ⟨rfl, rfl, hK⟩ := hv
  have hx := B.exec
  have hb := B.bytes
  have hr := B.returns
  have hts0 := atoms_spec (ws := w_RW_kindOfNewRow) B.pre
  have hts := fun w (h : w ∈ lw_g) => hts0 w (List.mem_cons_of_mem _ h)
  have hown : s.vm.findClass RRW = some m.cls := findClass_of_methodNamed B.named
  have hlocks := B.notSynchronized
  have hA : ∀ q : Nat, s.heap.size ≤ q → va_A w s.heap.size q := fun _ h => Or.inr h
  have hB : bk G.1 vwCl (va_A w s.heap.size) [w] s.heap := bk_init hP0 hD0
  generalize va_A w s.heap.size = A at *
  have hS : va_S A s.heap s.heap [] := va_S.rf
  obtain ⟨q15, q16, w1, w3, w5, w7, w9, w11, w13, rfl, h2, h4, h6, h8, h10, h12, h14, h17⟩ := hσ
  have hB := bk_many hB
  have hk : 0 + K_RW_kindOfNewRow σ r start = Kt := (Nat.zero_add _).trans hk
  have hl := lv_entry ([.ref h0, .int r, .int start]) (n := 6) (Nat.le_of_ble_eq_true rfl)
  rw [lg_entry_eq]
  generalize (lg_sl ([.ref h0, .int r, .int start]) ++ List.replicate (6 - (lg_sl ([.ref h0, .int r, .int start])).length) Slot.unset).toArray = ls at hl ⊢
  have hl : lv_has ls 6 [(0, .ref h0), (1, .int r), (2, .int start)] := hl
  unfold A_RW_kindOfNewRow at hr0
  unfold K_RW_kindOfNewRow at hk
  refine lv_aload_n hx hb d_RW_kindOfNewRow_0 rfl (lv_at hl 0 rfl) ?_
  refine lv_aload_n hx hb d_RW_kindOfNewRow_1 rfl (lv_at hl 0 rfl) ?_
  refine lv_iload_n hx hb d_RW_kindOfNewRow_2 rfl (lv_at hl 1 rfl) ?_
  have hpk18 : pRW G h0 ad σ ([[(h0, .inr (2, [.ref (ad 0), .ref (ad 1), .ref (ad 2), .ref (ad 3), .ref (ad 4), .ref (ad 5), .ref (ad 6), .ref q15, .ref q16]))], [(q15, .inl (G.2.1, 512, .inl (gRW_newestKind σ)))], [(q16, .inl (G.2.2.1, (gRW_steps σ).2, .inr (.inl (gRW_steps σ).1)))], w1, w3, w5, w7, w9, w11, w13].flatten) := ⟨q15, q16, w1, w3, w5, w7, w9, w11, w13, rfl, h2, h4, h6, h8, h10, h12, h14, h17⟩
  refine rdV (G := G) (As := [.int r]) (rest := [.ref h0]) (C := RRW) ⟨hx, hb, hml, hown, hts⟩ (c_RW_statementOf l G h0 ad σ r _ _ hB.1 hpk18 _ rfl) (cwV 1 hts (gd_V ml_RW_90 im_RW_statementOf sl_RW_statementOf ini_RW k_RW_statementOf) rfl rmK_c rmK_s (by decide +kernel) ⟨Nat.le_of_ble_eq_true rfl, Nat.le_of_ble_eq_true rfl⟩) hK (pRW_recv hK hB.1 hpk18) hS ⟨Nat.le.intro hk, Nat.le.intro hk⟩ rfl hl.1 (Nat.le_of_ble_eq_true rfl) d_RW_kindOfNewRow_3 (fun locs hS => ?_)
  refine lv_aload_n hx hb d_RW_kindOfNewRow_6 rfl (lv_at hl 0 rfl) ?_
  refine va_get (D := G.1) (ci := 2) (v := .ref (ad 3)) (C := RRW) (T := TRW) (N := 9) hx hb hts inRW hown hK hB.1 0 rfl rfl 3 (by decide) (hts _ fl_RW_28) (fun _ h9 => h9) rfl d_RW_kindOfNewRow_7 ?_
  refine lv_iload_n hx hb d_RW_kindOfNewRow_10 rfl (lv_at hl 2 rfl) ?_
  have hpk19 : pRW G h0 ad σ ([[(h0, .inr (2, [.ref (ad 0), .ref (ad 1), .ref (ad 2), .ref (ad 3), .ref (ad 4), .ref (ad 5), .ref (ad 6), .ref q15, .ref q16]))], [(q15, .inl (G.2.1, 512, .inl (gRW_newestKind σ)))], [(q16, .inl (G.2.2.1, (gRW_steps σ).2, .inr (.inl (gRW_steps σ).1)))], w1, w3, w5, w7, w9, w11, w13].flatten) := ⟨q15, q16, w1, w3, w5, w7, w9, w11, w13, rfl, h2, h4, h6, h8, h10, h12, h14, h17⟩
  refine rdV (G := G) (As := [.int (A_RW_statementOf σ r), .ref (ad 3), .int start]) (rest := []) (C := RRW) ⟨hx, hb, hml, hown, hts⟩ (c_RW_kindMadeOf l G h0 ad σ (A_RW_statementOf σ r) (ad 3) start _ _ (gRW_partKinds σ) _ (bk_gP (k := 6) hB.1 rfl) h8 hB.1 hpk19 _ rfl) (cwV 3 hts (gd_V ml_RW_93 im_RW_kindMadeOf sl_RW_kindMadeOf ini_RW k_RW_kindMadeOf) rfl rmK_c rmK_s (by decide +kernel) ⟨Nat.le_of_ble_eq_true rfl, Nat.le_of_ble_eq_true rfl⟩) hK (pRW_recv hK hB.1 hpk19) hS ⟨Nat.le.intro hk, Nat.le.intro hk⟩ rfl hl.1 (Nat.le_of_ble_eq_true rfl) d_RW_kindOfNewRow_11 (fun locs hS => ?_)
  refine lv_istore_n (lv' := [(3, .int (A_RW_kindMadeOf σ (gRW_partKinds σ) (A_RW_statementOf σ r) start)), (0, .ref h0), (1, .int r), (2, .int start)]) hx hb d_RW_kindOfNewRow_14 rfl hl (by decide) rfl (fun ls hl => ?_)
  refine lv_iload_n hx hb d_RW_kindOfNewRow_15 rfl (lv_at hl 0 rfl) ?_
  refine lv_iconst (v := (-1)) hx hb d_RW_kindOfNewRow_16 (by decide) ?_
  refine lv_icmp_eq (tgt := 22) hx hb d_RW_kindOfNewRow_17 (by decide) (fun c20 => ?_) (fun c20 => ?_)
  · have hr0 := ai_pos c20 hr0
    have hk := ki_pos c20 hk
    refine lv_aload_n hx hb d_RW_kindOfNewRow_22 rfl (lv_at hl 1 rfl) ?_
    have hpk21 : pRW G h0 ad σ ([[(h0, .inr (2, [.ref (ad 0), .ref (ad 1), .ref (ad 2), .ref (ad 3), .ref (ad 4), .ref (ad 5), .ref (ad 6), .ref q15, .ref q16]))], [(q15, .inl (G.2.1, 512, .inl (gRW_newestKind σ)))], [(q16, .inl (G.2.2.1, (gRW_steps σ).2, .inr (.inl (gRW_steps σ).1)))], w1, w3, w5, w7, w9, w11, w13].flatten) := ⟨q15, q16, w1, w3, w5, w7, w9, w11, w13, rfl, h2, h4, h6, h8, h10, h12, h14, h17⟩
    refine rdV (G := G) (As := []) (rest := []) (C := RRW) ⟨hx, hb, hml, hown, hts⟩ (c_RW_amountOfKinds l G h0 ad σ _ _ hB.1 hpk21 _ rfl) (cwV 0 hts (gd_V ml_RW_97 im_RW_amountOfKinds sl_RW_amountOfKinds ini_RW k_RW_amountOfKinds) rfl rmK_c rmK_s (by decide +kernel) ⟨Nat.le_of_ble_eq_true rfl, Nat.le_of_ble_eq_true rfl⟩) hK (pRW_recv hK hB.1 hpk21) hS ⟨Nat.le.intro hk, Nat.le.intro hk⟩ rfl hl.1 (Nat.le_of_ble_eq_true rfl) d_RW_kindOfNewRow_23 (fun locs hS => ?_)
    refine lv_istore (lv' := [(4, .int (A_RW_amountOfKinds σ)), (3, .int (A_RW_kindMadeOf σ (gRW_partKinds σ) (A_RW_statementOf σ r) start)), (0, .ref h0), (1, .int r), (2, .int start)]) hx hb d_RW_kindOfNewRow_26 hl (by decide) rfl (fun ls hl => ?_)
    refine lv_aload_n hx hb d_RW_kindOfNewRow_28 rfl (lv_at hl 2 rfl) ?_
    refine lv_aload_n hx hb d_RW_kindOfNewRow_29 rfl (lv_at hl 2 rfl) ?_
    refine lv_iload_n hx hb d_RW_kindOfNewRow_30 rfl (lv_at hl 3 rfl) ?_
    have hpk22 : pRW G h0 ad σ ([[(h0, .inr (2, [.ref (ad 0), .ref (ad 1), .ref (ad 2), .ref (ad 3), .ref (ad 4), .ref (ad 5), .ref (ad 6), .ref q15, .ref q16]))], [(q15, .inl (G.2.1, 512, .inl (gRW_newestKind σ)))], [(q16, .inl (G.2.2.1, (gRW_steps σ).2, .inr (.inl (gRW_steps σ).1)))], w1, w3, w5, w7, w9, w11, w13].flatten) := ⟨q15, q16, w1, w3, w5, w7, w9, w11, w13, rfl, h2, h4, h6, h8, h10, h12, h14, h17⟩
    refine rdV (G := G) (As := [.int r]) (rest := [.ref h0]) (C := RRW) ⟨hx, hb, hml, hown, hts⟩ (c_RW_statementOf l G h0 ad σ r _ _ hB.1 hpk22 _ rfl) (cwV 1 hts (gd_V ml_RW_90 im_RW_statementOf sl_RW_statementOf ini_RW k_RW_statementOf) rfl rmK_c rmK_s (by decide +kernel) ⟨Nat.le_of_ble_eq_true rfl, Nat.le_of_ble_eq_true rfl⟩) hK (pRW_recv hK hB.1 hpk22) hS ⟨Nat.le.intro hk, Nat.le.intro hk⟩ rfl hl.1 (Nat.le_of_ble_eq_true rfl) d_RW_kindOfNewRow_31 (fun locs hS => ?_)
    refine lv_aload_n hx hb d_RW_kindOfNewRow_34 rfl (lv_at hl 2 rfl) ?_
    refine va_get (D := G.1) (ci := 2) (v := .ref (ad 3)) (C := RRW) (T := TRW) (N := 9) hx hb hts inRW hown hK hB.1 0 rfl rfl 3 (by decide) (hts _ fl_RW_28) (fun _ h9 => h9) rfl d_RW_kindOfNewRow_35 ?_
    refine lv_iload_n hx hb d_RW_kindOfNewRow_38 rfl (lv_at hl 4 rfl) ?_
    have hpk23 : pRW G h0 ad σ ([[(h0, .inr (2, [.ref (ad 0), .ref (ad 1), .ref (ad 2), .ref (ad 3), .ref (ad 4), .ref (ad 5), .ref (ad 6), .ref q15, .ref q16]))], [(q15, .inl (G.2.1, 512, .inl (gRW_newestKind σ)))], [(q16, .inl (G.2.2.1, (gRW_steps σ).2, .inr (.inl (gRW_steps σ).1)))], w1, w3, w5, w7, w9, w11, w13].flatten) := ⟨q15, q16, w1, w3, w5, w7, w9, w11, w13, rfl, h2, h4, h6, h8, h10, h12, h14, h17⟩
    refine rdV (G := G) (As := [.int (A_RW_statementOf σ r), .ref (ad 3), .int start]) (rest := []) (C := RRW) ⟨hx, hb, hml, hown, hts⟩ (c_RW_bucketOf l G h0 ad σ (A_RW_statementOf σ r) (ad 3) start _ _ (gRW_partKinds σ) _ (bk_gP (k := 6) hB.1 rfl) h8 hB.1 hpk23 _ rfl) (cwV 3 hts (gd_V ml_RW_100 im_RW_bucketOf sl_RW_bucketOf ini_RW k_RW_bucketOf) rfl rmK_c rmK_s (by decide +kernel) ⟨Nat.le_of_ble_eq_true rfl, Nat.le_of_ble_eq_true rfl⟩) hK (pRW_recv hK hB.1 hpk23) hS ⟨Nat.le.intro hk, Nat.le.intro hk⟩ rfl hl.1 (Nat.le_of_ble_eq_true rfl) d_RW_kindOfNewRow_39 (fun locs hS => ?_)
    refine lv_istore (lv' := [(5, .int (A_RW_bucketOf σ (gRW_partKinds σ) (A_RW_statementOf σ r) start)), (4, .int (A_RW_amountOfKinds σ)), (3, .int (A_RW_kindMadeOf σ (gRW_partKinds σ) (A_RW_statementOf σ r) start)), (0, .ref h0), (1, .int r), (2, .int start)]) hx hb d_RW_kindOfNewRow_42 hl (by decide) rfl (fun ls hl => ?_)
    refine lv_aload_n hx hb d_RW_kindOfNewRow_44 rfl (lv_at hl 3 rfl) ?_
    refine va_get (D := G.1) (ci := 2) (v := .ref (ad 5)) (C := RRW) (T := TRW) (N := 9) hx hb hts inRW hown hK hB.1 0 rfl rfl 5 (by decide) (hts _ fl_RW_34) (fun _ h9 => h9) rfl d_RW_kindOfNewRow_45 ?_
    refine lv_iload_n hx hb d_RW_kindOfNewRow_48 rfl (lv_at hl 4 rfl) ?_
    refine wrV (G := G) (k := 8) (As := [.int r]) (rest := []) (C := RIL) ⟨hx, hb, hml, hown, hts⟩ (c_IL_add l G (ad 5) (gRW_firstOfKind σ) r _ _ (bk_gP (k := 8) hB.1 rfl) (bk_own (k := 8) hB rfl) h12 _ rfl _ rfl (bk_ub hk hKb)) (cwV 1 hts (gd_V ml_RW_21 im_IL_add sl_IL_add ini_IL k_IL_add) rfl rmK_c rmK_s (by decide +kernel) ⟨Nat.le_of_ble_eq_true rfl, Nat.le_of_ble_eq_true rfl⟩) hK (pIL_recv hK (bk_gP (k := 8) hB.1 rfl) h12) hS hA hB rfl hk ⟨rfl, rfl⟩ rfl hl.1 (Nat.le_of_ble_eq_true rfl) d_RW_kindOfNewRow_49 (fun u24 H locs kc hu25 hB hS hk => ?_)
    have hB : bk G.1 vwCl A [[(h0, .inr (2, [.ref (ad 0), .ref (ad 1), .ref (ad 2), .ref (ad 3), .ref (ad 4), .ref (ad 5), .ref (ad 6), .ref q15, .ref q16]))], [(q15, .inl (G.2.1, 512, .inl (gRW_newestKind σ)))], [(q16, .inl (G.2.2.1, (gRW_steps σ).2, .inr (.inl (gRW_steps σ).1)))], w1, w3, w5, w7, w9, u24, w13] H := hB
    refine lv_aload_n hx hb d_RW_kindOfNewRow_52 rfl (lv_at hl 3 rfl) ?_
    refine va_get (D := G.1) (ci := 2) (v := .ref (ad 6)) (C := RRW) (T := TRW) (N := 9) hx hb hts inRW hown hK hB.1 0 rfl rfl 6 (by decide) (hts _ fl_RW_37) (fun _ h9 => h9) rfl d_RW_kindOfNewRow_53 ?_
    refine lv_aload_n hx hb d_RW_kindOfNewRow_56 rfl (lv_at hl 3 rfl) ?_
    refine va_get (D := G.1) (ci := 2) (v := .ref q15) (C := RRW) (T := TRW) (N := 9) hx hb hts inRW hown hK hB.1 0 rfl rfl 7 (by decide) (hts _ fl_RW_40) (fun _ h9 => h9) rfl d_RW_kindOfNewRow_57 ?_
    refine lv_iload hx hb d_RW_kindOfNewRow_60 (lv_at hl 0 rfl) ?_
    refine va_iald hx hb hK hB.1 1 0 rfl rfl (bo_in _ _ _ _) d_RW_kindOfNewRow_62 ?_
    refine wrV (G := G) (k := 9) (As := [.int ((gRW_newestKind σ) (A_RW_bucketOf σ (gRW_partKinds σ) (A_RW_statementOf σ r) start).toNatClampNeg)]) (rest := []) (C := RIL) ⟨hx, hb, hml, hown, hts⟩ (c_IL_add l G (ad 6) (gRW_olderKind σ) ((gRW_newestKind σ) (A_RW_bucketOf σ (gRW_partKinds σ) (A_RW_statementOf σ r) start).toNatClampNeg) _ _ (bk_gP (k := 9) hB.1 rfl) (bk_own (k := 9) hB rfl) h14 _ rfl _ rfl (bk_ub hk hKb)) (cwV 1 hts (gd_V ml_RW_21 im_IL_add sl_IL_add ini_IL k_IL_add) rfl rmK_c rmK_s (by decide +kernel) ⟨Nat.le_of_ble_eq_true rfl, Nat.le_of_ble_eq_true rfl⟩) hK (pIL_recv hK (bk_gP (k := 9) hB.1 rfl) h14) hS hA hB rfl hk ⟨rfl, rfl⟩ rfl hl.1 (Nat.le_of_ble_eq_true rfl) d_RW_kindOfNewRow_63 (fun u26 H locs kc hu27 hB hS hk => ?_)
    have hB : bk G.1 vwCl A [[(h0, .inr (2, [.ref (ad 0), .ref (ad 1), .ref (ad 2), .ref (ad 3), .ref (ad 4), .ref (ad 5), .ref (ad 6), .ref q15, .ref q16]))], [(q15, .inl (G.2.1, 512, .inl (gRW_newestKind σ)))], [(q16, .inl (G.2.2.1, (gRW_steps σ).2, .inr (.inl (gRW_steps σ).1)))], w1, w3, w5, w7, w9, u24, u26] H := hB
    refine lv_aload_n hx hb d_RW_kindOfNewRow_66 rfl (lv_at hl 3 rfl) ?_
    refine va_get (D := G.1) (ci := 2) (v := .ref q15) (C := RRW) (T := TRW) (N := 9) hx hb hts inRW hown hK hB.1 0 rfl rfl 7 (by decide) (hts _ fl_RW_40) (fun _ h9 => h9) rfl d_RW_kindOfNewRow_67 ?_
    refine lv_iload hx hb d_RW_kindOfNewRow_70 (lv_at hl 0 rfl) ?_
    refine lv_iload hx hb d_RW_kindOfNewRow_72 (lv_at hl 1 rfl) ?_
    refine va_iast hx hb hK hB.1 hB.2 hS 1 0 rfl rfl (bo_in _ _ _ _) d_RW_kindOfNewRow_74 (fun H locs hP hD hS => ?_)
    have hB : bk G.1 vwCl A [[(h0, .inr (2, [.ref (ad 0), .ref (ad 1), .ref (ad 2), .ref (ad 3), .ref (ad 4), .ref (ad 5), .ref (ad 6), .ref q15, .ref q16]))], [(q15, .inl (G.2.1, 512, .inl (upd (gRW_newestKind σ) (A_RW_bucketOf σ (gRW_partKinds σ) (A_RW_statementOf σ r) start).toNatClampNeg (A_RW_amountOfKinds σ))))], [(q16, .inl (G.2.2.1, (gRW_steps σ).2, .inr (.inl (gRW_steps σ).1)))], w1, w3, w5, w7, w9, u24, u26] H := ⟨hP, hD⟩
    refine lv_iload hx hb d_RW_kindOfNewRow_75 (lv_at hl 1 rfl) ?_
    subst hr0
    refine W.widen (k := Kt) (n := Kt) (Nat.le.intro hk) (Nat.le.intro hk) ?_
    exact W.iret (v := (A_RW_amountOfKinds σ)) hx hb hr (fun t ht hW => ⟨⟨(A_RW_amountOfKinds σ), [[(h0, .inr (2, [.ref (ad 0), .ref (ad 1), .ref (ad 2), .ref (ad 3), .ref (ad 4), .ref (ad 5), .ref (ad 6), .ref q15, .ref q16]))], [(q15, .inl (G.2.1, 512, .inl (upd (gRW_newestKind σ) (A_RW_bucketOf σ (gRW_partKinds σ) (A_RW_statementOf σ r) start).toNatClampNeg (A_RW_amountOfKinds σ))))], [(q16, .inl (G.2.2.1, (gRW_steps σ).2, .inr (.inl (gRW_steps σ).1)))], w1, w3, w5, w7, w9, u24, u26].flatten, rfl, ⟨rfl, ⟨q15, q16, w1, w3, w5, w7, w9, u24, u26, rfl, h2, h4, h6, h8, h10, hu25, hu27, h17⟩⟩, by rw [ht]; exact hB.1, hB.2⟩, hS.F ht⟩) hS.2.2 d_RW_kindOfNewRow_77
  · have hr0 := ai_neg c20 hr0
    have hk := ki_neg c20 hk
    refine lv_iload_n hx hb d_RW_kindOfNewRow_20 rfl (lv_at hl 0 rfl) ?_
    subst hr0
    refine W.widen (k := Kt) (n := Kt) (Nat.le.intro hk) (Nat.le.intro hk) ?_
    exact W.iret (v := (A_RW_kindMadeOf σ (gRW_partKinds σ) (A_RW_statementOf σ r) start)) hx hb hr (fun t ht hW => ⟨⟨(A_RW_kindMadeOf σ (gRW_partKinds σ) (A_RW_statementOf σ r) start), [[(h0, .inr (2, [.ref (ad 0), .ref (ad 1), .ref (ad 2), .ref (ad 3), .ref (ad 4), .ref (ad 5), .ref (ad 6), .ref q15, .ref q16]))], [(q15, .inl (G.2.1, 512, .inl (gRW_newestKind σ)))], [(q16, .inl (G.2.2.1, (gRW_steps σ).2, .inr (.inl (gRW_steps σ).1)))], w1, w3, w5, w7, w9, w11, w13].flatten, rfl, ⟨rfl, ⟨q15, q16, w1, w3, w5, w7, w9, w11, w13, rfl, h2, h4, h6, h8, h10, h12, h14, h17⟩⟩, by rw [ht]; exact hB.1, hB.2⟩, hS.F ht⟩) hS.2.2 d_RW_kindOfNewRow_21

def A_RW_keepSteps (σ : tRW) (r : Int32) (a : Int64) : tRW := if r < (nI (gRW_steps σ).2) then (uRW_steps σ (vp_updL (gRW_steps σ).1 r.toNatClampNeg a, (gRW_steps σ).2)) else (uRW_steps (uRW_steps σ (va_cpy (gRW_steps σ).1 (fun _ => 0) 0 0 (gRW_steps σ).2, 2 * r.toNatClampNeg)) (vp_updL (va_cpy (gRW_steps σ).1 (fun _ => 0) 0 0 (gRW_steps σ).2, 2 * r.toNatClampNeg).1 r.toNatClampNeg a, (va_cpy (gRW_steps σ).1 (fun _ => 0) 0 0 (gRW_steps σ).2, 2 * r.toNatClampNeg).2))
def K_RW_keepSteps (σ : tRW) (r : Int32) (a : Int64) : Nat := if r < (nI (gRW_steps σ).2) then 0 else ((2 * r.toNatClampNeg) + 0)
set_option maxHeartbeats 4000000 in
set_option maxRecDepth 100000 in
theorem c_RW_keepSteps (l : Launch) (G : pG) (h0 : Nat) (ad : Nat → Nat) (σ : tRW) (r : Int32) (a : Int64) (H : Heap) (w : va_W) (hP0 : va_P G.1 vwCl w H) (hD0 : va_D (fun _ => True) w) (hσ : pRW G h0 ad σ w) (res : tRW) (hr0 : A_RW_keepSteps σ r a = res) (Kt : Nat) (hk : K_RW_keepSteps σ r a = Kt) (hKb : Kt ≤ 16777216) (hr9 : ¬ r < 0) : MWv l y_RW_keepSteps w_RW_keepSteps 2 82 Kt G [.ref h0, .int r, .long a] H w (pRW G h0 ad res) := by
  refine Met.ofW (cc := b_RW_keepSteps) (maxL := 4) (ret := none) (by decide) rfl ?_
  intro p e s m args below meth c s₁ B hml hv
  obtain ⟨rfl, rfl, hK⟩ := hv
  have hx := B.exec
  have hb := B.bytes
  have hr := B.returns
  have hts0 := atoms_spec (ws := w_RW_keepSteps) B.pre
  have hts := fun w (h : w ∈ lw_g) => hts0 w (List.mem_cons_of_mem _ h)
  have hown : s.vm.findClass RRW = some m.cls := findClass_of_methodNamed B.named
  have hlocks := B.notSynchronized
  have hA : ∀ q : Nat, s.heap.size ≤ q → va_A w s.heap.size q := fun _ h => Or.inr h
  have hB : bk G.1 vwCl (va_A w s.heap.size) [w] s.heap := bk_init hP0 hD0
  generalize va_A w s.heap.size = A at *
  have hS : va_S A s.heap s.heap [] := va_S.rf
  obtain ⟨q15, q16, w1, w3, w5, w7, w9, w11, w13, rfl, h2, h4, h6, h8, h10, h12, h14, h17⟩ := hσ
  have hB := bk_many hB
  have hk : 0 + K_RW_keepSteps σ r a = Kt := (Nat.zero_add _).trans hk
  have hl := lv_entry ([.ref h0, .int r, .long a]) (n := 4) (Nat.le_of_ble_eq_true rfl)
  rw [lg_entry_eq]
  generalize (lg_sl ([.ref h0, .int r, .long a]) ++ List.replicate (4 - (lg_sl ([.ref h0, .int r, .long a])).length) Slot.unset).toArray = ls at hl ⊢
  have hl : lv_has ls 4 [(0, .ref h0), (1, .int r), (2, .long a)] := hl
  unfold A_RW_keepSteps at hr0
  unfold K_RW_keepSteps at hk
  refine lv_iload_n hx hb d_RW_keepSteps_0 rfl (lv_at hl 1 rfl) ?_
  refine lv_aload_n hx hb d_RW_keepSteps_1 rfl (lv_at hl 0 rfl) ?_
  refine va_get (D := G.1) (ci := 2) (v := .ref q16) (C := RRW) (T := TRW) (N := 9) hx hb hts inRW hown hK hB.1 0 rfl rfl 8 (by decide) (hts _ fl_RW_50) (fun _ h9 => h9) rfl d_RW_keepSteps_2 ?_
  refine va_alen (v := nI (gRW_steps σ).2) hx hb hK hB.1 2 1 rfl rfl rfl d_RW_keepSteps_5 ?_
  refine lv_icmp_lt (tgt := 23) hx hb d_RW_keepSteps_6 (by decide) (fun c18 => ?_) (fun c18 => ?_)
  · have hr0 := ai_pos c18 hr0
    have hk := ki_pos c18 hk
    refine lv_aload_n hx hb d_RW_keepSteps_23 rfl (lv_at hl 0 rfl) ?_
    refine va_get (D := G.1) (ci := 2) (v := .ref q16) (C := RRW) (T := TRW) (N := 9) hx hb hts inRW hown hK hB.1 0 rfl rfl 8 (by decide) (hts _ fl_RW_50) (fun _ h9 => h9) rfl d_RW_keepSteps_24 ?_
    refine lv_iload_n hx hb d_RW_keepSteps_27 rfl (lv_at hl 1 rfl) ?_
    refine lv_lload_n hx hb d_RW_keepSteps_28 rfl (lv_at hl 2 rfl) ?_
    refine va_last hx hb hK hB.1 hB.2 hS 2 1 rfl rfl (ks_in1 hr9 c18 h17.2) d_RW_keepSteps_29 (fun H locs hP hD hS => ?_)
    have hB : bk G.1 vwCl A [[(h0, .inr (2, [.ref (ad 0), .ref (ad 1), .ref (ad 2), .ref (ad 3), .ref (ad 4), .ref (ad 5), .ref (ad 6), .ref q15, .ref q16]))], [(q15, .inl (G.2.1, 512, .inl (gRW_newestKind σ)))], [(q16, .inl (G.2.2.1, (vp_updL (gRW_steps σ).1 r.toNatClampNeg a, (gRW_steps σ).2).2, .inr (.inl (vp_updL (gRW_steps σ).1 r.toNatClampNeg a, (gRW_steps σ).2).1)))], w1, w3, w5, w7, w9, w11, w13] H := ⟨hP, hD⟩
    subst hr0
    refine W.widen (k := Kt) (n := Kt) (Nat.le.intro hk) (Nat.le.intro hk) ?_
    exact W.vret hx hb hr (fun t ht hW => ⟨⟨[[(h0, .inr (2, [.ref (ad 0), .ref (ad 1), .ref (ad 2), .ref (ad 3), .ref (ad 4), .ref (ad 5), .ref (ad 6), .ref q15, .ref q16]))], [(q15, .inl (G.2.1, 512, .inl (gRW_newestKind σ)))], [(q16, .inl (G.2.2.1, (vp_updL (gRW_steps σ).1 r.toNatClampNeg a, (gRW_steps σ).2).2, .inr (.inl (vp_updL (gRW_steps σ).1 r.toNatClampNeg a, (gRW_steps σ).2).1)))], w1, w3, w5, w7, w9, w11, w13].flatten, rfl, ⟨q15, q16, w1, w3, w5, w7, w9, w11, w13, rfl, h2, h4, h6, h8, h10, h12, h14, h17⟩, by rw [ht]; exact hB.1, hB.2⟩, hS.F ht⟩) hS.2.2 d_RW_keepSteps_30
  · have hr0 := ai_neg c18 hr0
    have hk := ki_neg c18 hk
    refine lv_aload_n hx hb d_RW_keepSteps_9 rfl (lv_at hl 0 rfl) ?_
    refine lv_aload_n hx hb d_RW_keepSteps_10 rfl (lv_at hl 0 rfl) ?_
    refine va_get (D := G.1) (ci := 2) (v := .ref q16) (C := RRW) (T := TRW) (N := 9) hx hb hts inRW hown hK hB.1 0 rfl rfl 8 (by decide) (hts _ fl_RW_50) (fun _ h9 => h9) rfl d_RW_keepSteps_11 ?_
    refine lv_iconst (v := 2) hx hb d_RW_keepSteps_14 (by decide) ?_
    refine lv_iload_n hx hb d_RW_keepSteps_15 rfl (lv_at hl 1 rfl) ?_
    refine lv_imul hx hb d_RW_keepSteps_16 ?_
    rw [show 2 * r = nI (2 * r.toNatClampNeg) from ks_mul hr9]
    have hbN := ks_b hr9 c18 h17.1 h17.2
    refine wrSr (G := G) (k := 2) (As := [.ref q16, .int (nI (2 * r.toNatClampNeg))]) (rest := [.ref h0]) ⟨hx, hb, hml, hown, hts⟩ (c_AR_copyJ l G q16 (gRW_steps σ).2 (2 * r.toNatClampNeg) (gRW_steps σ).1 _ _ (bk_gP (k := 2) hB.1 rfl) (bk_own (k := 2) hB rfl) rfl hbN.2 (by have := bk_ub hk hKb; omega)) (va_cwS 2 hts (gd_S ml_RW_121 sm_AR_copyJ ini_AR k_AR_copyJ) rfl rfl rfl (by decide +kernel) ⟨Nat.le_of_ble_eq_true rfl, Nat.le_of_ble_eq_true rfl⟩) hK hS hA hB rfl hk ⟨rfl, rfl⟩ rfl hl.1 (Nat.le_of_ble_eq_true rfl) d_RW_keepSteps_17 (fun ra u H locs kc hu hB hS hk2 => ?_)
    have hbM := bk_ub hk hKb
    have hk := hk2
    subst hu
    have hB : bk G.1 vwCl A [[(h0, .inr (2, [.ref (ad 0), .ref (ad 1), .ref (ad 2), .ref (ad 3), .ref (ad 4), .ref (ad 5), .ref (ad 6), .ref q15, .ref q16]))], [(q15, .inl (G.2.1, 512, .inl (gRW_newestKind σ)))], [(q16, .inl (G.2.2.1, (gRW_steps σ).2, .inr (.inl (gRW_steps σ).1))), (ra, .inl (G.2.2.1, 2 * r.toNatClampNeg, .inr (.inl (va_cpy (gRW_steps σ).1 (fun _ => 0) 0 0 (gRW_steps σ).2))))], w1, w3, w5, w7, w9, w11, w13] H := hB
    refine va_put (D := G.1) (ci := 2) (v := .ref ra) (ty := .array .long) (C := RRW) (T := TRW) (N := 9) hx hb hts inRW tyRW tokRW nmRW hown hK hB.1 hB.2 hS 0 rfl rfl 8 (by decide) (hts _ fl_RW_50) (fun _ h9 => h9) rfl (by decide +kernel) rfl rfl (Nat.le_of_ble_eq_true rfl) d_RW_keepSteps_20 (fun H locs hP hD hS => ?_)
    have hB : bk G.1 vwCl A [[(h0, .inr (2, [.ref (ad 0), .ref (ad 1), .ref (ad 2), .ref (ad 3), .ref (ad 4), .ref (ad 5), .ref (ad 6), .ref q15, .ref ra]))], [(q15, .inl (G.2.1, 512, .inl (gRW_newestKind σ)))], [(q16, .inl (G.2.2.1, (gRW_steps σ).2, .inr (.inl (gRW_steps σ).1))), (ra, .inl (G.2.2.1, (va_cpy (gRW_steps σ).1 (fun _ => 0) 0 0 (gRW_steps σ).2, 2 * r.toNatClampNeg).2, .inr (.inl (va_cpy (gRW_steps σ).1 (fun _ => 0) 0 0 (gRW_steps σ).2, 2 * r.toNatClampNeg).1)))], w1, w3, w5, w7, w9, w11, w13] H := ⟨hP, hD⟩
    have hB : bk G.1 vwCl A [[(h0, .inr (2, [.ref (ad 0), .ref (ad 1), .ref (ad 2), .ref (ad 3), .ref (ad 4), .ref (ad 5), .ref (ad 6), .ref q15, .ref ra]))], [(q15, .inl (G.2.1, 512, .inl (gRW_newestKind σ)))], [(ra, .inl (G.2.2.1, (va_cpy (gRW_steps σ).1 (fun _ => 0) 0 0 (gRW_steps σ).2, 2 * r.toNatClampNeg).2, .inr (.inl (va_cpy (gRW_steps σ).1 (fun _ => 0) 0 0 (gRW_steps σ).2, 2 * r.toNatClampNeg).1)))], w1, w3, w5, w7, w9, w11, w13] H := bk_drop2 hB
    have h19 : 1 ≤ (va_cpy (gRW_steps σ).1 (fun _ => 0) 0 0 (gRW_steps σ).2, 2 * r.toNatClampNeg).2 ∧ (va_cpy (gRW_steps σ).1 (fun _ => 0) 0 0 (gRW_steps σ).2, 2 * r.toNatClampNeg).2 ≤ 16777216 := ⟨by have := hbN.1; simp only []; omega, hbM⟩
    refine lv_aload_n hx hb d_RW_keepSteps_23 rfl (lv_at hl 0 rfl) ?_
    refine va_get (D := G.1) (ci := 2) (v := .ref ra) (C := RRW) (T := TRW) (N := 9) hx hb hts inRW hown hK hB.1 0 rfl rfl 8 (by decide) (hts _ fl_RW_50) (fun _ h9 => h9) rfl d_RW_keepSteps_24 ?_
    refine lv_iload_n hx hb d_RW_keepSteps_27 rfl (lv_at hl 1 rfl) ?_
    refine lv_lload_n hx hb d_RW_keepSteps_28 rfl (lv_at hl 2 rfl) ?_
    refine va_last hx hb hK hB.1 hB.2 hS 2 1 rfl rfl (ks_in2 hr9 hbN hbM) d_RW_keepSteps_29 (fun H locs hP hD hS => ?_)
    have hB : bk G.1 vwCl A [[(h0, .inr (2, [.ref (ad 0), .ref (ad 1), .ref (ad 2), .ref (ad 3), .ref (ad 4), .ref (ad 5), .ref (ad 6), .ref q15, .ref ra]))], [(q15, .inl (G.2.1, 512, .inl (gRW_newestKind σ)))], [(ra, .inl (G.2.2.1, (vp_updL (va_cpy (gRW_steps σ).1 (fun _ => 0) 0 0 (gRW_steps σ).2, 2 * r.toNatClampNeg).1 r.toNatClampNeg a, (va_cpy (gRW_steps σ).1 (fun _ => 0) 0 0 (gRW_steps σ).2, 2 * r.toNatClampNeg).2).2, .inr (.inl (vp_updL (va_cpy (gRW_steps σ).1 (fun _ => 0) 0 0 (gRW_steps σ).2, 2 * r.toNatClampNeg).1 r.toNatClampNeg a, (va_cpy (gRW_steps σ).1 (fun _ => 0) 0 0 (gRW_steps σ).2, 2 * r.toNatClampNeg).2).1)))], w1, w3, w5, w7, w9, w11, w13] H := ⟨hP, hD⟩
    subst hr0
    refine W.widen (k := Kt) (n := Kt) (Nat.le.intro hk) (Nat.le.intro hk) ?_
    exact W.vret hx hb hr (fun t ht hW => ⟨⟨[[(h0, .inr (2, [.ref (ad 0), .ref (ad 1), .ref (ad 2), .ref (ad 3), .ref (ad 4), .ref (ad 5), .ref (ad 6), .ref q15, .ref ra]))], [(q15, .inl (G.2.1, 512, .inl (gRW_newestKind σ)))], [(ra, .inl (G.2.2.1, (vp_updL (va_cpy (gRW_steps σ).1 (fun _ => 0) 0 0 (gRW_steps σ).2, 2 * r.toNatClampNeg).1 r.toNatClampNeg a, (va_cpy (gRW_steps σ).1 (fun _ => 0) 0 0 (gRW_steps σ).2, 2 * r.toNatClampNeg).2).2, .inr (.inl (vp_updL (va_cpy (gRW_steps σ).1 (fun _ => 0) 0 0 (gRW_steps σ).2, 2 * r.toNatClampNeg).1 r.toNatClampNeg a, (va_cpy (gRW_steps σ).1 (fun _ => 0) 0 0 (gRW_steps σ).2, 2 * r.toNatClampNeg).2).1)))], w1, w3, w5, w7, w9, w11, w13].flatten, rfl, ⟨q15, ra, w1, w3, w5, w7, w9, w11, w13, rfl, h2, h4, h6, h8, h10, h12, h14, h19⟩, by rw [ht]; exact hB.1, hB.2⟩, hS.F ht⟩) hS.2.2 d_RW_keepSteps_30

def M_RW_add_L18 (x_pile : tIL) (statement : Int32) (r : Int32) (start : Int32) (k : Int32) (τ : tRW) : Nat := ((A_IL_length x_pile).toInt - k.toInt).toNat
def A_RW_add_L18 (x_pile : tIL) (statement : Int32) (r : Int32) (start : Int32) : Nat → Int32 → tRW → Int32 × tRW
  | 0, _, τ => (0, τ)
  | n18 + 1, k, τ => if (A_IL_length x_pile) ≤ k then (bnd (A_RW_kindOfNewRow (uRW_statements (uRW_starts τ (A_IL_add (gRW_starts τ) (A_IL_length (gRW_parts τ)))) (A_IL_add (gRW_statements τ) statement)) r start) (fun T42 => bnd (A_RW_keepSteps (uRW_kinds T42.2 (A_IL_add (gRW_kinds T42.2) T42.1)) r (A_RW_countSteps (uRW_kinds T42.2 (A_IL_add (gRW_kinds T42.2) T42.1)) r)) (fun T67 => (r, T67)))) else (A_RW_add_L18 x_pile statement r start n18 (k + 1) (uRW_partKinds (uRW_parts τ (A_IL_add (gRW_parts τ) (A_IL_at x_pile k))) (A_IL_add (gRW_partKinds τ) (A_RW_kindOf (uRW_parts τ (A_IL_add (gRW_parts τ) (A_IL_at x_pile k))) (A_IL_at x_pile k)))))
def K_RW_add_L18 (x_pile : tIL) (statement : Int32) (r : Int32) (start : Int32) : Nat → Int32 → tRW → Nat
  | 0, _, _ => 0
  | n18 + 1, k, τ => if (A_IL_length x_pile) ≤ k then ((K_IL_add (gRW_starts τ) (A_IL_length (gRW_parts τ))) + ((K_IL_add (gRW_statements τ) statement) + ((K_RW_kindOfNewRow (uRW_statements (uRW_starts τ (A_IL_add (gRW_starts τ) (A_IL_length (gRW_parts τ)))) (A_IL_add (gRW_statements τ) statement)) r start) + (bnd (A_RW_kindOfNewRow (uRW_statements (uRW_starts τ (A_IL_add (gRW_starts τ) (A_IL_length (gRW_parts τ)))) (A_IL_add (gRW_statements τ) statement)) r start) (fun T42 => (K_IL_add (gRW_kinds T42.2) T42.1) + ((K_RW_keepSteps (uRW_kinds T42.2 (A_IL_add (gRW_kinds T42.2) T42.1)) r (A_RW_countSteps (uRW_kinds T42.2 (A_IL_add (gRW_kinds T42.2) T42.1)) r)) + (bnd (A_RW_keepSteps (uRW_kinds T42.2 (A_IL_add (gRW_kinds T42.2) T42.1)) r (A_RW_countSteps (uRW_kinds T42.2 (A_IL_add (gRW_kinds T42.2) T42.1)) r)) (fun T67 => 0)))))))) else ((K_IL_add (gRW_parts τ) (A_IL_at x_pile k)) + ((K_IL_add (gRW_partKinds τ) (A_RW_kindOf (uRW_parts τ (A_IL_add (gRW_parts τ) (A_IL_at x_pile k))) (A_IL_at x_pile k))) + (K_RW_add_L18 x_pile statement r start n18 (k + 1) (uRW_partKinds (uRW_parts τ (A_IL_add (gRW_parts τ) (A_IL_at x_pile k))) (A_IL_add (gRW_partKinds τ) (A_RW_kindOf (uRW_parts τ (A_IL_add (gRW_parts τ) (A_IL_at x_pile k))) (A_IL_at x_pile k)))))))
def A_RW_add (σ : tRW) (x_pile : tIL) (statement : Int32) (under : Int32) : Int32 × tRW := A_RW_add_L18 x_pile statement (A_RW_amount σ) (A_IL_length (gRW_parts σ)) (M_RW_add_L18 x_pile statement (A_RW_amount σ) (A_IL_length (gRW_parts σ)) under σ + 1) under σ
def K_RW_add (σ : tRW) (x_pile : tIL) (statement : Int32) (under : Int32) : Nat := K_RW_add_L18 x_pile statement (A_RW_amount σ) (A_IL_length (gRW_parts σ)) (M_RW_add_L18 x_pile statement (A_RW_amount σ) (A_IL_length (gRW_parts σ)) under σ + 1) under σ
set_option maxHeartbeats 4000000 in
set_option maxRecDepth 100000 in
theorem c_RW_add (l : Launch) (G : pG) (h0 : Nat) (ad : Nat → Nat) (σ : tRW) (statement : Int32) (pile : Nat) (under : Int32) (H : Heap) (w : va_W) (x_pile : tIL) (v_pile : va_W) (hv_pile : va_P G.1 vwCl v_pile H) (hx_pile : pIL G pile x_pile v_pile) (ap_x_pile : bk_ap w v_pile) (hP0 : va_P G.1 vwCl w H) (hD0 : va_D (fun _ => True) w) (hσ : pRW G h0 ad σ w) (res : Int32 × tRW) (hr0 : A_RW_add σ x_pile statement under = res) (Kt : Nat) (hk : K_RW_add σ x_pile statement under = Kt) (hKb : Kt ≤ 16777216) : MWi l y_RW_add w_RW_add 5 128 Kt G [.ref h0, .int statement, .ref pile, .int under] H w res.1 (pRW G h0 ad res.2) := by
  refine Met.ofW (cc := b_RW_add) (maxL := 7) (ret := (some .int)) (by decide) rfl ?_
  intro p e s m args below meth c s₁ B hml hv
  obtain ⟨rfl, rfl, hK⟩ := hv
  have hx := B.exec
  have hb := B.bytes
  have hr := B.returns
  have hts0 := atoms_spec (ws := w_RW_add) B.pre
  have hts := fun w (h : w ∈ lw_g) => hts0 w (List.mem_cons_of_mem _ h)
  have hown : s.vm.findClass RRW = some m.cls := findClass_of_methodNamed B.named
  have hlocks := B.notSynchronized
  have hA : ∀ q : Nat, s.heap.size ≤ q → va_A w s.heap.size q := fun _ h => Or.inr h
  have hro_pile := ro_A hv_pile ap_x_pile
  have hB : bk G.1 vwCl (va_A w s.heap.size) [w] s.heap := bk_init hP0 hD0
  generalize va_A w s.heap.size = A at *
  have hS : va_S A s.heap s.heap [] := va_S.rf
  obtain ⟨q15, q16, w1, w3, w5, w7, w9, w11, w13, rfl, h2, h4, h6, h8, h10, h12, h14, h17⟩ := hσ
  have hB := bk_many hB
  have hk : 0 + K_RW_add σ x_pile statement under = Kt := (Nat.zero_add _).trans hk
  have hl := lv_entry ([.ref h0, .int statement, .ref pile, .int under]) (n := 7) (Nat.le_of_ble_eq_true rfl)
  rw [lg_entry_eq]
  generalize (lg_sl ([.ref h0, .int statement, .ref pile, .int under]) ++ List.replicate (7 - (lg_sl ([.ref h0, .int statement, .ref pile, .int under])).length) Slot.unset).toArray = ls at hl ⊢
  have hl : lv_has ls 7 [(0, .ref h0), (1, .int statement), (2, .ref pile), (3, .int under)] := hl
  have hlen0 := pIL_len h2
  unfold A_RW_add at hr0
  unfold K_RW_add at hk
  refine lv_aload_n hx hb d_RW_add_0 rfl (lv_at hl 0 rfl) ?_
  have hpk18 : pRW G h0 ad σ ([[(h0, .inr (2, [.ref (ad 0), .ref (ad 1), .ref (ad 2), .ref (ad 3), .ref (ad 4), .ref (ad 5), .ref (ad 6), .ref q15, .ref q16]))], [(q15, .inl (G.2.1, 512, .inl (gRW_newestKind σ)))], [(q16, .inl (G.2.2.1, (gRW_steps σ).2, .inr (.inl (gRW_steps σ).1)))], w1, w3, w5, w7, w9, w11, w13].flatten) := ⟨q15, q16, w1, w3, w5, w7, w9, w11, w13, rfl, h2, h4, h6, h8, h10, h12, h14, h17⟩
  refine rdV (G := G) (As := []) (rest := []) (C := RRW) ⟨hx, hb, hml, hown, hts⟩ (c_RW_amount l G h0 ad σ _ _ hB.1 hpk18 _ rfl) (cwV 0 hts (gd_V ml_RW_72 im_RW_amount sl_RW_amount ini_RW k_RW_amount) rfl rmK_c rmK_s (by decide +kernel) ⟨Nat.le_of_ble_eq_true rfl, Nat.le_of_ble_eq_true rfl⟩) hK (pRW_recv hK hB.1 hpk18) hS ⟨Nat.le.intro hk, Nat.le.intro hk⟩ rfl hl.1 (Nat.le_of_ble_eq_true rfl) d_RW_add_1 (fun locs hS => ?_)
  refine lv_istore (lv' := [(4, .int (A_RW_amount σ)), (0, .ref h0), (1, .int statement), (2, .ref pile), (3, .int under)]) hx hb d_RW_add_4 hl (by decide) rfl (fun ls hl => ?_)
  refine lv_aload_n hx hb d_RW_add_6 rfl (lv_at hl 1 rfl) ?_
  refine va_get (D := G.1) (ci := 2) (v := .ref (ad 2)) (C := RRW) (T := TRW) (N := 9) hx hb hts inRW hown hK hB.1 0 rfl rfl 2 (by decide) (hts _ fl_RW_25) (fun _ h9 => h9) rfl d_RW_add_7 ?_
  refine rdV (G := G) (As := []) (rest := []) (C := RIL) ⟨hx, hb, hml, hown, hts⟩ (c_IL_length l G (ad 2) (gRW_parts σ) _ _ (bk_gP (k := 5) hB.1 rfl) h6 _ rfl) (cwV 0 hts (gd_V ml_RW_57 im_IL_length sl_IL_length ini_IL k_IL_length) rfl rmK_c rmK_s (by decide +kernel) ⟨Nat.le_of_ble_eq_true rfl, Nat.le_of_ble_eq_true rfl⟩) hK (pIL_recv hK (bk_gP (k := 5) hB.1 rfl) h6) hS ⟨Nat.le.intro hk, Nat.le.intro hk⟩ rfl hl.1 (Nat.le_of_ble_eq_true rfl) d_RW_add_10 (fun locs hS => ?_)
  refine lv_istore (lv' := [(5, .int (A_IL_length (gRW_parts σ))), (4, .int (A_RW_amount σ)), (0, .ref h0), (1, .int statement), (2, .ref pile), (3, .int under)]) hx hb d_RW_add_13 hl (by decide) rfl (fun ls hl => ?_)
  refine lv_iload_n hx hb d_RW_add_15 rfl (lv_at hl 5 rfl) ?_
  refine lv_istore (lv' := [(6, .int under), (5, .int (A_IL_length (gRW_parts σ))), (4, .int (A_RW_amount σ)), (0, .ref h0), (1, .int statement), (2, .ref pile), (3, .int under)]) hx hb d_RW_add_16 hl (by decide) rfl (fun ls hl => ?_)
  refine lp_W (I := fun n18 H locs kc ls => ∃ (k : Int32) (τ : tRW) (w : va_W), pRW G h0 ad τ w ∧ bk G.1 vwCl A [w] H ∧ va_S A s.heap H locs ∧ lv_has ls 7 [(0, .ref h0), (2, .ref pile), (1, .int statement), (4, .int (A_RW_amount σ)), (5, .int (A_IL_length (gRW_parts σ))), (6, .int k)] ∧ A_RW_add_L18 x_pile statement (A_RW_amount σ) (A_IL_length (gRW_parts σ)) n18 k τ = res ∧ kc + K_RW_add_L18 x_pile statement (A_RW_amount σ) (A_IL_length (gRW_parts σ)) n18 k τ = Kt ∧ M_RW_add_L18 x_pile statement (A_RW_amount σ) (A_IL_length (gRW_parts σ)) k τ < n18) ?_ ?_ (M_RW_add_L18 x_pile statement (A_RW_amount σ) (A_IL_length (gRW_parts σ)) under σ + 1) _ _ _ _ ⟨under, σ, _, ⟨q15, q16, w1, w3, w5, w7, w9, w11, w13, rfl, h2, h4, h6, h8, h10, h12, h14, h17⟩, bk_one hB, hS, lv_sub hl [3, 5, 4, 2, 1, 0] rfl, hr0, hk, Nat.lt_succ_self _⟩
  · intro n18 ih18 H locs kc ls ⟨k, τ, w, hτ, hB, hS, hl, hr0, hk, hm18⟩
    obtain ⟨q33, q34, w19, w21, w23, w25, w27, w29, w31, rfl, h20, h22, h24, h26, h28, h30, h32, h35⟩ := hτ
    have hB := bk_many hB
    rw [A_RW_add_L18] at hr0
    rw [K_RW_add_L18] at hk
    refine lv_iload hx hb d_RW_add_18 (lv_at hl 5 rfl) ?_
    refine lv_aload_n hx hb d_RW_add_20 rfl (lv_at hl 1 rfl) ?_
    refine rdV (G := G) (As := []) (rest := [.int k]) (C := RIL) ⟨hx, hb, hml, hown, hts⟩ (c_IL_length l G pile x_pile _ _ (ro_keep hS hv_pile hro_pile) hx_pile _ rfl) (cwV 0 hts (gd_V ml_RW_57 im_IL_length sl_IL_length ini_IL k_IL_length) rfl rmK_c rmK_s (by decide +kernel) ⟨Nat.le_of_ble_eq_true rfl, Nat.le_of_ble_eq_true rfl⟩) hK (pIL_recv hK (ro_keep hS hv_pile hro_pile) hx_pile) hS ⟨Nat.le.intro hk, Nat.le.intro hk⟩ rfl hl.1 (Nat.le_of_ble_eq_true rfl) d_RW_add_21 (fun locs hS => ?_)
    refine lv_icmp_ge (tgt := 63) hx hb d_RW_add_24 (by decide) (fun c36 => ?_) (fun c36 => ?_)
    · have hr0 := ai_pos c36 hr0
      have hk := ki_pos c36 hk
      refine lv_aload_n hx hb d_RW_add_63 rfl (lv_at hl 0 rfl) ?_
      refine va_get (D := G.1) (ci := 2) (v := .ref (ad 1)) (C := RRW) (T := TRW) (N := 9) hx hb hts inRW hown hK hB.1 0 rfl rfl 1 (by decide) (hts _ fl_RW_18) (fun _ h9 => h9) rfl d_RW_add_64 ?_
      refine lv_aload_n hx hb d_RW_add_67 rfl (lv_at hl 0 rfl) ?_
      refine va_get (D := G.1) (ci := 2) (v := .ref (ad 2)) (C := RRW) (T := TRW) (N := 9) hx hb hts inRW hown hK hB.1 0 rfl rfl 2 (by decide) (hts _ fl_RW_25) (fun _ h9 => h9) rfl d_RW_add_68 ?_
      refine rdV (G := G) (As := []) (rest := [.ref (ad 1)]) (C := RIL) ⟨hx, hb, hml, hown, hts⟩ (c_IL_length l G (ad 2) (gRW_parts τ) _ _ (bk_gP (k := 5) hB.1 rfl) h24 _ rfl) (cwV 0 hts (gd_V ml_RW_57 im_IL_length sl_IL_length ini_IL k_IL_length) rfl rmK_c rmK_s (by decide +kernel) ⟨Nat.le_of_ble_eq_true rfl, Nat.le_of_ble_eq_true rfl⟩) hK (pIL_recv hK (bk_gP (k := 5) hB.1 rfl) h24) hS ⟨Nat.le.intro hk, Nat.le.intro hk⟩ rfl hl.1 (Nat.le_of_ble_eq_true rfl) d_RW_add_71 (fun locs hS => ?_)
      refine wrV (G := G) (k := 4) (As := [.int (A_IL_length (gRW_parts τ))]) (rest := []) (C := RIL) ⟨hx, hb, hml, hown, hts⟩ (c_IL_add l G (ad 1) (gRW_starts τ) (A_IL_length (gRW_parts τ)) _ _ (bk_gP (k := 4) hB.1 rfl) (bk_own (k := 4) hB rfl) h22 _ rfl _ rfl (bk_ub hk hKb)) (cwV 1 hts (gd_V ml_RW_21 im_IL_add sl_IL_add ini_IL k_IL_add) rfl rmK_c rmK_s (by decide +kernel) ⟨Nat.le_of_ble_eq_true rfl, Nat.le_of_ble_eq_true rfl⟩) hK (pIL_recv hK (bk_gP (k := 4) hB.1 rfl) h22) hS hA hB rfl hk ⟨rfl, rfl⟩ rfl hl.1 (Nat.le_of_ble_eq_true rfl) d_RW_add_74 (fun u37 H locs kc hu38 hB hS hk => ?_)
      have hB : bk G.1 vwCl A [[(h0, .inr (2, [.ref (ad 0), .ref (ad 1), .ref (ad 2), .ref (ad 3), .ref (ad 4), .ref (ad 5), .ref (ad 6), .ref q33, .ref q34]))], [(q33, .inl (G.2.1, 512, .inl (gRW_newestKind τ)))], [(q34, .inl (G.2.2.1, (gRW_steps τ).2, .inr (.inl (gRW_steps τ).1)))], w19, u37, w23, w25, w27, w29, w31] H := hB
      refine lv_aload_n hx hb d_RW_add_77 rfl (lv_at hl 0 rfl) ?_
      refine va_get (D := G.1) (ci := 2) (v := .ref (ad 0)) (C := RRW) (T := TRW) (N := 9) hx hb hts inRW hown hK hB.1 0 rfl rfl 0 (by decide) (hts _ fl_RW_12) (fun _ h9 => h9) rfl d_RW_add_78 ?_
      refine lv_iload_n hx hb d_RW_add_81 rfl (lv_at hl 2 rfl) ?_
      refine wrV (G := G) (k := 3) (As := [.int statement]) (rest := []) (C := RIL) ⟨hx, hb, hml, hown, hts⟩ (c_IL_add l G (ad 0) (gRW_statements τ) statement _ _ (bk_gP (k := 3) hB.1 rfl) (bk_own (k := 3) hB rfl) h20 _ rfl _ rfl (bk_ub hk hKb)) (cwV 1 hts (gd_V ml_RW_21 im_IL_add sl_IL_add ini_IL k_IL_add) rfl rmK_c rmK_s (by decide +kernel) ⟨Nat.le_of_ble_eq_true rfl, Nat.le_of_ble_eq_true rfl⟩) hK (pIL_recv hK (bk_gP (k := 3) hB.1 rfl) h20) hS hA hB rfl hk ⟨rfl, rfl⟩ rfl hl.1 (Nat.le_of_ble_eq_true rfl) d_RW_add_82 (fun u39 H locs kc hu40 hB hS hk => ?_)
      have hB : bk G.1 vwCl A [[(h0, .inr (2, [.ref (ad 0), .ref (ad 1), .ref (ad 2), .ref (ad 3), .ref (ad 4), .ref (ad 5), .ref (ad 6), .ref q33, .ref q34]))], [(q33, .inl (G.2.1, 512, .inl (gRW_newestKind τ)))], [(q34, .inl (G.2.2.1, (gRW_steps τ).2, .inr (.inl (gRW_steps τ).1)))], u39, u37, w23, w25, w27, w29, w31] H := hB
      refine lv_aload_n hx hb d_RW_add_85 rfl (lv_at hl 0 rfl) ?_
      refine va_get (D := G.1) (ci := 2) (v := .ref (ad 4)) (C := RRW) (T := TRW) (N := 9) hx hb hts inRW hown hK hB.1 0 rfl rfl 4 (by decide) (hts _ fl_RW_31) (fun _ h9 => h9) rfl d_RW_add_86 ?_
      refine lv_aload_n hx hb d_RW_add_89 rfl (lv_at hl 0 rfl) ?_
      refine lv_iload hx hb d_RW_add_90 (lv_at hl 3 rfl) ?_
      refine lv_iload hx hb d_RW_add_92 (lv_at hl 4 rfl) ?_
      have hB := bk_one hB
      have hpk41 : pRW G h0 ad (uRW_statements (uRW_starts τ (A_IL_add (gRW_starts τ) (A_IL_length (gRW_parts τ)))) (A_IL_add (gRW_statements τ) statement)) ([[(h0, .inr (2, [.ref (ad 0), .ref (ad 1), .ref (ad 2), .ref (ad 3), .ref (ad 4), .ref (ad 5), .ref (ad 6), .ref q33, .ref q34]))], [(q33, .inl (G.2.1, 512, .inl (gRW_newestKind τ)))], [(q34, .inl (G.2.2.1, (gRW_steps τ).2, .inr (.inl (gRW_steps τ).1)))], u39, u37, w23, w25, w27, w29, w31].flatten) := ⟨q33, q34, u39, u37, w23, w25, w27, w29, w31, rfl, hu40, hu38, h24, h26, h28, h30, h32, h35⟩
      obtain ⟨T42, hT43⟩ : ∃ z, A_RW_kindOfNewRow (uRW_statements (uRW_starts τ (A_IL_add (gRW_starts τ) (A_IL_length (gRW_parts τ)))) (A_IL_add (gRW_statements τ) statement)) (A_RW_amount σ) (A_IL_length (gRW_parts σ)) = z := ⟨_, rfl⟩
      refine wrVi (G := G) (k := 0) (As := [.int (A_RW_amount σ), .int (A_IL_length (gRW_parts σ))]) (rest := [.ref (ad 4)]) (C := RRW) ⟨hx, hb, hml, hown, hts⟩ (c_RW_kindOfNewRow l G h0 ad (uRW_statements (uRW_starts τ (A_IL_add (gRW_starts τ) (A_IL_length (gRW_parts τ)))) (A_IL_add (gRW_statements τ) statement)) (A_RW_amount σ) (A_IL_length (gRW_parts σ)) _ _ (bk_gP (k := 0) hB.1 rfl) (bk_own (k := 0) hB rfl) hpk41 T42 hT43 _ rfl (bk_ub hk hKb)) (cwV 2 hts (gd_V ml_RW_78 im_RW_kindOfNewRow sl_RW_kindOfNewRow ini_RW k_RW_kindOfNewRow) rfl rmK_c rmK_s (by decide +kernel) ⟨Nat.le_of_ble_eq_true rfl, Nat.le_of_ble_eq_true rfl⟩) hK (pRW_recv hK (bk_gP (k := 0) hB.1 rfl) hpk41) hS hA hB rfl hk ⟨rfl, rfl⟩ rfl hl.1 (Nat.le_of_ble_eq_true rfl) d_RW_add_94 (fun u44 H locs kc hu45 hB hS hk => ?_)
      have hr0 := bnd_e hT43 hr0
      have hk := bnd_k hT43 hk
      have hB : bk G.1 vwCl A [u44] H := hB
      obtain ⟨q60, q61, w46, w48, w50, w52, w54, w56, w58, rfl, h47, h49, h51, h53, h55, h57, h59, h62⟩ := hu45
      have hB : bk G.1 vwCl A [[(h0, .inr (2, [.ref (ad 0), .ref (ad 1), .ref (ad 2), .ref (ad 3), .ref (ad 4), .ref (ad 5), .ref (ad 6), .ref q60, .ref q61]))], [(q60, .inl (G.2.1, 512, .inl (gRW_newestKind T42.2)))], [(q61, .inl (G.2.2.1, (gRW_steps T42.2).2, .inr (.inl (gRW_steps T42.2).1)))], w46, w48, w50, w52, w54, w56, w58] H := bk_many hB
      refine wrV (G := G) (k := 7) (As := [.int T42.1]) (rest := []) (C := RIL) ⟨hx, hb, hml, hown, hts⟩ (c_IL_add l G (ad 4) (gRW_kinds T42.2) T42.1 _ _ (bk_gP (k := 7) hB.1 rfl) (bk_own (k := 7) hB rfl) h55 _ rfl _ rfl (bk_ub hk hKb)) (cwV 1 hts (gd_V ml_RW_21 im_IL_add sl_IL_add ini_IL k_IL_add) rfl rmK_c rmK_s (by decide +kernel) ⟨Nat.le_of_ble_eq_true rfl, Nat.le_of_ble_eq_true rfl⟩) hK (pIL_recv hK (bk_gP (k := 7) hB.1 rfl) h55) hS hA hB rfl hk ⟨rfl, rfl⟩ rfl hl.1 (Nat.le_of_ble_eq_true rfl) d_RW_add_97 (fun u63 H locs kc hu64 hB hS hk => ?_)
      have hB : bk G.1 vwCl A [[(h0, .inr (2, [.ref (ad 0), .ref (ad 1), .ref (ad 2), .ref (ad 3), .ref (ad 4), .ref (ad 5), .ref (ad 6), .ref q60, .ref q61]))], [(q60, .inl (G.2.1, 512, .inl (gRW_newestKind T42.2)))], [(q61, .inl (G.2.2.1, (gRW_steps T42.2).2, .inr (.inl (gRW_steps T42.2).1)))], w46, w48, w50, w52, u63, w56, w58] H := hB
      refine lv_aload_n hx hb d_RW_add_100 rfl (lv_at hl 0 rfl) ?_
      refine lv_iload hx hb d_RW_add_101 (lv_at hl 3 rfl) ?_
      refine lv_aload_n hx hb d_RW_add_103 rfl (lv_at hl 0 rfl) ?_
      refine lv_iload hx hb d_RW_add_104 (lv_at hl 3 rfl) ?_
      have hpk65 : pRW G h0 ad (uRW_kinds T42.2 (A_IL_add (gRW_kinds T42.2) T42.1)) ([[(h0, .inr (2, [.ref (ad 0), .ref (ad 1), .ref (ad 2), .ref (ad 3), .ref (ad 4), .ref (ad 5), .ref (ad 6), .ref q60, .ref q61]))], [(q60, .inl (G.2.1, 512, .inl (gRW_newestKind T42.2)))], [(q61, .inl (G.2.2.1, (gRW_steps T42.2).2, .inr (.inl (gRW_steps T42.2).1)))], w46, w48, w50, w52, u63, w56, w58].flatten) := ⟨q60, q61, w46, w48, w50, w52, u63, w56, w58, rfl, h47, h49, h51, h53, hu64, h57, h59, h62⟩
      refine rdVl (G := G) (As := [.int (A_RW_amount σ)]) (rest := [.int (A_RW_amount σ), .ref h0]) (C := RRW) ⟨hx, hb, hml, hown, hts⟩ (c_RW_countSteps l G h0 ad (uRW_kinds T42.2 (A_IL_add (gRW_kinds T42.2) T42.1)) (A_RW_amount σ) _ _ hB.1 hpk65 _ rfl) (cwV 1 hts (gd_V ml_RW_82 im_RW_countSteps sl_RW_countSteps ini_RW k_RW_countSteps) rfl rmK_c rmK_s (by decide +kernel) ⟨Nat.le_of_ble_eq_true rfl, Nat.le_of_ble_eq_true rfl⟩) hK (pRW_recv hK hB.1 hpk65) hS ⟨Nat.le.intro hk, Nat.le.intro hk⟩ rfl hl.1 (Nat.le_of_ble_eq_true rfl) d_RW_add_106 (fun locs hS => ?_)
      have hB := bk_one hB
      have hpk66 : pRW G h0 ad (uRW_kinds T42.2 (A_IL_add (gRW_kinds T42.2) T42.1)) ([[(h0, .inr (2, [.ref (ad 0), .ref (ad 1), .ref (ad 2), .ref (ad 3), .ref (ad 4), .ref (ad 5), .ref (ad 6), .ref q60, .ref q61]))], [(q60, .inl (G.2.1, 512, .inl (gRW_newestKind T42.2)))], [(q61, .inl (G.2.2.1, (gRW_steps T42.2).2, .inr (.inl (gRW_steps T42.2).1)))], w46, w48, w50, w52, u63, w56, w58].flatten) := ⟨q60, q61, w46, w48, w50, w52, u63, w56, w58, rfl, h47, h49, h51, h53, hu64, h57, h59, h62⟩
      obtain ⟨T67, hT68⟩ : ∃ z, A_RW_keepSteps (uRW_kinds T42.2 (A_IL_add (gRW_kinds T42.2) T42.1)) (A_RW_amount σ) (A_RW_countSteps (uRW_kinds T42.2 (A_IL_add (gRW_kinds T42.2) T42.1)) (A_RW_amount σ)) = z := ⟨_, rfl⟩
      refine wrV (G := G) (k := 0) (As := [.int (A_RW_amount σ), .long (A_RW_countSteps (uRW_kinds T42.2 (A_IL_add (gRW_kinds T42.2) T42.1)) (A_RW_amount σ))]) (rest := []) (C := RRW) ⟨hx, hb, hml, hown, hts⟩ (c_RW_keepSteps l G h0 ad (uRW_kinds T42.2 (A_IL_add (gRW_kinds T42.2) T42.1)) (A_RW_amount σ) (A_RW_countSteps (uRW_kinds T42.2 (A_IL_add (gRW_kinds T42.2) T42.1)) (A_RW_amount σ)) _ _ (bk_gP (k := 0) hB.1 rfl) (bk_own (k := 0) hB rfl) hpk66 T67 hT68 _ rfl (bk_ub hk hKb) (show ¬ nI (gRW_statements σ).1.length < 0 from nI_pos (by omega))) (cwV 2 hts (gd_V ml_RW_86 im_RW_keepSteps sl_RW_keepSteps ini_RW k_RW_keepSteps) rfl rmK_c rmK_s (by decide +kernel) ⟨Nat.le_of_ble_eq_true rfl, Nat.le_of_ble_eq_true rfl⟩) hK (pRW_recv hK (bk_gP (k := 0) hB.1 rfl) hpk66) hS hA hB rfl hk ⟨rfl, rfl⟩ rfl hl.1 (Nat.le_of_ble_eq_true rfl) d_RW_add_109 (fun u69 H locs kc hu70 hB hS hk => ?_)
      have hr0 := bnd_e hT68 hr0
      have hk := bnd_k hT68 hk
      have hB : bk G.1 vwCl A [u69] H := hB
      obtain ⟨q85, q86, w71, w73, w75, w77, w79, w81, w83, rfl, h72, h74, h76, h78, h80, h82, h84, h87⟩ := hu70
      have hB : bk G.1 vwCl A [[(h0, .inr (2, [.ref (ad 0), .ref (ad 1), .ref (ad 2), .ref (ad 3), .ref (ad 4), .ref (ad 5), .ref (ad 6), .ref q85, .ref q86]))], [(q85, .inl (G.2.1, 512, .inl (gRW_newestKind T67)))], [(q86, .inl (G.2.2.1, (gRW_steps T67).2, .inr (.inl (gRW_steps T67).1)))], w71, w73, w75, w77, w79, w81, w83] H := bk_many hB
      refine lv_iload hx hb d_RW_add_112 (lv_at hl 3 rfl) ?_
      subst hr0
      refine W.widen (k := Kt) (n := Kt) (Nat.le.intro hk) (Nat.le.intro hk) ?_
      exact W.iret (v := (A_RW_amount σ)) hx hb hr (fun t ht hW => ⟨⟨(A_RW_amount σ), [[(h0, .inr (2, [.ref (ad 0), .ref (ad 1), .ref (ad 2), .ref (ad 3), .ref (ad 4), .ref (ad 5), .ref (ad 6), .ref q85, .ref q86]))], [(q85, .inl (G.2.1, 512, .inl (gRW_newestKind T67)))], [(q86, .inl (G.2.2.1, (gRW_steps T67).2, .inr (.inl (gRW_steps T67).1)))], w71, w73, w75, w77, w79, w81, w83].flatten, rfl, ⟨rfl, ⟨q85, q86, w71, w73, w75, w77, w79, w81, w83, rfl, h72, h74, h76, h78, h80, h82, h84, h87⟩⟩, by rw [ht]; exact hB.1, hB.2⟩, hS.F ht⟩) hS.2.2 d_RW_add_114
    · have hr0 := ai_neg c36 hr0
      have hk := ki_neg c36 hk
      refine lv_aload_n hx hb d_RW_add_27 rfl (lv_at hl 0 rfl) ?_
      refine va_get (D := G.1) (ci := 2) (v := .ref (ad 2)) (C := RRW) (T := TRW) (N := 9) hx hb hts inRW hown hK hB.1 0 rfl rfl 2 (by decide) (hts _ fl_RW_25) (fun _ h9 => h9) rfl d_RW_add_28 ?_
      refine lv_aload_n hx hb d_RW_add_31 rfl (lv_at hl 1 rfl) ?_
      refine lv_iload hx hb d_RW_add_32 (lv_at hl 5 rfl) ?_
      refine rdV (G := G) (As := [.int k]) (rest := [.ref (ad 2)]) (C := RIL) ⟨hx, hb, hml, hown, hts⟩ (c_IL_at l G pile x_pile k _ _ (ro_keep hS hv_pile hro_pile) hx_pile _ rfl) (cwV 1 hts (gd_V ml_RW_61 im_IL_at sl_IL_at ini_IL k_IL_at) rfl rmK_c rmK_s (by decide +kernel) ⟨Nat.le_of_ble_eq_true rfl, Nat.le_of_ble_eq_true rfl⟩) hK (pIL_recv hK (ro_keep hS hv_pile hro_pile) hx_pile) hS ⟨Nat.le.intro hk, Nat.le.intro hk⟩ rfl hl.1 (Nat.le_of_ble_eq_true rfl) d_RW_add_34 (fun locs hS => ?_)
      refine wrV (G := G) (k := 5) (As := [.int (A_IL_at x_pile k)]) (rest := []) (C := RIL) ⟨hx, hb, hml, hown, hts⟩ (c_IL_add l G (ad 2) (gRW_parts τ) (A_IL_at x_pile k) _ _ (bk_gP (k := 5) hB.1 rfl) (bk_own (k := 5) hB rfl) h24 _ rfl _ rfl (bk_ub hk hKb)) (cwV 1 hts (gd_V ml_RW_21 im_IL_add sl_IL_add ini_IL k_IL_add) rfl rmK_c rmK_s (by decide +kernel) ⟨Nat.le_of_ble_eq_true rfl, Nat.le_of_ble_eq_true rfl⟩) hK (pIL_recv hK (bk_gP (k := 5) hB.1 rfl) h24) hS hA hB rfl hk ⟨rfl, rfl⟩ rfl hl.1 (Nat.le_of_ble_eq_true rfl) d_RW_add_37 (fun u88 H locs kc hu89 hB hS hk => ?_)
      have hB : bk G.1 vwCl A [[(h0, .inr (2, [.ref (ad 0), .ref (ad 1), .ref (ad 2), .ref (ad 3), .ref (ad 4), .ref (ad 5), .ref (ad 6), .ref q33, .ref q34]))], [(q33, .inl (G.2.1, 512, .inl (gRW_newestKind τ)))], [(q34, .inl (G.2.2.1, (gRW_steps τ).2, .inr (.inl (gRW_steps τ).1)))], w19, w21, u88, w25, w27, w29, w31] H := hB
      refine lv_aload_n hx hb d_RW_add_40 rfl (lv_at hl 0 rfl) ?_
      refine va_get (D := G.1) (ci := 2) (v := .ref (ad 3)) (C := RRW) (T := TRW) (N := 9) hx hb hts inRW hown hK hB.1 0 rfl rfl 3 (by decide) (hts _ fl_RW_28) (fun _ h9 => h9) rfl d_RW_add_41 ?_
      refine lv_aload_n hx hb d_RW_add_44 rfl (lv_at hl 0 rfl) ?_
      refine lv_aload_n hx hb d_RW_add_45 rfl (lv_at hl 1 rfl) ?_
      refine lv_iload hx hb d_RW_add_46 (lv_at hl 5 rfl) ?_
      refine rdV (G := G) (As := [.int k]) (rest := [.ref h0, .ref (ad 3)]) (C := RIL) ⟨hx, hb, hml, hown, hts⟩ (c_IL_at l G pile x_pile k _ _ (ro_keep hS hv_pile hro_pile) hx_pile _ rfl) (cwV 1 hts (gd_V ml_RW_61 im_IL_at sl_IL_at ini_IL k_IL_at) rfl rmK_c rmK_s (by decide +kernel) ⟨Nat.le_of_ble_eq_true rfl, Nat.le_of_ble_eq_true rfl⟩) hK (pIL_recv hK (ro_keep hS hv_pile hro_pile) hx_pile) hS ⟨Nat.le.intro hk, Nat.le.intro hk⟩ rfl hl.1 (Nat.le_of_ble_eq_true rfl) d_RW_add_48 (fun locs hS => ?_)
      have hpk90 : pRW G h0 ad (uRW_parts τ (A_IL_add (gRW_parts τ) (A_IL_at x_pile k))) ([[(h0, .inr (2, [.ref (ad 0), .ref (ad 1), .ref (ad 2), .ref (ad 3), .ref (ad 4), .ref (ad 5), .ref (ad 6), .ref q33, .ref q34]))], [(q33, .inl (G.2.1, 512, .inl (gRW_newestKind τ)))], [(q34, .inl (G.2.2.1, (gRW_steps τ).2, .inr (.inl (gRW_steps τ).1)))], w19, w21, u88, w25, w27, w29, w31].flatten) := ⟨q33, q34, w19, w21, u88, w25, w27, w29, w31, rfl, h20, h22, hu89, h26, h28, h30, h32, h35⟩
      refine rdV (G := G) (As := [.int (A_IL_at x_pile k)]) (rest := [.ref (ad 3)]) (C := RRW) ⟨hx, hb, hml, hown, hts⟩ (c_RW_kindOf l G h0 ad (uRW_parts τ (A_IL_add (gRW_parts τ) (A_IL_at x_pile k))) (A_IL_at x_pile k) _ _ hB.1 hpk90 _ rfl) (cwV 1 hts (gd_V ml_RW_75 im_RW_kindOf sl_RW_kindOf ini_RW k_RW_kindOf) rfl rmK_c rmK_s (by decide +kernel) ⟨Nat.le_of_ble_eq_true rfl, Nat.le_of_ble_eq_true rfl⟩) hK (pRW_recv hK hB.1 hpk90) hS ⟨Nat.le.intro hk, Nat.le.intro hk⟩ rfl hl.1 (Nat.le_of_ble_eq_true rfl) d_RW_add_51 (fun locs hS => ?_)
      refine wrV (G := G) (k := 6) (As := [.int (A_RW_kindOf (uRW_parts τ (A_IL_add (gRW_parts τ) (A_IL_at x_pile k))) (A_IL_at x_pile k))]) (rest := []) (C := RIL) ⟨hx, hb, hml, hown, hts⟩ (c_IL_add l G (ad 3) (gRW_partKinds τ) (A_RW_kindOf (uRW_parts τ (A_IL_add (gRW_parts τ) (A_IL_at x_pile k))) (A_IL_at x_pile k)) _ _ (bk_gP (k := 6) hB.1 rfl) (bk_own (k := 6) hB rfl) h26 _ rfl _ rfl (bk_ub hk hKb)) (cwV 1 hts (gd_V ml_RW_21 im_IL_add sl_IL_add ini_IL k_IL_add) rfl rmK_c rmK_s (by decide +kernel) ⟨Nat.le_of_ble_eq_true rfl, Nat.le_of_ble_eq_true rfl⟩) hK (pIL_recv hK (bk_gP (k := 6) hB.1 rfl) h26) hS hA hB rfl hk ⟨rfl, rfl⟩ rfl hl.1 (Nat.le_of_ble_eq_true rfl) d_RW_add_54 (fun u91 H locs kc hu92 hB hS hk => ?_)
      have hB : bk G.1 vwCl A [[(h0, .inr (2, [.ref (ad 0), .ref (ad 1), .ref (ad 2), .ref (ad 3), .ref (ad 4), .ref (ad 5), .ref (ad 6), .ref q33, .ref q34]))], [(q33, .inl (G.2.1, 512, .inl (gRW_newestKind τ)))], [(q34, .inl (G.2.2.1, (gRW_steps τ).2, .inr (.inl (gRW_steps τ).1)))], w19, w21, u88, u91, w27, w29, w31] H := hB
      refine lv_iinc (v := k + 1) (lv' := [(6, .int (k + 1)), (0, .ref h0), (2, .ref pile), (1, .int statement), (4, .int (A_RW_amount σ)), (5, .int (A_IL_length (gRW_parts σ)))]) hx hb d_RW_add_57 hl (k := 5) rfl rfl (by decide) rfl (fun ls hl => ?_)
      refine lv_goto (tgt := 18) hx hb d_RW_add_60 (by decide) ?_
      exact ih18 _ _ _ _ ⟨(k + 1), (uRW_partKinds (uRW_parts τ (A_IL_add (gRW_parts τ) (A_IL_at x_pile k))) (A_IL_add (gRW_partKinds τ) (A_RW_kindOf (uRW_parts τ (A_IL_add (gRW_parts τ) (A_IL_at x_pile k))) (A_IL_at x_pile k)))), _, ⟨q33, q34, w19, w21, u88, u91, w27, w29, w31, rfl, h20, h22, hu89, hu92, h28, h30, h32, h35⟩, bk_one hB, hS, lv_sub hl [1, 2, 3, 4, 5, 0] rfl, hr0, hk, up_dec c36 hm18⟩
  · rintro H locs kc ls ⟨_, _, _, -, -, -, -, -, -, hz⟩; exact Nat.not_lt_zero _ hz
end
section
def M_RW_statementInFull_L47 (σ : tRW) (here : Int32) (level : Int32) (left2 : Int64) (place : Int32) : Nat := ((A_RW_amountOfParts σ here).toInt - place.toInt).toNat
def A_RW_statementInFull_L47 (σ : tRW) (here : Int32) (level : Int32) (rec9 : Int32 → Int64 → Int32 → Int32) : Nat → Int64 → Int32 → Int32
  | 0, _, _ => 0
  | n47 + 1, left2, place => if (A_RW_amountOfParts σ here) ≤ place then (rec9 (A_RW_part σ here place) left2 (level + 1)) else (if (lg_cmp left2 (A_RW_stepsInFull σ (A_RW_part σ here place))) < 0 then (rec9 (A_RW_part σ here place) left2 (level + 1)) else (A_RW_statementInFull_L47 σ here level rec9 n47 (left2 - (A_RW_stepsInFull σ (A_RW_part σ here place))) (place + 1)))
def M_RW_statementInFull_L9 (σ : tRW) (here : Int32) (left : Int64) (level : Int32) : Nat := ((4000 : Int32).toInt - level.toInt).toNat
def A_RW_statementInFull_L9 (σ : tRW) : Nat → Int32 → Int64 → Int32 → Int32
  | 0, _, _, _ => 0
  | n9 + 1, here, left, level => if 4000 ≤ level then (-1) else (if (A_RW_has σ here) = 0 then (-1) else (if (lg_cmp left ((A_RW_stepsInFull σ here) - 1)) < 0 then (A_RW_statementInFull_L47 σ here level (A_RW_statementInFull_L9 σ n9) (M_RW_statementInFull_L47 σ here level left 0 + 1) left 0) else (A_RW_statementOf σ here)))
def A_RW_statementInFull (σ : tRW) (r : Int32) (k : Int32) : Int32 := A_RW_statementInFull_L9 σ (M_RW_statementInFull_L9 σ r k.toInt64 0 + 1) r k.toInt64 0
set_option maxHeartbeats 4000000 in
set_option maxRecDepth 100000 in
theorem c_RW_statementInFull (l : Launch) (G : pG) (h0 : Nat) (ad : Nat → Nat) (σ : tRW) (r : Int32) (k : Int32) (H : Heap) (w : va_W) (hP0 : va_P G.1 vwCl w H) (hσ : pRW G h0 ad σ w) (res : Int32) (hr0 : A_RW_statementInFull σ r k = res) : MRi l y_RW_statementInFull w_RW_statementInFull 4 84 G [.ref h0, .int r, .int k] H res := by
  refine Met.ofW (cc := b_RW_statementInFull) (maxL := 8) (ret := (some .int)) (by decide) rfl ?_
  intro p e s m args below meth c s₁ B hml hv
  obtain ⟨rfl, rfl, hK⟩ := hv
  have hx := B.exec
  have hb := B.bytes
  have hr := B.returns
  have hts0 := atoms_spec (ws := w_RW_statementInFull) B.pre
  have hts := fun w (h : w ∈ lw_g) => hts0 w (List.mem_cons_of_mem _ h)
  have hown : s.vm.findClass RRW = some m.cls := findClass_of_methodNamed B.named
  have hlocks := B.notSynchronized
  have hσ0 := hσ
  obtain ⟨q15, q16, w1, w3, w5, w7, w9, w11, w13, rfl, h2, h4, h6, h8, h10, h12, h14, h17⟩ := hσ
  have hP := hP0
  obtain ⟨A, hAe⟩ : ∃ A : Nat → Prop, A = fun _ => False := ⟨_, rfl⟩
  rw [← hAe]
  have hS : va_S A s.heap s.heap [] := va_S.rf
  have hl := lv_entry ([.ref h0, .int r, .int k]) (n := 8) (Nat.le_of_ble_eq_true rfl)
  rw [lg_entry_eq]
  generalize (lg_sl ([.ref h0, .int r, .int k]) ++ List.replicate (8 - (lg_sl ([.ref h0, .int r, .int k])).length) Slot.unset).toArray = ls at hl ⊢
  have hl : lv_has ls 8 [(0, .ref h0), (1, .int r), (2, .int k)] := hl
  unfold A_RW_statementInFull at hr0
  refine lv_iload_n hx hb d_RW_statementInFull_0 rfl (lv_at hl 1 rfl) ?_
  refine lv_istore_n (lv' := [(3, .int r), (0, .ref h0), (1, .int r), (2, .int k)]) hx hb d_RW_statementInFull_1 rfl hl (by decide) rfl (fun ls hl => ?_)
  refine lv_iload_n hx hb d_RW_statementInFull_2 rfl (lv_at hl 3 rfl) ?_
  refine lv_i2l (v := k.toInt64) hx hb d_RW_statementInFull_3 rfl ?_
  refine lv_lstore (lv' := [(4, .long k.toInt64), (3, .int r), (0, .ref h0), (1, .int r), (2, .int k)]) hx hb d_RW_statementInFull_4 hl (by decide) rfl (fun ls hl => ?_)
  refine lv_iconst (v := 0) hx hb d_RW_statementInFull_6 (by decide) ?_
  refine lv_istore (lv' := [(6, .int 0), (4, .long k.toInt64), (3, .int r), (0, .ref h0), (1, .int r), (2, .int k)]) hx hb d_RW_statementInFull_7 hl (by decide) rfl (fun ls hl => ?_)
  refine lp_R (I := fun n9 locs ls => ∃ (here : Int32) (left : Int64) (level : Int32), va_S A s.heap s.heap locs ∧ lv_has ls 8 [(0, .ref h0), (3, .int here), (4, .long left), (6, .int level)] ∧ A_RW_statementInFull_L9 σ n9 here left level = res ∧ M_RW_statementInFull_L9 σ here left level < n9) ?_ ?_ (M_RW_statementInFull_L9 σ r k.toInt64 0 + 1) _ _ ⟨r, k.toInt64, 0, hS, lv_sub hl [3, 2, 1, 0] rfl, hr0, Nat.lt_succ_self _⟩
  · intro n9 ih9 locs ls ⟨here, left, level, hS, hl, hr0, hm9⟩
    rw [A_RW_statementInFull_L9] at hr0
    refine lv_iload hx hb d_RW_statementInFull_9 (lv_at hl 3 rfl) ?_
    refine lv_sipush (v := 4000) hx hb d_RW_statementInFull_11 (by decide) ?_
    refine lv_icmp_ge (tgt := 110) hx hb d_RW_statementInFull_14 (by decide) (fun c18 => ?_) (fun c18 => ?_)
    · have hr0 := ai_pos c18 hr0
      refine lv_iconst (v := (-1)) hx hb d_RW_statementInFull_110 (by decide) ?_
      exact W.iret (v := (-1)) hx hb hr (fun t ht hW => ⟨⟨(-1), (), rfl, hr0, ht⟩, hS.F ht⟩) hS.2.2 d_RW_statementInFull_111
    · have hr0 := ai_neg c18 hr0
      refine lv_aload_n hx hb d_RW_statementInFull_17 rfl (lv_at hl 0 rfl) ?_
      refine lv_iload_n hx hb d_RW_statementInFull_18 rfl (lv_at hl 1 rfl) ?_
      refine rdV (G := G) (As := [.int here]) (rest := []) (C := RRW) ⟨hx, hb, hml, hown, hts⟩ (c_RW_has l G h0 ad σ here _ _ hP0 hσ0 _ rfl) (cwV 1 hts (gd_V ml_RW_65 im_RW_has sl_RW_has ini_RW k_RW_has) rfl rmK_c rmK_s (by decide +kernel) ⟨Nat.le_of_ble_eq_true rfl, Nat.le_of_ble_eq_true rfl⟩) hK (pRW_recv hK hP0 hσ0) hS ⟨Nat.le_refl _, Nat.le_refl _⟩ rfl hl.1 (Nat.le_of_ble_eq_true rfl) d_RW_statementInFull_19 (fun locs hS => ?_)
      refine lv_if_eq (tgt := 110) hx hb d_RW_statementInFull_22 (by decide) (fun c19 => ?_) (fun c19 => ?_)
      · have hr0 := ai_pos c19 hr0
        refine lv_iconst (v := (-1)) hx hb d_RW_statementInFull_110 (by decide) ?_
        exact W.iret (v := (-1)) hx hb hr (fun t ht hW => ⟨⟨(-1), (), rfl, hr0, ht⟩, hS.F ht⟩) hS.2.2 d_RW_statementInFull_111
      · have hr0 := ai_neg c19 hr0
        refine lv_lload hx hb d_RW_statementInFull_25 (lv_at hl 2 rfl) ?_
        refine lv_aload_n hx hb d_RW_statementInFull_27 rfl (lv_at hl 0 rfl) ?_
        refine lv_iload_n hx hb d_RW_statementInFull_28 rfl (lv_at hl 1 rfl) ?_
        refine rdVl (G := G) (As := [.int here]) (rest := [.long left]) (C := RRW) ⟨hx, hb, hml, hown, hts⟩ (c_RW_stepsInFull l G h0 ad σ here _ _ hP0 hσ0 _ rfl) (cwV 1 hts (gd_V ml_RW_110 im_RW_stepsInFull sl_RW_stepsInFull ini_RW k_RW_stepsInFull) rfl rmK_c rmK_s (by decide +kernel) ⟨Nat.le_of_ble_eq_true rfl, Nat.le_of_ble_eq_true rfl⟩) hK (pRW_recv hK hP0 hσ0) hS ⟨Nat.le_refl _, Nat.le_refl _⟩ rfl hl.1 (Nat.le_of_ble_eq_true rfl) d_RW_statementInFull_29 (fun locs hS => ?_)
        refine lv_lconst (v := 1) hx hb d_RW_statementInFull_32 (by decide) ?_
        refine lv_lsub hx hb d_RW_statementInFull_33 ?_
        refine W.lcmp hx hb d_RW_statementInFull_34 ?_
        refine lv_if_lt (tgt := 44) hx hb d_RW_statementInFull_35 (by decide) (fun c20 => ?_) (fun c20 => ?_)
        · have hr0 := ai_pos c20 hr0
          refine lv_iconst (v := 0) hx hb d_RW_statementInFull_44 (by decide) ?_
          refine lv_istore (lv' := [(7, .int 0), (0, .ref h0), (3, .int here), (4, .long left), (6, .int level)]) hx hb d_RW_statementInFull_45 hl (by decide) rfl (fun ls hl => ?_)
          refine lp_R (I := fun n47 locs ls => ∃ (left2 : Int64) (place : Int32), va_S A s.heap s.heap locs ∧ lv_has ls 8 [(0, .ref h0), (3, .int here), (6, .int level), (4, .long left2), (7, .int place)] ∧ A_RW_statementInFull_L47 σ here level (A_RW_statementInFull_L9 σ n9) n47 left2 place = res ∧ M_RW_statementInFull_L47 σ here level left2 place < n47) ?_ ?_ (M_RW_statementInFull_L47 σ here level left 0 + 1) _ _ ⟨left, 0, hS, lv_sub hl [1, 2, 4, 3, 0] rfl, hr0, Nat.lt_succ_self _⟩
          · intro n47 ih47 locs ls ⟨left2, place, hS, hl, hr0, hm47⟩
            rw [A_RW_statementInFull_L47] at hr0
            refine lv_iload hx hb d_RW_statementInFull_47 (lv_at hl 4 rfl) ?_
            refine lv_aload_n hx hb d_RW_statementInFull_49 rfl (lv_at hl 0 rfl) ?_
            refine lv_iload_n hx hb d_RW_statementInFull_50 rfl (lv_at hl 1 rfl) ?_
            refine rdV (G := G) (As := [.int here]) (rest := [.int place]) (C := RRW) ⟨hx, hb, hml, hown, hts⟩ (c_RW_amountOfParts l G h0 ad σ here _ _ hP0 hσ0 _ rfl) (cwV 1 hts (gd_V ml_RW_69 im_RW_amountOfParts sl_RW_amountOfParts ini_RW k_RW_amountOfParts) rfl rmK_c rmK_s (by decide +kernel) ⟨Nat.le_of_ble_eq_true rfl, Nat.le_of_ble_eq_true rfl⟩) hK (pRW_recv hK hP0 hσ0) hS ⟨Nat.le_refl _, Nat.le_refl _⟩ rfl hl.1 (Nat.le_of_ble_eq_true rfl) d_RW_statementInFull_51 (fun locs hS => ?_)
            refine lv_icmp_ge (tgt := 96) hx hb d_RW_statementInFull_54 (by decide) (fun c21 => ?_) (fun c21 => ?_)
            · have hr0 := ai_pos c21 hr0
              refine lv_aload_n hx hb d_RW_statementInFull_96 rfl (lv_at hl 0 rfl) ?_
              refine lv_iload_n hx hb d_RW_statementInFull_97 rfl (lv_at hl 1 rfl) ?_
              refine lv_iload hx hb d_RW_statementInFull_98 (lv_at hl 4 rfl) ?_
              refine rdV (G := G) (As := [.int here, .int place]) (rest := []) (C := RRW) ⟨hx, hb, hml, hown, hts⟩ (c_RW_part l G h0 ad σ here place _ _ hP0 hσ0 _ rfl) (cwV 2 hts (gd_V ml_RW_107 im_RW_part sl_RW_part ini_RW k_RW_part) rfl rmK_c rmK_s (by decide +kernel) ⟨Nat.le_of_ble_eq_true rfl, Nat.le_of_ble_eq_true rfl⟩) hK (pRW_recv hK hP0 hσ0) hS ⟨Nat.le_refl _, Nat.le_refl _⟩ rfl hl.1 (Nat.le_of_ble_eq_true rfl) d_RW_statementInFull_100 (fun locs hS => ?_)
              refine lv_istore_n (lv' := [(3, .int (A_RW_part σ here place)), (0, .ref h0), (6, .int level), (4, .long left2), (7, .int place)]) hx hb d_RW_statementInFull_103 rfl hl (by decide) rfl (fun ls hl => ?_)
              refine lv_iinc (v := level + 1) (lv' := [(6, .int (level + 1)), (3, .int (A_RW_part σ here place)), (0, .ref h0), (4, .long left2), (7, .int place)]) hx hb d_RW_statementInFull_104 hl (k := 2) rfl rfl (by decide) rfl (fun ls hl => ?_)
              refine lv_goto (tgt := 9) hx hb d_RW_statementInFull_107 (by decide) ?_
              exact ih9 _ _ ⟨(A_RW_part σ here place), left2, (level + 1), hS, lv_sub hl [2, 1, 3, 0] rfl, hr0, up_dec c18 hm9⟩
            · have hr0 := ai_neg c21 hr0
              refine lv_lload hx hb d_RW_statementInFull_57 (lv_at hl 3 rfl) ?_
              refine lv_aload_n hx hb d_RW_statementInFull_59 rfl (lv_at hl 0 rfl) ?_
              refine lv_aload_n hx hb d_RW_statementInFull_60 rfl (lv_at hl 0 rfl) ?_
              refine lv_iload_n hx hb d_RW_statementInFull_61 rfl (lv_at hl 1 rfl) ?_
              refine lv_iload hx hb d_RW_statementInFull_62 (lv_at hl 4 rfl) ?_
              refine rdV (G := G) (As := [.int here, .int place]) (rest := [.ref h0, .long left2]) (C := RRW) ⟨hx, hb, hml, hown, hts⟩ (c_RW_part l G h0 ad σ here place _ _ hP0 hσ0 _ rfl) (cwV 2 hts (gd_V ml_RW_107 im_RW_part sl_RW_part ini_RW k_RW_part) rfl rmK_c rmK_s (by decide +kernel) ⟨Nat.le_of_ble_eq_true rfl, Nat.le_of_ble_eq_true rfl⟩) hK (pRW_recv hK hP0 hσ0) hS ⟨Nat.le_refl _, Nat.le_refl _⟩ rfl hl.1 (Nat.le_of_ble_eq_true rfl) d_RW_statementInFull_64 (fun locs hS => ?_)
              refine rdVl (G := G) (As := [.int (A_RW_part σ here place)]) (rest := [.long left2]) (C := RRW) ⟨hx, hb, hml, hown, hts⟩ (c_RW_stepsInFull l G h0 ad σ (A_RW_part σ here place) _ _ hP0 hσ0 _ rfl) (cwV 1 hts (gd_V ml_RW_110 im_RW_stepsInFull sl_RW_stepsInFull ini_RW k_RW_stepsInFull) rfl rmK_c rmK_s (by decide +kernel) ⟨Nat.le_of_ble_eq_true rfl, Nat.le_of_ble_eq_true rfl⟩) hK (pRW_recv hK hP0 hσ0) hS ⟨Nat.le_refl _, Nat.le_refl _⟩ rfl hl.1 (Nat.le_of_ble_eq_true rfl) d_RW_statementInFull_67 (fun locs hS => ?_)
              refine W.lcmp hx hb d_RW_statementInFull_70 ?_
              refine lv_if_lt (tgt := 96) hx hb d_RW_statementInFull_71 (by decide) (fun c22 => ?_) (fun c22 => ?_)
              · have hr0 := ai_pos c22 hr0
                refine lv_aload_n hx hb d_RW_statementInFull_96 rfl (lv_at hl 0 rfl) ?_
                refine lv_iload_n hx hb d_RW_statementInFull_97 rfl (lv_at hl 1 rfl) ?_
                refine lv_iload hx hb d_RW_statementInFull_98 (lv_at hl 4 rfl) ?_
                refine rdV (G := G) (As := [.int here, .int place]) (rest := []) (C := RRW) ⟨hx, hb, hml, hown, hts⟩ (c_RW_part l G h0 ad σ here place _ _ hP0 hσ0 _ rfl) (cwV 2 hts (gd_V ml_RW_107 im_RW_part sl_RW_part ini_RW k_RW_part) rfl rmK_c rmK_s (by decide +kernel) ⟨Nat.le_of_ble_eq_true rfl, Nat.le_of_ble_eq_true rfl⟩) hK (pRW_recv hK hP0 hσ0) hS ⟨Nat.le_refl _, Nat.le_refl _⟩ rfl hl.1 (Nat.le_of_ble_eq_true rfl) d_RW_statementInFull_100 (fun locs hS => ?_)
                refine lv_istore_n (lv' := [(3, .int (A_RW_part σ here place)), (0, .ref h0), (6, .int level), (4, .long left2), (7, .int place)]) hx hb d_RW_statementInFull_103 rfl hl (by decide) rfl (fun ls hl => ?_)
                refine lv_iinc (v := level + 1) (lv' := [(6, .int (level + 1)), (3, .int (A_RW_part σ here place)), (0, .ref h0), (4, .long left2), (7, .int place)]) hx hb d_RW_statementInFull_104 hl (k := 2) rfl rfl (by decide) rfl (fun ls hl => ?_)
                refine lv_goto (tgt := 9) hx hb d_RW_statementInFull_107 (by decide) ?_
                exact ih9 _ _ ⟨(A_RW_part σ here place), left2, (level + 1), hS, lv_sub hl [2, 1, 3, 0] rfl, hr0, up_dec c18 hm9⟩
              · have hr0 := ai_neg c22 hr0
                refine lv_lload hx hb d_RW_statementInFull_74 (lv_at hl 3 rfl) ?_
                refine lv_aload_n hx hb d_RW_statementInFull_76 rfl (lv_at hl 0 rfl) ?_
                refine lv_aload_n hx hb d_RW_statementInFull_77 rfl (lv_at hl 0 rfl) ?_
                refine lv_iload_n hx hb d_RW_statementInFull_78 rfl (lv_at hl 1 rfl) ?_
                refine lv_iload hx hb d_RW_statementInFull_79 (lv_at hl 4 rfl) ?_
                refine rdV (G := G) (As := [.int here, .int place]) (rest := [.ref h0, .long left2]) (C := RRW) ⟨hx, hb, hml, hown, hts⟩ (c_RW_part l G h0 ad σ here place _ _ hP0 hσ0 _ rfl) (cwV 2 hts (gd_V ml_RW_107 im_RW_part sl_RW_part ini_RW k_RW_part) rfl rmK_c rmK_s (by decide +kernel) ⟨Nat.le_of_ble_eq_true rfl, Nat.le_of_ble_eq_true rfl⟩) hK (pRW_recv hK hP0 hσ0) hS ⟨Nat.le_refl _, Nat.le_refl _⟩ rfl hl.1 (Nat.le_of_ble_eq_true rfl) d_RW_statementInFull_81 (fun locs hS => ?_)
                refine rdVl (G := G) (As := [.int (A_RW_part σ here place)]) (rest := [.long left2]) (C := RRW) ⟨hx, hb, hml, hown, hts⟩ (c_RW_stepsInFull l G h0 ad σ (A_RW_part σ here place) _ _ hP0 hσ0 _ rfl) (cwV 1 hts (gd_V ml_RW_110 im_RW_stepsInFull sl_RW_stepsInFull ini_RW k_RW_stepsInFull) rfl rmK_c rmK_s (by decide +kernel) ⟨Nat.le_of_ble_eq_true rfl, Nat.le_of_ble_eq_true rfl⟩) hK (pRW_recv hK hP0 hσ0) hS ⟨Nat.le_refl _, Nat.le_refl _⟩ rfl hl.1 (Nat.le_of_ble_eq_true rfl) d_RW_statementInFull_84 (fun locs hS => ?_)
                refine lv_lsub hx hb d_RW_statementInFull_87 ?_
                refine lv_lstore (lv' := [(4, .long (left2 - (A_RW_stepsInFull σ (A_RW_part σ here place)))), (0, .ref h0), (3, .int here), (6, .int level), (7, .int place)]) hx hb d_RW_statementInFull_88 hl (by decide) rfl (fun ls hl => ?_)
                refine lv_iinc (v := place + 1) (lv' := [(7, .int (place + 1)), (4, .long (left2 - (A_RW_stepsInFull σ (A_RW_part σ here place)))), (0, .ref h0), (3, .int here), (6, .int level)]) hx hb d_RW_statementInFull_90 hl (k := 4) rfl rfl (by decide) rfl (fun ls hl => ?_)
                refine lv_goto (tgt := 47) hx hb d_RW_statementInFull_93 (by decide) ?_
                exact ih47 _ _ ⟨(left2 - (A_RW_stepsInFull σ (A_RW_part σ here place))), (place + 1), hS, lv_sub hl [2, 3, 4, 1, 0] rfl, hr0, up_dec c21 hm47⟩
          · rintro locs ls ⟨_, _, -, -, -, hz⟩; exact Nat.not_lt_zero _ hz
        · have hr0 := ai_neg c20 hr0
          refine lv_aload_n hx hb d_RW_statementInFull_38 rfl (lv_at hl 0 rfl) ?_
          refine lv_iload_n hx hb d_RW_statementInFull_39 rfl (lv_at hl 1 rfl) ?_
          refine rdV (G := G) (As := [.int here]) (rest := []) (C := RRW) ⟨hx, hb, hml, hown, hts⟩ (c_RW_statementOf l G h0 ad σ here _ _ hP0 hσ0 _ rfl) (cwV 1 hts (gd_V ml_RW_90 im_RW_statementOf sl_RW_statementOf ini_RW k_RW_statementOf) rfl rmK_c rmK_s (by decide +kernel) ⟨Nat.le_of_ble_eq_true rfl, Nat.le_of_ble_eq_true rfl⟩) hK (pRW_recv hK hP0 hσ0) hS ⟨Nat.le_refl _, Nat.le_refl _⟩ rfl hl.1 (Nat.le_of_ble_eq_true rfl) d_RW_statementInFull_40 (fun locs hS => ?_)
          exact W.iret (v := (A_RW_statementOf σ here)) hx hb hr (fun t ht hW => ⟨⟨(A_RW_statementOf σ here), (), rfl, hr0, ht⟩, hS.F ht⟩) hS.2.2 d_RW_statementInFull_43
  · rintro locs ls ⟨_, _, _, -, -, -, hz⟩; exact Nat.not_lt_zero _ hz
end
section
theorem d_TL_init_0 : decode b_TL_init 0 = .ok (.aload_n 0, 1) := by decide +kernel
theorem d_TL_init_1 : decode b_TL_init 1 = .ok (.invokespecial 3, 3) := by decide +kernel
theorem d_TL_init_4 : decode b_TL_init 4 = .ok (.aload_n 0, 1) := by decide +kernel
theorem d_TL_init_5 : decode b_TL_init 5 = .ok (.aload_n 1, 1) := by decide +kernel
theorem d_TL_init_6 : decode b_TL_init 6 = .ok (.putfield 9, 3) := by decide +kernel
theorem d_TL_init_9 : decode b_TL_init 9 = .ok (.aload_n 0, 1) := by decide +kernel
theorem d_TL_init_10 : decode b_TL_init 10 = .ok (.aload_n 2, 1) := by decide +kernel
theorem d_TL_init_11 : decode b_TL_init 11 = .ok (.putfield 15, 3) := by decide +kernel
theorem d_TL_init_14 : decode b_TL_init 14 = .ok (.aload_n 0, 1) := by decide +kernel
theorem d_TL_init_15 : decode b_TL_init 15 = .ok (.new 19, 3) := by decide +kernel
theorem d_TL_init_18 : decode b_TL_init 18 = .ok (.dup, 1) := by decide +kernel
theorem d_TL_init_19 : decode b_TL_init 19 = .ok (.invokespecial 21, 3) := by decide +kernel
theorem d_TL_init_22 : decode b_TL_init 22 = .ok (.putfield 22, 3) := by decide +kernel
theorem d_TL_init_25 : decode b_TL_init 25 = .ok (.aload_n 0, 1) := by decide +kernel
theorem d_TL_init_26 : decode b_TL_init 26 = .ok (.new 19, 3) := by decide +kernel
theorem d_TL_init_29 : decode b_TL_init 29 = .ok (.dup, 1) := by decide +kernel
theorem d_TL_init_30 : decode b_TL_init 30 = .ok (.invokespecial 21, 3) := by decide +kernel
theorem d_TL_init_33 : decode b_TL_init 33 = .ok (.putfield 26, 3) := by decide +kernel
theorem d_TL_init_36 : decode b_TL_init 36 = .ok (.aload_n 0, 1) := by decide +kernel
theorem d_TL_init_37 : decode b_TL_init 37 = .ok (.new 19, 3) := by decide +kernel
theorem d_TL_init_40 : decode b_TL_init 40 = .ok (.dup, 1) := by decide +kernel
theorem d_TL_init_41 : decode b_TL_init 41 = .ok (.invokespecial 21, 3) := by decide +kernel
theorem d_TL_init_44 : decode b_TL_init 44 = .ok (.putfield 29, 3) := by decide +kernel
theorem d_TL_init_47 : decode b_TL_init 47 = .ok (.aload_n 0, 1) := by decide +kernel
theorem d_TL_init_48 : decode b_TL_init 48 = .ok (.new 32, 3) := by decide +kernel
theorem d_TL_init_51 : decode b_TL_init 51 = .ok (.dup, 1) := by decide +kernel
theorem d_TL_init_52 : decode b_TL_init 52 = .ok (.invokespecial 34, 3) := by decide +kernel
theorem d_TL_init_55 : decode b_TL_init 55 = .ok (.putfield 35, 3) := by decide +kernel
theorem d_TL_init_58 : decode b_TL_init 58 = .ok (.aload_n 0, 1) := by decide +kernel
theorem d_TL_init_59 : decode b_TL_init 59 = .ok (.iconst (-1), 1) := by decide +kernel
theorem d_TL_init_60 : decode b_TL_init 60 = .ok (.putfield 39, 3) := by decide +kernel
theorem d_TL_init_63 : decode b_TL_init 63 = .ok (.aload_n 0, 1) := by decide +kernel
theorem d_TL_init_64 : decode b_TL_init 64 = .ok (.iconst 0, 1) := by decide +kernel
theorem d_TL_init_65 : decode b_TL_init 65 = .ok (.putfield 43, 3) := by decide +kernel
theorem d_TL_init_68 : decode b_TL_init 68 = .ok (.aload_n 0, 1) := by decide +kernel
theorem d_TL_init_69 : decode b_TL_init 69 = .ok (.new 19, 3) := by decide +kernel
theorem d_TL_init_72 : decode b_TL_init 72 = .ok (.dup, 1) := by decide +kernel
theorem d_TL_init_73 : decode b_TL_init 73 = .ok (.invokespecial 21, 3) := by decide +kernel
theorem d_TL_init_76 : decode b_TL_init 76 = .ok (.putfield 46, 3) := by decide +kernel
theorem d_TL_init_79 : decode b_TL_init 79 = .ok (.aload_n 0, 1) := by decide +kernel
theorem d_TL_init_80 : decode b_TL_init 80 = .ok (.new 19, 3) := by decide +kernel
theorem d_TL_init_83 : decode b_TL_init 83 = .ok (.dup, 1) := by decide +kernel
theorem d_TL_init_84 : decode b_TL_init 84 = .ok (.invokespecial 21, 3) := by decide +kernel
theorem d_TL_init_87 : decode b_TL_init 87 = .ok (.putfield 49, 3) := by decide +kernel
theorem d_TL_init_90 : decode b_TL_init 90 = .ok (.aload_n 0, 1) := by decide +kernel
theorem d_TL_init_91 : decode b_TL_init 91 = .ok (.new 19, 3) := by decide +kernel
theorem d_TL_init_94 : decode b_TL_init 94 = .ok (.dup, 1) := by decide +kernel
theorem d_TL_init_95 : decode b_TL_init 95 = .ok (.invokespecial 21, 3) := by decide +kernel
theorem d_TL_init_98 : decode b_TL_init 98 = .ok (.putfield 52, 3) := by decide +kernel
theorem d_TL_init_101 : decode b_TL_init 101 = .ok (.aload_n 0, 1) := by decide +kernel
theorem d_TL_init_102 : decode b_TL_init 102 = .ok (.new 19, 3) := by decide +kernel
theorem d_TL_init_105 : decode b_TL_init 105 = .ok (.dup, 1) := by decide +kernel
theorem d_TL_init_106 : decode b_TL_init 106 = .ok (.invokespecial 21, 3) := by decide +kernel
theorem d_TL_init_109 : decode b_TL_init 109 = .ok (.putfield 55, 3) := by decide +kernel
theorem d_TL_init_112 : decode b_TL_init 112 = .ok (.aload_n 0, 1) := by decide +kernel
theorem d_TL_init_113 : decode b_TL_init 113 = .ok (.new 19, 3) := by decide +kernel
theorem d_TL_init_116 : decode b_TL_init 116 = .ok (.dup, 1) := by decide +kernel
theorem d_TL_init_117 : decode b_TL_init 117 = .ok (.invokespecial 21, 3) := by decide +kernel
theorem d_TL_init_120 : decode b_TL_init 120 = .ok (.putfield 58, 3) := by decide +kernel
theorem d_TL_init_123 : decode b_TL_init 123 = .ok (.aload_n 0, 1) := by decide +kernel
theorem d_TL_init_124 : decode b_TL_init 124 = .ok (.new 19, 3) := by decide +kernel
theorem d_TL_init_127 : decode b_TL_init 127 = .ok (.dup, 1) := by decide +kernel
theorem d_TL_init_128 : decode b_TL_init 128 = .ok (.invokespecial 21, 3) := by decide +kernel
theorem d_TL_init_131 : decode b_TL_init 131 = .ok (.putfield 61, 3) := by decide +kernel
theorem d_TL_init_134 : decode b_TL_init 134 = .ok (.return_, 1) := by decide +kernel
theorem d_TL_forget_0 : decode b_TL_forget 0 = .ok (.aload_n 0, 1) := by decide +kernel
theorem d_TL_forget_1 : decode b_TL_forget 1 = .ok (.getfield 22, 3) := by decide +kernel
theorem d_TL_forget_4 : decode b_TL_forget 4 = .ok (.iconst 0, 1) := by decide +kernel
theorem d_TL_forget_5 : decode b_TL_forget 5 = .ok (.invokevirtual 64, 3) := by decide +kernel
theorem d_TL_forget_8 : decode b_TL_forget 8 = .ok (.aload_n 0, 1) := by decide +kernel
theorem d_TL_forget_9 : decode b_TL_forget 9 = .ok (.getfield 26, 3) := by decide +kernel
theorem d_TL_forget_12 : decode b_TL_forget 12 = .ok (.iconst 0, 1) := by decide +kernel
theorem d_TL_forget_13 : decode b_TL_forget 13 = .ok (.invokevirtual 64, 3) := by decide +kernel
theorem d_TL_forget_16 : decode b_TL_forget 16 = .ok (.aload_n 0, 1) := by decide +kernel
theorem d_TL_forget_17 : decode b_TL_forget 17 = .ok (.getfield 29, 3) := by decide +kernel
theorem d_TL_forget_20 : decode b_TL_forget 20 = .ok (.iconst 0, 1) := by decide +kernel
theorem d_TL_forget_21 : decode b_TL_forget 21 = .ok (.invokevirtual 64, 3) := by decide +kernel
theorem d_TL_forget_24 : decode b_TL_forget 24 = .ok (.aload_n 0, 1) := by decide +kernel
theorem d_TL_forget_25 : decode b_TL_forget 25 = .ok (.getfield 35, 3) := by decide +kernel
theorem d_TL_forget_28 : decode b_TL_forget 28 = .ok (.invokevirtual 68, 3) := by decide +kernel
theorem d_TL_forget_31 : decode b_TL_forget 31 = .ok (.aload_n 0, 1) := by decide +kernel
theorem d_TL_forget_32 : decode b_TL_forget 32 = .ok (.iconst (-1), 1) := by decide +kernel
theorem d_TL_forget_33 : decode b_TL_forget 33 = .ok (.putfield 39, 3) := by decide +kernel
theorem d_TL_forget_36 : decode b_TL_forget 36 = .ok (.aload_n 0, 1) := by decide +kernel
theorem d_TL_forget_37 : decode b_TL_forget 37 = .ok (.iconst 0, 1) := by decide +kernel
theorem d_TL_forget_38 : decode b_TL_forget 38 = .ok (.putfield 43, 3) := by decide +kernel
theorem d_TL_forget_41 : decode b_TL_forget 41 = .ok (.return_, 1) := by decide +kernel
theorem d_TL_amountOfSteps_0 : decode b_TL_amountOfSteps 0 = .ok (.aload_n 0, 1) := by decide +kernel
theorem d_TL_amountOfSteps_1 : decode b_TL_amountOfSteps 1 = .ok (.getfield 22, 3) := by decide +kernel
theorem d_TL_amountOfSteps_4 : decode b_TL_amountOfSteps 4 = .ok (.invokevirtual 71, 3) := by decide +kernel
theorem d_TL_amountOfSteps_7 : decode b_TL_amountOfSteps 7 = .ok (.ireturn, 1) := by decide +kernel
theorem d_TL_amountOfLabels_0 : decode b_TL_amountOfLabels 0 = .ok (.aload_n 0, 1) := by decide +kernel
theorem d_TL_amountOfLabels_1 : decode b_TL_amountOfLabels 1 = .ok (.getfield 29, 3) := by decide +kernel
theorem d_TL_amountOfLabels_4 : decode b_TL_amountOfLabels 4 = .ok (.invokevirtual 71, 3) := by decide +kernel
theorem d_TL_amountOfLabels_7 : decode b_TL_amountOfLabels 7 = .ok (.ireturn, 1) := by decide +kernel
theorem d_TL_amountOfLetters_0 : decode b_TL_amountOfLetters 0 = .ok (.aload_n 0, 1) := by decide +kernel
theorem d_TL_amountOfLetters_1 : decode b_TL_amountOfLetters 1 = .ok (.getfield 35, 3) := by decide +kernel
theorem d_TL_amountOfLetters_4 : decode b_TL_amountOfLetters 4 = .ok (.invokevirtual 75, 3) := by decide +kernel
theorem d_TL_amountOfLetters_7 : decode b_TL_amountOfLetters 7 = .ok (.ireturn, 1) := by decide +kernel
theorem d_TL_amountOfSaved_0 : decode b_TL_amountOfSaved 0 = .ok (.aload_n 0, 1) := by decide +kernel
theorem d_TL_amountOfSaved_1 : decode b_TL_amountOfSaved 1 = .ok (.getfield 43, 3) := by decide +kernel
theorem d_TL_amountOfSaved_4 : decode b_TL_amountOfSaved 4 = .ok (.ireturn, 1) := by decide +kernel
theorem d_TL_stepAt_0 : decode b_TL_stepAt 0 = .ok (.aload_n 0, 1) := by decide +kernel
theorem d_TL_stepAt_1 : decode b_TL_stepAt 1 = .ok (.getfield 22, 3) := by decide +kernel
theorem d_TL_stepAt_4 : decode b_TL_stepAt 4 = .ok (.iload_n 1, 1) := by decide +kernel
theorem d_TL_stepAt_5 : decode b_TL_stepAt 5 = .ok (.invokevirtual 78, 3) := by decide +kernel
theorem d_TL_stepAt_8 : decode b_TL_stepAt 8 = .ok (.ireturn, 1) := by decide +kernel
theorem d_TL_isSavedAt_0 : decode b_TL_isSavedAt 0 = .ok (.aload_n 0, 1) := by decide +kernel
theorem d_TL_isSavedAt_1 : decode b_TL_isSavedAt 1 = .ok (.getfield 26, 3) := by decide +kernel
theorem d_TL_isSavedAt_4 : decode b_TL_isSavedAt 4 = .ok (.iload_n 1, 1) := by decide +kernel
theorem d_TL_isSavedAt_5 : decode b_TL_isSavedAt 5 = .ok (.invokevirtual 78, 3) := by decide +kernel
theorem d_TL_isSavedAt_8 : decode b_TL_isSavedAt 8 = .ok (.iconst (-1), 1) := by decide +kernel
theorem d_TL_isSavedAt_9 : decode b_TL_isSavedAt 9 = .ok (.if_icmp .eq 7, 3) := by decide +kernel
theorem d_TL_isSavedAt_12 : decode b_TL_isSavedAt 12 = .ok (.iconst 1, 1) := by decide +kernel
theorem d_TL_isSavedAt_13 : decode b_TL_isSavedAt 13 = .ok (.goto 4, 3) := by decide +kernel
theorem d_TL_isSavedAt_16 : decode b_TL_isSavedAt 16 = .ok (.iconst 0, 1) := by decide +kernel
theorem d_TL_isSavedAt_17 : decode b_TL_isSavedAt 17 = .ok (.ireturn, 1) := by decide +kernel
theorem d_TL_labelAt_0 : decode b_TL_labelAt 0 = .ok (.aload_n 0, 1) := by decide +kernel
theorem d_TL_labelAt_1 : decode b_TL_labelAt 1 = .ok (.getfield 29, 3) := by decide +kernel
theorem d_TL_labelAt_4 : decode b_TL_labelAt 4 = .ok (.iload_n 1, 1) := by decide +kernel
theorem d_TL_labelAt_5 : decode b_TL_labelAt 5 = .ok (.invokevirtual 78, 3) := by decide +kernel
theorem d_TL_labelAt_8 : decode b_TL_labelAt 8 = .ok (.ireturn, 1) := by decide +kernel
theorem d_TL_letterAt_0 : decode b_TL_letterAt 0 = .ok (.aload_n 0, 1) := by decide +kernel
theorem d_TL_letterAt_1 : decode b_TL_letterAt 1 = .ok (.getfield 35, 3) := by decide +kernel
theorem d_TL_letterAt_4 : decode b_TL_letterAt 4 = .ok (.iload_n 1, 1) := by decide +kernel
theorem d_TL_letterAt_5 : decode b_TL_letterAt 5 = .ok (.invokevirtual 82, 3) := by decide +kernel
theorem d_TL_letterAt_8 : decode b_TL_letterAt 8 = .ok (.ireturn, 1) := by decide +kernel
theorem d_TL_tell_0 : decode b_TL_tell 0 = .ok (.aload_n 0, 1) := by decide +kernel
theorem d_TL_tell_1 : decode b_TL_tell 1 = .ok (.invokevirtual 85, 3) := by decide +kernel
theorem d_TL_tell_4 : decode b_TL_tell 4 = .ok (.aload_n 0, 1) := by decide +kernel
theorem d_TL_tell_5 : decode b_TL_tell 5 = .ok (.iload_n 1, 1) := by decide +kernel
theorem d_TL_tell_6 : decode b_TL_tell 6 = .ok (.putfield 39, 3) := by decide +kernel
theorem d_TL_tell_9 : decode b_TL_tell 9 = .ok (.aload_n 0, 1) := by decide +kernel
theorem d_TL_tell_10 : decode b_TL_tell 10 = .ok (.invokevirtual 86, 3) := by decide +kernel
theorem d_TL_tell_13 : decode b_TL_tell 13 = .ok (.aload_n 0, 1) := by decide +kernel
theorem d_TL_tell_14 : decode b_TL_tell 14 = .ok (.invokevirtual 89, 3) := by decide +kernel
theorem d_TL_tell_17 : decode b_TL_tell 17 = .ok (.aload_n 0, 1) := by decide +kernel
theorem d_TL_tell_18 : decode b_TL_tell 18 = .ok (.invokevirtual 92, 3) := by decide +kernel
theorem d_TL_tell_21 : decode b_TL_tell 21 = .ok (.aload_n 0, 1) := by decide +kernel
theorem d_TL_tell_22 : decode b_TL_tell 22 = .ok (.invokevirtual 95, 3) := by decide +kernel
theorem d_TL_tell_25 : decode b_TL_tell 25 = .ok (.return_, 1) := by decide +kernel
theorem d_TL_tellSteps_0 : decode b_TL_tellSteps 0 = .ok (.aload_n 0, 1) := by decide +kernel
theorem d_TL_tellSteps_1 : decode b_TL_tellSteps 1 = .ok (.getfield 52, 3) := by decide +kernel
theorem d_TL_tellSteps_4 : decode b_TL_tellSteps 4 = .ok (.aload_n 0, 1) := by decide +kernel
theorem d_TL_tellSteps_5 : decode b_TL_tellSteps 5 = .ok (.getfield 15, 3) := by decide +kernel
theorem d_TL_tellSteps_8 : decode b_TL_tellSteps 8 = .ok (.invokevirtual 98, 3) := by decide +kernel
theorem d_TL_tellSteps_11 : decode b_TL_tellSteps 11 = .ok (.iconst (-1), 1) := by decide +kernel
theorem d_TL_tellSteps_12 : decode b_TL_tellSteps 12 = .ok (.invokevirtual 103, 3) := by decide +kernel
theorem d_TL_tellSteps_15 : decode b_TL_tellSteps 15 = .ok (.aload_n 0, 1) := by decide +kernel
theorem d_TL_tellSteps_16 : decode b_TL_tellSteps 16 = .ok (.getfield 46, 3) := by decide +kernel
theorem d_TL_tellSteps_19 : decode b_TL_tellSteps 19 = .ok (.iconst 0, 1) := by decide +kernel
theorem d_TL_tellSteps_20 : decode b_TL_tellSteps 20 = .ok (.invokevirtual 64, 3) := by decide +kernel
theorem d_TL_tellSteps_23 : decode b_TL_tellSteps 23 = .ok (.aload_n 0, 1) := by decide +kernel
theorem d_TL_tellSteps_24 : decode b_TL_tellSteps 24 = .ok (.getfield 49, 3) := by decide +kernel
theorem d_TL_tellSteps_27 : decode b_TL_tellSteps 27 = .ok (.iconst 0, 1) := by decide +kernel
theorem d_TL_tellSteps_28 : decode b_TL_tellSteps 28 = .ok (.invokevirtual 64, 3) := by decide +kernel
theorem d_TL_tellSteps_31 : decode b_TL_tellSteps 31 = .ok (.aload_n 0, 1) := by decide +kernel
theorem d_TL_tellSteps_32 : decode b_TL_tellSteps 32 = .ok (.aload_n 0, 1) := by decide +kernel
theorem d_TL_tellSteps_33 : decode b_TL_tellSteps 33 = .ok (.getfield 39, 3) := by decide +kernel
theorem d_TL_tellSteps_36 : decode b_TL_tellSteps 36 = .ok (.invokevirtual 107, 3) := by decide +kernel
theorem d_TL_tellSteps_39 : decode b_TL_tellSteps 39 = .ok (.iconst 0, 1) := by decide +kernel
theorem d_TL_tellSteps_40 : decode b_TL_tellSteps 40 = .ok (.istore_n 1, 1) := by decide +kernel
theorem d_TL_tellSteps_41 : decode b_TL_tellSteps 41 = .ok (.iload_n 1, 1) := by decide +kernel
theorem d_TL_tellSteps_42 : decode b_TL_tellSteps 42 = .ok (.ldc 110, 2) := by decide +kernel
theorem d_TL_tellSteps_44 : decode b_TL_tellSteps 44 = .ok (.if_icmp .ge 140, 3) := by decide +kernel
theorem d_TL_tellSteps_47 : decode b_TL_tellSteps 47 = .ok (.aload_n 0, 1) := by decide +kernel
theorem d_TL_tellSteps_48 : decode b_TL_tellSteps 48 = .ok (.getfield 46, 3) := by decide +kernel
theorem d_TL_tellSteps_51 : decode b_TL_tellSteps 51 = .ok (.invokevirtual 71, 3) := by decide +kernel
theorem d_TL_tellSteps_54 : decode b_TL_tellSteps 54 = .ok (.ifCond .le 130, 3) := by decide +kernel
theorem d_TL_tellSteps_57 : decode b_TL_tellSteps 57 = .ok (.aload_n 0, 1) := by decide +kernel
theorem d_TL_tellSteps_58 : decode b_TL_tellSteps 58 = .ok (.getfield 46, 3) := by decide +kernel
theorem d_TL_tellSteps_61 : decode b_TL_tellSteps 61 = .ok (.invokevirtual 71, 3) := by decide +kernel
theorem d_TL_tellSteps_64 : decode b_TL_tellSteps 64 = .ok (.iconst 1, 1) := by decide +kernel
theorem d_TL_tellSteps_65 : decode b_TL_tellSteps 65 = .ok (.isub, 1) := by decide +kernel
theorem d_TL_tellSteps_66 : decode b_TL_tellSteps 66 = .ok (.istore_n 2, 1) := by decide +kernel
theorem d_TL_tellSteps_67 : decode b_TL_tellSteps 67 = .ok (.aload_n 0, 1) := by decide +kernel
theorem d_TL_tellSteps_68 : decode b_TL_tellSteps 68 = .ok (.getfield 46, 3) := by decide +kernel
theorem d_TL_tellSteps_71 : decode b_TL_tellSteps 71 = .ok (.iload_n 2, 1) := by decide +kernel
theorem d_TL_tellSteps_72 : decode b_TL_tellSteps 72 = .ok (.invokevirtual 78, 3) := by decide +kernel
theorem d_TL_tellSteps_75 : decode b_TL_tellSteps 75 = .ok (.istore_n 3, 1) := by decide +kernel
theorem d_TL_tellSteps_76 : decode b_TL_tellSteps 76 = .ok (.aload_n 0, 1) := by decide +kernel
theorem d_TL_tellSteps_77 : decode b_TL_tellSteps 77 = .ok (.getfield 49, 3) := by decide +kernel
theorem d_TL_tellSteps_80 : decode b_TL_tellSteps 80 = .ok (.iload_n 2, 1) := by decide +kernel
theorem d_TL_tellSteps_81 : decode b_TL_tellSteps 81 = .ok (.invokevirtual 78, 3) := by decide +kernel
theorem d_TL_tellSteps_84 : decode b_TL_tellSteps 84 = .ok (.istore 4, 2) := by decide +kernel
theorem d_TL_tellSteps_86 : decode b_TL_tellSteps 86 = .ok (.iload 4, 2) := by decide +kernel
theorem d_TL_tellSteps_88 : decode b_TL_tellSteps 88 = .ok (.aload_n 0, 1) := by decide +kernel
theorem d_TL_tellSteps_89 : decode b_TL_tellSteps 89 = .ok (.getfield 15, 3) := by decide +kernel
theorem d_TL_tellSteps_92 : decode b_TL_tellSteps 92 = .ok (.iload_n 3, 1) := by decide +kernel
theorem d_TL_tellSteps_93 : decode b_TL_tellSteps 93 = .ok (.invokevirtual 111, 3) := by decide +kernel
theorem d_TL_tellSteps_96 : decode b_TL_tellSteps 96 = .ok (.if_icmp .ge 32, 3) := by decide +kernel
theorem d_TL_tellSteps_99 : decode b_TL_tellSteps 99 = .ok (.aload_n 0, 1) := by decide +kernel
theorem d_TL_tellSteps_100 : decode b_TL_tellSteps 100 = .ok (.getfield 49, 3) := by decide +kernel
theorem d_TL_tellSteps_103 : decode b_TL_tellSteps 103 = .ok (.iload_n 2, 1) := by decide +kernel
theorem d_TL_tellSteps_104 : decode b_TL_tellSteps 104 = .ok (.iload 4, 2) := by decide +kernel
theorem d_TL_tellSteps_106 : decode b_TL_tellSteps 106 = .ok (.iconst 1, 1) := by decide +kernel
theorem d_TL_tellSteps_107 : decode b_TL_tellSteps 107 = .ok (.iadd, 1) := by decide +kernel
theorem d_TL_tellSteps_108 : decode b_TL_tellSteps 108 = .ok (.invokevirtual 114, 3) := by decide +kernel
theorem d_TL_tellSteps_111 : decode b_TL_tellSteps 111 = .ok (.aload_n 0, 1) := by decide +kernel
theorem d_TL_tellSteps_112 : decode b_TL_tellSteps 112 = .ok (.aload_n 0, 1) := by decide +kernel
theorem d_TL_tellSteps_113 : decode b_TL_tellSteps 113 = .ok (.getfield 15, 3) := by decide +kernel
theorem d_TL_tellSteps_116 : decode b_TL_tellSteps 116 = .ok (.iload_n 3, 1) := by decide +kernel
theorem d_TL_tellSteps_117 : decode b_TL_tellSteps 117 = .ok (.iload 4, 2) := by decide +kernel
theorem d_TL_tellSteps_119 : decode b_TL_tellSteps 119 = .ok (.invokevirtual 117, 3) := by decide +kernel
theorem d_TL_tellSteps_122 : decode b_TL_tellSteps 122 = .ok (.invokevirtual 121, 3) := by decide +kernel
theorem d_TL_tellSteps_125 : decode b_TL_tellSteps 125 = .ok (.goto 53, 3) := by decide +kernel
theorem d_TL_tellSteps_128 : decode b_TL_tellSteps 128 = .ok (.aload_n 0, 1) := by decide +kernel
theorem d_TL_tellSteps_129 : decode b_TL_tellSteps 129 = .ok (.getfield 46, 3) := by decide +kernel
theorem d_TL_tellSteps_132 : decode b_TL_tellSteps 132 = .ok (.iload_n 2, 1) := by decide +kernel
theorem d_TL_tellSteps_133 : decode b_TL_tellSteps 133 = .ok (.invokevirtual 64, 3) := by decide +kernel
theorem d_TL_tellSteps_136 : decode b_TL_tellSteps 136 = .ok (.aload_n 0, 1) := by decide +kernel
theorem d_TL_tellSteps_137 : decode b_TL_tellSteps 137 = .ok (.getfield 49, 3) := by decide +kernel
theorem d_TL_tellSteps_140 : decode b_TL_tellSteps 140 = .ok (.iload_n 2, 1) := by decide +kernel
theorem d_TL_tellSteps_141 : decode b_TL_tellSteps 141 = .ok (.invokevirtual 64, 3) := by decide +kernel
theorem d_TL_tellSteps_144 : decode b_TL_tellSteps 144 = .ok (.aload_n 0, 1) := by decide +kernel
theorem d_TL_tellSteps_145 : decode b_TL_tellSteps 145 = .ok (.getfield 52, 3) := by decide +kernel
theorem d_TL_tellSteps_148 : decode b_TL_tellSteps 148 = .ok (.aload_n 0, 1) := by decide +kernel
theorem d_TL_tellSteps_149 : decode b_TL_tellSteps 149 = .ok (.getfield 15, 3) := by decide +kernel
theorem d_TL_tellSteps_152 : decode b_TL_tellSteps 152 = .ok (.iload_n 3, 1) := by decide +kernel
theorem d_TL_tellSteps_153 : decode b_TL_tellSteps 153 = .ok (.invokevirtual 124, 3) := by decide +kernel
theorem d_TL_tellSteps_156 : decode b_TL_tellSteps 156 = .ok (.aload_n 0, 1) := by decide +kernel
theorem d_TL_tellSteps_157 : decode b_TL_tellSteps 157 = .ok (.getfield 22, 3) := by decide +kernel
theorem d_TL_tellSteps_160 : decode b_TL_tellSteps 160 = .ok (.invokevirtual 71, 3) := by decide +kernel
theorem d_TL_tellSteps_163 : decode b_TL_tellSteps 163 = .ok (.invokevirtual 114, 3) := by decide +kernel
theorem d_TL_tellSteps_166 : decode b_TL_tellSteps 166 = .ok (.aload_n 0, 1) := by decide +kernel
theorem d_TL_tellSteps_167 : decode b_TL_tellSteps 167 = .ok (.aload_n 0, 1) := by decide +kernel
theorem d_TL_tellSteps_168 : decode b_TL_tellSteps 168 = .ok (.getfield 15, 3) := by decide +kernel
theorem d_TL_tellSteps_171 : decode b_TL_tellSteps 171 = .ok (.iload_n 3, 1) := by decide +kernel
theorem d_TL_tellSteps_172 : decode b_TL_tellSteps 172 = .ok (.invokevirtual 127, 3) := by decide +kernel
theorem d_TL_tellSteps_175 : decode b_TL_tellSteps 175 = .ok (.invokevirtual 130, 3) := by decide +kernel
theorem d_TL_tellSteps_178 : decode b_TL_tellSteps 178 = .ok (.iinc 1 1, 3) := by decide +kernel
theorem d_TL_tellSteps_181 : decode b_TL_tellSteps 181 = .ok (.goto (-140), 3) := by decide +kernel
theorem d_TL_tellSteps_184 : decode b_TL_tellSteps 184 = .ok (.return_, 1) := by decide +kernel
theorem d_TL_opn_0 : decode b_TL_opn 0 = .ok (.aload_n 0, 1) := by decide +kernel
theorem d_TL_opn_1 : decode b_TL_opn 1 = .ok (.getfield 46, 3) := by decide +kernel
theorem d_TL_opn_4 : decode b_TL_opn 4 = .ok (.iload_n 1, 1) := by decide +kernel
theorem d_TL_opn_5 : decode b_TL_opn 5 = .ok (.invokevirtual 133, 3) := by decide +kernel
theorem d_TL_opn_8 : decode b_TL_opn 8 = .ok (.aload_n 0, 1) := by decide +kernel
theorem d_TL_opn_9 : decode b_TL_opn 9 = .ok (.getfield 49, 3) := by decide +kernel
theorem d_TL_opn_12 : decode b_TL_opn 12 = .ok (.iconst 0, 1) := by decide +kernel
theorem d_TL_opn_13 : decode b_TL_opn 13 = .ok (.invokevirtual 133, 3) := by decide +kernel
theorem d_TL_opn_16 : decode b_TL_opn 16 = .ok (.return_, 1) := by decide +kernel
theorem d_TL_tellPart_0 : decode b_TL_tellPart 0 = .ok (.aload_n 0, 1) := by decide +kernel
theorem d_TL_tellPart_1 : decode b_TL_tellPart 1 = .ok (.getfield 52, 3) := by decide +kernel
theorem d_TL_tellPart_4 : decode b_TL_tellPart 4 = .ok (.aload_n 0, 1) := by decide +kernel
theorem d_TL_tellPart_5 : decode b_TL_tellPart 5 = .ok (.getfield 15, 3) := by decide +kernel
theorem d_TL_tellPart_8 : decode b_TL_tellPart 8 = .ok (.iload_n 1, 1) := by decide +kernel
theorem d_TL_tellPart_9 : decode b_TL_tellPart 9 = .ok (.invokevirtual 124, 3) := by decide +kernel
theorem d_TL_tellPart_12 : decode b_TL_tellPart 12 = .ok (.invokevirtual 78, 3) := by decide +kernel
theorem d_TL_tellPart_15 : decode b_TL_tellPart 15 = .ok (.istore_n 2, 1) := by decide +kernel
theorem d_TL_tellPart_16 : decode b_TL_tellPart 16 = .ok (.iload_n 2, 1) := by decide +kernel
theorem d_TL_tellPart_17 : decode b_TL_tellPart 17 = .ok (.iconst (-1), 1) := by decide +kernel
theorem d_TL_tellPart_18 : decode b_TL_tellPart 18 = .ok (.if_icmp .eq 14, 3) := by decide +kernel
theorem d_TL_tellPart_21 : decode b_TL_tellPart 21 = .ok (.aload_n 0, 1) := by decide +kernel
theorem d_TL_tellPart_22 : decode b_TL_tellPart 22 = .ok (.getfield 15, 3) := by decide +kernel
theorem d_TL_tellPart_25 : decode b_TL_tellPart 25 = .ok (.iload_n 1, 1) := by decide +kernel
theorem d_TL_tellPart_26 : decode b_TL_tellPart 26 = .ok (.invokevirtual 111, 3) := by decide +kernel
theorem d_TL_tellPart_29 : decode b_TL_tellPart 29 = .ok (.ifCond .ne 9, 3) := by decide +kernel
theorem d_TL_tellPart_32 : decode b_TL_tellPart 32 = .ok (.aload_n 0, 1) := by decide +kernel
theorem d_TL_tellPart_33 : decode b_TL_tellPart 33 = .ok (.iload_n 1, 1) := by decide +kernel
theorem d_TL_tellPart_34 : decode b_TL_tellPart 34 = .ok (.invokevirtual 107, 3) := by decide +kernel
theorem d_TL_tellPart_37 : decode b_TL_tellPart 37 = .ok (.return_, 1) := by decide +kernel
theorem d_TL_tellPart_38 : decode b_TL_tellPart 38 = .ok (.aload_n 0, 1) := by decide +kernel
theorem d_TL_tellPart_39 : decode b_TL_tellPart 39 = .ok (.getfield 26, 3) := by decide +kernel
theorem d_TL_tellPart_42 : decode b_TL_tellPart 42 = .ok (.iload_n 2, 1) := by decide +kernel
theorem d_TL_tellPart_43 : decode b_TL_tellPart 43 = .ok (.iconst 0, 1) := by decide +kernel
theorem d_TL_tellPart_44 : decode b_TL_tellPart 44 = .ok (.invokevirtual 114, 3) := by decide +kernel
theorem d_TL_tellPart_47 : decode b_TL_tellPart 47 = .ok (.aload_n 0, 1) := by decide +kernel
theorem d_TL_tellPart_48 : decode b_TL_tellPart 48 = .ok (.bipush (-2), 2) := by decide +kernel
theorem d_TL_tellPart_50 : decode b_TL_tellPart 50 = .ok (.iload_n 2, 1) := by decide +kernel
theorem d_TL_tellPart_51 : decode b_TL_tellPart 51 = .ok (.isub, 1) := by decide +kernel
theorem d_TL_tellPart_52 : decode b_TL_tellPart 52 = .ok (.invokevirtual 130, 3) := by decide +kernel
theorem d_TL_tellPart_55 : decode b_TL_tellPart 55 = .ok (.return_, 1) := by decide +kernel
theorem d_TL_addStep_0 : decode b_TL_addStep 0 = .ok (.aload_n 0, 1) := by decide +kernel
theorem d_TL_addStep_1 : decode b_TL_addStep 1 = .ok (.getfield 22, 3) := by decide +kernel
theorem d_TL_addStep_4 : decode b_TL_addStep 4 = .ok (.iload_n 1, 1) := by decide +kernel
theorem d_TL_addStep_5 : decode b_TL_addStep 5 = .ok (.invokevirtual 133, 3) := by decide +kernel
theorem d_TL_addStep_8 : decode b_TL_addStep 8 = .ok (.aload_n 0, 1) := by decide +kernel
theorem d_TL_addStep_9 : decode b_TL_addStep 9 = .ok (.getfield 26, 3) := by decide +kernel
theorem d_TL_addStep_12 : decode b_TL_addStep 12 = .ok (.iconst (-1), 1) := by decide +kernel
theorem d_TL_addStep_13 : decode b_TL_addStep 13 = .ok (.invokevirtual 133, 3) := by decide +kernel
theorem d_TL_addStep_16 : decode b_TL_addStep 16 = .ok (.return_, 1) := by decide +kernel
theorem d_TL_numberSavedRows_0 : decode b_TL_numberSavedRows 0 = .ok (.iconst 0, 1) := by decide +kernel
theorem d_TL_numberSavedRows_1 : decode b_TL_numberSavedRows 1 = .ok (.istore_n 1, 1) := by decide +kernel
theorem d_TL_numberSavedRows_2 : decode b_TL_numberSavedRows 2 = .ok (.iload_n 1, 1) := by decide +kernel
theorem d_TL_numberSavedRows_3 : decode b_TL_numberSavedRows 3 = .ok (.aload_n 0, 1) := by decide +kernel
theorem d_TL_numberSavedRows_4 : decode b_TL_numberSavedRows 4 = .ok (.getfield 22, 3) := by decide +kernel
theorem d_TL_numberSavedRows_7 : decode b_TL_numberSavedRows 7 = .ok (.invokevirtual 71, 3) := by decide +kernel
theorem d_TL_numberSavedRows_10 : decode b_TL_numberSavedRows 10 = .ok (.if_icmp .ge 76, 3) := by decide +kernel
theorem d_TL_numberSavedRows_13 : decode b_TL_numberSavedRows 13 = .ok (.aload_n 0, 1) := by decide +kernel
theorem d_TL_numberSavedRows_14 : decode b_TL_numberSavedRows 14 = .ok (.iload_n 1, 1) := by decide +kernel
theorem d_TL_numberSavedRows_15 : decode b_TL_numberSavedRows 15 = .ok (.invokevirtual 136, 3) := by decide +kernel
theorem d_TL_numberSavedRows_18 : decode b_TL_numberSavedRows 18 = .ok (.ifCond .eq 25, 3) := by decide +kernel
theorem d_TL_numberSavedRows_21 : decode b_TL_numberSavedRows 21 = .ok (.aload_n 0, 1) := by decide +kernel
theorem d_TL_numberSavedRows_22 : decode b_TL_numberSavedRows 22 = .ok (.getfield 26, 3) := by decide +kernel
theorem d_TL_numberSavedRows_25 : decode b_TL_numberSavedRows 25 = .ok (.iload_n 1, 1) := by decide +kernel
theorem d_TL_numberSavedRows_26 : decode b_TL_numberSavedRows 26 = .ok (.aload_n 0, 1) := by decide +kernel
theorem d_TL_numberSavedRows_27 : decode b_TL_numberSavedRows 27 = .ok (.getfield 43, 3) := by decide +kernel
theorem d_TL_numberSavedRows_30 : decode b_TL_numberSavedRows 30 = .ok (.invokevirtual 114, 3) := by decide +kernel
theorem d_TL_numberSavedRows_33 : decode b_TL_numberSavedRows 33 = .ok (.aload_n 0, 1) := by decide +kernel
theorem d_TL_numberSavedRows_34 : decode b_TL_numberSavedRows 34 = .ok (.dup, 1) := by decide +kernel
theorem d_TL_numberSavedRows_35 : decode b_TL_numberSavedRows 35 = .ok (.getfield 43, 3) := by decide +kernel
theorem d_TL_numberSavedRows_38 : decode b_TL_numberSavedRows 38 = .ok (.iconst 1, 1) := by decide +kernel
theorem d_TL_numberSavedRows_39 : decode b_TL_numberSavedRows 39 = .ok (.iadd, 1) := by decide +kernel
theorem d_TL_numberSavedRows_40 : decode b_TL_numberSavedRows 40 = .ok (.putfield 43, 3) := by decide +kernel
theorem d_TL_numberSavedRows_43 : decode b_TL_numberSavedRows 43 = .ok (.aload_n 0, 1) := by decide +kernel
theorem d_TL_numberSavedRows_44 : decode b_TL_numberSavedRows 44 = .ok (.getfield 22, 3) := by decide +kernel
theorem d_TL_numberSavedRows_47 : decode b_TL_numberSavedRows 47 = .ok (.iload_n 1, 1) := by decide +kernel
theorem d_TL_numberSavedRows_48 : decode b_TL_numberSavedRows 48 = .ok (.invokevirtual 78, 3) := by decide +kernel
theorem d_TL_numberSavedRows_51 : decode b_TL_numberSavedRows 51 = .ok (.istore_n 2, 1) := by decide +kernel
theorem d_TL_numberSavedRows_52 : decode b_TL_numberSavedRows 52 = .ok (.iload_n 2, 1) := by decide +kernel
theorem d_TL_numberSavedRows_53 : decode b_TL_numberSavedRows 53 = .ok (.bipush (-2), 2) := by decide +kernel
theorem d_TL_numberSavedRows_55 : decode b_TL_numberSavedRows 55 = .ok (.if_icmp .gt 25, 3) := by decide +kernel
theorem d_TL_numberSavedRows_58 : decode b_TL_numberSavedRows 58 = .ok (.aload_n 0, 1) := by decide +kernel
theorem d_TL_numberSavedRows_59 : decode b_TL_numberSavedRows 59 = .ok (.getfield 22, 3) := by decide +kernel
theorem d_TL_numberSavedRows_62 : decode b_TL_numberSavedRows 62 = .ok (.iload_n 1, 1) := by decide +kernel
theorem d_TL_numberSavedRows_63 : decode b_TL_numberSavedRows 63 = .ok (.bipush (-2), 2) := by decide +kernel
theorem d_TL_numberSavedRows_65 : decode b_TL_numberSavedRows 65 = .ok (.aload_n 0, 1) := by decide +kernel
theorem d_TL_numberSavedRows_66 : decode b_TL_numberSavedRows 66 = .ok (.getfield 26, 3) := by decide +kernel
theorem d_TL_numberSavedRows_69 : decode b_TL_numberSavedRows 69 = .ok (.bipush (-2), 2) := by decide +kernel
theorem d_TL_numberSavedRows_71 : decode b_TL_numberSavedRows 71 = .ok (.iload_n 2, 1) := by decide +kernel
theorem d_TL_numberSavedRows_72 : decode b_TL_numberSavedRows 72 = .ok (.isub, 1) := by decide +kernel
theorem d_TL_numberSavedRows_73 : decode b_TL_numberSavedRows 73 = .ok (.invokevirtual 78, 3) := by decide +kernel
theorem d_TL_numberSavedRows_76 : decode b_TL_numberSavedRows 76 = .ok (.isub, 1) := by decide +kernel
theorem d_TL_numberSavedRows_77 : decode b_TL_numberSavedRows 77 = .ok (.invokevirtual 114, 3) := by decide +kernel
theorem d_TL_numberSavedRows_80 : decode b_TL_numberSavedRows 80 = .ok (.iinc 1 1, 3) := by decide +kernel
theorem d_TL_numberSavedRows_83 : decode b_TL_numberSavedRows 83 = .ok (.goto (-81), 3) := by decide +kernel
theorem d_TL_numberSavedRows_86 : decode b_TL_numberSavedRows 86 = .ok (.return_, 1) := by decide +kernel
theorem d_TL_numberStatements_0 : decode b_TL_numberStatements 0 = .ok (.aload_n 0, 1) := by decide +kernel
theorem d_TL_numberStatements_1 : decode b_TL_numberStatements 1 = .ok (.getfield 55, 3) := by decide +kernel
theorem d_TL_numberStatements_4 : decode b_TL_numberStatements 4 = .ok (.aload_n 0, 1) := by decide +kernel
theorem d_TL_numberStatements_5 : decode b_TL_numberStatements 5 = .ok (.getfield 9, 3) := by decide +kernel
theorem d_TL_numberStatements_8 : decode b_TL_numberStatements 8 = .ok (.invokevirtual 140, 3) := by decide +kernel
theorem d_TL_numberStatements_11 : decode b_TL_numberStatements 11 = .ok (.iconst (-1), 1) := by decide +kernel
theorem d_TL_numberStatements_12 : decode b_TL_numberStatements 12 = .ok (.invokevirtual 103, 3) := by decide +kernel
theorem d_TL_numberStatements_15 : decode b_TL_numberStatements 15 = .ok (.iconst 0, 1) := by decide +kernel
theorem d_TL_numberStatements_16 : decode b_TL_numberStatements 16 = .ok (.istore_n 1, 1) := by decide +kernel
theorem d_TL_numberStatements_17 : decode b_TL_numberStatements 17 = .ok (.iload_n 1, 1) := by decide +kernel
theorem d_TL_numberStatements_18 : decode b_TL_numberStatements 18 = .ok (.aload_n 0, 1) := by decide +kernel
theorem d_TL_numberStatements_19 : decode b_TL_numberStatements 19 = .ok (.getfield 22, 3) := by decide +kernel
theorem d_TL_numberStatements_22 : decode b_TL_numberStatements 22 = .ok (.invokevirtual 71, 3) := by decide +kernel
theorem d_TL_numberStatements_25 : decode b_TL_numberStatements 25 = .ok (.if_icmp .ge 49, 3) := by decide +kernel
theorem d_TL_numberStatements_28 : decode b_TL_numberStatements 28 = .ok (.aload_n 0, 1) := by decide +kernel
theorem d_TL_numberStatements_29 : decode b_TL_numberStatements 29 = .ok (.getfield 22, 3) := by decide +kernel
theorem d_TL_numberStatements_32 : decode b_TL_numberStatements 32 = .ok (.iload_n 1, 1) := by decide +kernel
theorem d_TL_numberStatements_33 : decode b_TL_numberStatements 33 = .ok (.invokevirtual 78, 3) := by decide +kernel
theorem d_TL_numberStatements_36 : decode b_TL_numberStatements 36 = .ok (.istore_n 2, 1) := by decide +kernel
theorem d_TL_numberStatements_37 : decode b_TL_numberStatements 37 = .ok (.iload_n 2, 1) := by decide +kernel
theorem d_TL_numberStatements_38 : decode b_TL_numberStatements 38 = .ok (.bipush (-2), 2) := by decide +kernel
theorem d_TL_numberStatements_40 : decode b_TL_numberStatements 40 = .ok (.if_icmp .le 28, 3) := by decide +kernel
theorem d_TL_numberStatements_43 : decode b_TL_numberStatements 43 = .ok (.aload_n 0, 1) := by decide +kernel
theorem d_TL_numberStatements_44 : decode b_TL_numberStatements 44 = .ok (.getfield 55, 3) := by decide +kernel
theorem d_TL_numberStatements_47 : decode b_TL_numberStatements 47 = .ok (.iload_n 2, 1) := by decide +kernel
theorem d_TL_numberStatements_48 : decode b_TL_numberStatements 48 = .ok (.invokevirtual 78, 3) := by decide +kernel
theorem d_TL_numberStatements_51 : decode b_TL_numberStatements 51 = .ok (.iconst (-1), 1) := by decide +kernel
theorem d_TL_numberStatements_52 : decode b_TL_numberStatements 52 = .ok (.if_icmp .ne 16, 3) := by decide +kernel
theorem d_TL_numberStatements_55 : decode b_TL_numberStatements 55 = .ok (.aload_n 0, 1) := by decide +kernel
theorem d_TL_numberStatements_56 : decode b_TL_numberStatements 56 = .ok (.getfield 55, 3) := by decide +kernel
theorem d_TL_numberStatements_59 : decode b_TL_numberStatements 59 = .ok (.iload_n 2, 1) := by decide +kernel
theorem d_TL_numberStatements_60 : decode b_TL_numberStatements 60 = .ok (.aload_n 0, 1) := by decide +kernel
theorem d_TL_numberStatements_61 : decode b_TL_numberStatements 61 = .ok (.iload_n 2, 1) := by decide +kernel
theorem d_TL_numberStatements_62 : decode b_TL_numberStatements 62 = .ok (.invokevirtual 143, 3) := by decide +kernel
theorem d_TL_numberStatements_65 : decode b_TL_numberStatements 65 = .ok (.invokevirtual 114, 3) := by decide +kernel
theorem d_TL_numberStatements_68 : decode b_TL_numberStatements 68 = .ok (.iinc 1 1, 3) := by decide +kernel
theorem d_TL_numberStatements_71 : decode b_TL_numberStatements 71 = .ok (.goto (-54), 3) := by decide +kernel
theorem d_TL_numberStatements_74 : decode b_TL_numberStatements 74 = .ok (.return_, 1) := by decide +kernel
theorem d_TL_numberOfNew_0 : decode b_TL_numberOfNew 0 = .ok (.aload_n 0, 1) := by decide +kernel
theorem d_TL_numberOfNew_1 : decode b_TL_numberOfNew 1 = .ok (.getfield 9, 3) := by decide +kernel
theorem d_TL_numberOfNew_4 : decode b_TL_numberOfNew 4 = .ok (.iload_n 1, 1) := by decide +kernel
theorem d_TL_numberOfNew_5 : decode b_TL_numberOfNew 5 = .ok (.invokevirtual 146, 3) := by decide +kernel
theorem d_TL_numberOfNew_8 : decode b_TL_numberOfNew 8 = .ok (.ifCond .eq 14, 3) := by decide +kernel
theorem d_TL_numberOfNew_11 : decode b_TL_numberOfNew 11 = .ok (.aload_n 0, 1) := by decide +kernel
theorem d_TL_numberOfNew_12 : decode b_TL_numberOfNew 12 = .ok (.getfield 9, 3) := by decide +kernel
theorem d_TL_numberOfNew_15 : decode b_TL_numberOfNew 15 = .ok (.iload_n 1, 1) := by decide +kernel
theorem d_TL_numberOfNew_16 : decode b_TL_numberOfNew 16 = .ok (.invokevirtual 149, 3) := by decide +kernel
theorem d_TL_numberOfNew_19 : decode b_TL_numberOfNew 19 = .ok (.iconst 1, 1) := by decide +kernel
theorem d_TL_numberOfNew_20 : decode b_TL_numberOfNew 20 = .ok (.iadd, 1) := by decide +kernel
theorem d_TL_numberOfNew_21 : decode b_TL_numberOfNew 21 = .ok (.ireturn, 1) := by decide +kernel
theorem d_TL_numberOfNew_22 : decode b_TL_numberOfNew 22 = .ok (.aload_n 0, 1) := by decide +kernel
theorem d_TL_numberOfNew_23 : decode b_TL_numberOfNew 23 = .ok (.getfield 29, 3) := by decide +kernel
theorem d_TL_numberOfNew_26 : decode b_TL_numberOfNew 26 = .ok (.iload_n 1, 1) := by decide +kernel
theorem d_TL_numberOfNew_27 : decode b_TL_numberOfNew 27 = .ok (.invokevirtual 133, 3) := by decide +kernel
theorem d_TL_numberOfNew_30 : decode b_TL_numberOfNew 30 = .ok (.aload_n 0, 1) := by decide +kernel
theorem d_TL_numberOfNew_31 : decode b_TL_numberOfNew 31 = .ok (.getfield 9, 3) := by decide +kernel
theorem d_TL_numberOfNew_34 : decode b_TL_numberOfNew 34 = .ok (.invokevirtual 152, 3) := by decide +kernel
theorem d_TL_numberOfNew_37 : decode b_TL_numberOfNew 37 = .ok (.aload_n 0, 1) := by decide +kernel
theorem d_TL_numberOfNew_38 : decode b_TL_numberOfNew 38 = .ok (.getfield 29, 3) := by decide +kernel
theorem d_TL_numberOfNew_41 : decode b_TL_numberOfNew 41 = .ok (.invokevirtual 71, 3) := by decide +kernel
theorem d_TL_numberOfNew_44 : decode b_TL_numberOfNew 44 = .ok (.iadd, 1) := by decide +kernel
theorem d_TL_numberOfNew_45 : decode b_TL_numberOfNew 45 = .ok (.ireturn, 1) := by decide +kernel
theorem d_TL_tellLetters_0 : decode b_TL_tellLetters 0 = .ok (.aload_n 0, 1) := by decide +kernel
theorem d_TL_tellLetters_1 : decode b_TL_tellLetters 1 = .ok (.getfield 9, 3) := by decide +kernel
theorem d_TL_tellLetters_4 : decode b_TL_tellLetters 4 = .ok (.invokevirtual 152, 3) := by decide +kernel
theorem d_TL_tellLetters_7 : decode b_TL_tellLetters 7 = .ok (.aload_n 0, 1) := by decide +kernel
theorem d_TL_tellLetters_8 : decode b_TL_tellLetters 8 = .ok (.getfield 29, 3) := by decide +kernel
theorem d_TL_tellLetters_11 : decode b_TL_tellLetters 11 = .ok (.invokevirtual 71, 3) := by decide +kernel
theorem d_TL_tellLetters_14 : decode b_TL_tellLetters 14 = .ok (.iadd, 1) := by decide +kernel
theorem d_TL_tellLetters_15 : decode b_TL_tellLetters 15 = .ok (.iconst 1, 1) := by decide +kernel
theorem d_TL_tellLetters_16 : decode b_TL_tellLetters 16 = .ok (.iadd, 1) := by decide +kernel
theorem d_TL_tellLetters_17 : decode b_TL_tellLetters 17 = .ok (.istore_n 1, 1) := by decide +kernel
theorem d_TL_tellLetters_18 : decode b_TL_tellLetters 18 = .ok (.iconst 0, 1) := by decide +kernel
theorem d_TL_tellLetters_19 : decode b_TL_tellLetters 19 = .ok (.istore_n 2, 1) := by decide +kernel
theorem d_TL_tellLetters_20 : decode b_TL_tellLetters 20 = .ok (.iload_n 2, 1) := by decide +kernel
theorem d_TL_tellLetters_21 : decode b_TL_tellLetters 21 = .ok (.aload_n 0, 1) := by decide +kernel
theorem d_TL_tellLetters_22 : decode b_TL_tellLetters 22 = .ok (.getfield 22, 3) := by decide +kernel
theorem d_TL_tellLetters_25 : decode b_TL_tellLetters 25 = .ok (.invokevirtual 71, 3) := by decide +kernel
theorem d_TL_tellLetters_28 : decode b_TL_tellLetters 28 = .ok (.if_icmp .ge 70, 3) := by decide +kernel
theorem d_TL_tellLetters_31 : decode b_TL_tellLetters 31 = .ok (.aload_n 0, 1) := by decide +kernel
theorem d_TL_tellLetters_32 : decode b_TL_tellLetters 32 = .ok (.getfield 22, 3) := by decide +kernel
theorem d_TL_tellLetters_35 : decode b_TL_tellLetters 35 = .ok (.iload_n 2, 1) := by decide +kernel
theorem d_TL_tellLetters_36 : decode b_TL_tellLetters 36 = .ok (.invokevirtual 78, 3) := by decide +kernel
theorem d_TL_tellLetters_39 : decode b_TL_tellLetters 39 = .ok (.istore_n 3, 1) := by decide +kernel
theorem d_TL_tellLetters_40 : decode b_TL_tellLetters 40 = .ok (.iload_n 3, 1) := by decide +kernel
theorem d_TL_tellLetters_41 : decode b_TL_tellLetters 41 = .ok (.bipush (-2), 2) := by decide +kernel
theorem d_TL_tellLetters_43 : decode b_TL_tellLetters 43 = .ok (.if_icmp .gt 19, 3) := by decide +kernel
theorem d_TL_tellLetters_46 : decode b_TL_tellLetters 46 = .ok (.aload_n 0, 1) := by decide +kernel
theorem d_TL_tellLetters_47 : decode b_TL_tellLetters 47 = .ok (.getfield 35, 3) := by decide +kernel
theorem d_TL_tellLetters_50 : decode b_TL_tellLetters 50 = .ok (.iload_n 1, 1) := by decide +kernel
theorem d_TL_tellLetters_51 : decode b_TL_tellLetters 51 = .ok (.bipush (-2), 2) := by decide +kernel
theorem d_TL_tellLetters_53 : decode b_TL_tellLetters 53 = .ok (.iadd, 1) := by decide +kernel
theorem d_TL_tellLetters_54 : decode b_TL_tellLetters 54 = .ok (.iload_n 3, 1) := by decide +kernel
theorem d_TL_tellLetters_55 : decode b_TL_tellLetters 55 = .ok (.isub, 1) := by decide +kernel
theorem d_TL_tellLetters_56 : decode b_TL_tellLetters 56 = .ok (.invokevirtual 155, 3) := by decide +kernel
theorem d_TL_tellLetters_59 : decode b_TL_tellLetters 59 = .ok (.goto 18, 3) := by decide +kernel
theorem d_TL_tellLetters_62 : decode b_TL_tellLetters 62 = .ok (.aload_n 0, 1) := by decide +kernel
theorem d_TL_tellLetters_63 : decode b_TL_tellLetters 63 = .ok (.getfield 35, 3) := by decide +kernel
theorem d_TL_tellLetters_66 : decode b_TL_tellLetters 66 = .ok (.aload_n 0, 1) := by decide +kernel
theorem d_TL_tellLetters_67 : decode b_TL_tellLetters 67 = .ok (.getfield 55, 3) := by decide +kernel
theorem d_TL_tellLetters_70 : decode b_TL_tellLetters 70 = .ok (.iload_n 3, 1) := by decide +kernel
theorem d_TL_tellLetters_71 : decode b_TL_tellLetters 71 = .ok (.invokevirtual 78, 3) := by decide +kernel
theorem d_TL_tellLetters_74 : decode b_TL_tellLetters 74 = .ok (.invokevirtual 155, 3) := by decide +kernel
theorem d_TL_tellLetters_77 : decode b_TL_tellLetters 77 = .ok (.aload_n 0, 1) := by decide +kernel
theorem d_TL_tellLetters_78 : decode b_TL_tellLetters 78 = .ok (.iload_n 2, 1) := by decide +kernel
theorem d_TL_tellLetters_79 : decode b_TL_tellLetters 79 = .ok (.invokevirtual 136, 3) := by decide +kernel
theorem d_TL_tellLetters_82 : decode b_TL_tellLetters 82 = .ok (.ifCond .eq 10, 3) := by decide +kernel
theorem d_TL_tellLetters_85 : decode b_TL_tellLetters 85 = .ok (.aload_n 0, 1) := by decide +kernel
theorem d_TL_tellLetters_86 : decode b_TL_tellLetters 86 = .ok (.getfield 35, 3) := by decide +kernel
theorem d_TL_tellLetters_89 : decode b_TL_tellLetters 89 = .ok (.invokevirtual 158, 3) := by decide +kernel
theorem d_TL_tellLetters_92 : decode b_TL_tellLetters 92 = .ok (.iinc 2 1, 3) := by decide +kernel
theorem d_TL_tellLetters_95 : decode b_TL_tellLetters 95 = .ok (.goto (-75), 3) := by decide +kernel
theorem d_TL_tellLetters_98 : decode b_TL_tellLetters 98 = .ok (.return_, 1) := by decide +kernel
theorem d_TL_makesItsRow_0 : decode b_TL_makesItsRow 0 = .ok (.aload_n 0, 1) := by decide +kernel
theorem d_TL_makesItsRow_1 : decode b_TL_makesItsRow 1 = .ok (.getfield 39, 3) := by decide +kernel
theorem d_TL_makesItsRow_4 : decode b_TL_makesItsRow 4 = .ok (.iconst (-1), 1) := by decide +kernel
theorem d_TL_makesItsRow_5 : decode b_TL_makesItsRow 5 = .ok (.if_icmp .ne 5, 3) := by decide +kernel
theorem d_TL_makesItsRow_8 : decode b_TL_makesItsRow 8 = .ok (.iconst 1, 1) := by decide +kernel
theorem d_TL_makesItsRow_9 : decode b_TL_makesItsRow 9 = .ok (.ireturn, 1) := by decide +kernel
theorem d_TL_makesItsRow_10 : decode b_TL_makesItsRow 10 = .ok (.aload_n 0, 1) := by decide +kernel
theorem d_TL_makesItsRow_11 : decode b_TL_makesItsRow 11 = .ok (.getfield 58, 3) := by decide +kernel
theorem d_TL_makesItsRow_14 : decode b_TL_makesItsRow 14 = .ok (.iconst 0, 1) := by decide +kernel
theorem d_TL_makesItsRow_15 : decode b_TL_makesItsRow 15 = .ok (.invokevirtual 64, 3) := by decide +kernel
theorem d_TL_makesItsRow_18 : decode b_TL_makesItsRow 18 = .ok (.aload_n 0, 1) := by decide +kernel
theorem d_TL_makesItsRow_19 : decode b_TL_makesItsRow 19 = .ok (.getfield 61, 3) := by decide +kernel
theorem d_TL_makesItsRow_22 : decode b_TL_makesItsRow 22 = .ok (.iconst 0, 1) := by decide +kernel
theorem d_TL_makesItsRow_23 : decode b_TL_makesItsRow 23 = .ok (.invokevirtual 64, 3) := by decide +kernel
theorem d_TL_makesItsRow_26 : decode b_TL_makesItsRow 26 = .ok (.iconst 0, 1) := by decide +kernel
theorem d_TL_makesItsRow_27 : decode b_TL_makesItsRow 27 = .ok (.istore_n 1, 1) := by decide +kernel
theorem d_TL_makesItsRow_28 : decode b_TL_makesItsRow 28 = .ok (.iload_n 1, 1) := by decide +kernel
theorem d_TL_makesItsRow_29 : decode b_TL_makesItsRow 29 = .ok (.aload_n 0, 1) := by decide +kernel
theorem d_TL_makesItsRow_30 : decode b_TL_makesItsRow 30 = .ok (.getfield 22, 3) := by decide +kernel
theorem d_TL_makesItsRow_33 : decode b_TL_makesItsRow 33 = .ok (.invokevirtual 71, 3) := by decide +kernel
theorem d_TL_makesItsRow_36 : decode b_TL_makesItsRow 36 = .ok (.if_icmp .ge 77, 3) := by decide +kernel
theorem d_TL_makesItsRow_39 : decode b_TL_makesItsRow 39 = .ok (.aload_n 0, 1) := by decide +kernel
theorem d_TL_makesItsRow_40 : decode b_TL_makesItsRow 40 = .ok (.getfield 58, 3) := by decide +kernel
theorem d_TL_makesItsRow_43 : decode b_TL_makesItsRow 43 = .ok (.invokevirtual 71, 3) := by decide +kernel
theorem d_TL_makesItsRow_46 : decode b_TL_makesItsRow 46 = .ok (.aload_n 0, 1) := by decide +kernel
theorem d_TL_makesItsRow_47 : decode b_TL_makesItsRow 47 = .ok (.iload_n 1, 1) := by decide +kernel
theorem d_TL_makesItsRow_48 : decode b_TL_makesItsRow 48 = .ok (.invokevirtual 161, 3) := by decide +kernel
theorem d_TL_makesItsRow_51 : decode b_TL_makesItsRow 51 = .ok (.isub, 1) := by decide +kernel
theorem d_TL_makesItsRow_52 : decode b_TL_makesItsRow 52 = .ok (.istore_n 2, 1) := by decide +kernel
theorem d_TL_makesItsRow_53 : decode b_TL_makesItsRow 53 = .ok (.iload_n 2, 1) := by decide +kernel
theorem d_TL_makesItsRow_54 : decode b_TL_makesItsRow 54 = .ok (.ifCond .ge 7, 3) := by decide +kernel
theorem d_TL_makesItsRow_57 : decode b_TL_makesItsRow 57 = .ok (.iconst (-1), 1) := by decide +kernel
theorem d_TL_makesItsRow_58 : decode b_TL_makesItsRow 58 = .ok (.goto 9, 3) := by decide +kernel
theorem d_TL_makesItsRow_61 : decode b_TL_makesItsRow 61 = .ok (.aload_n 0, 1) := by decide +kernel
theorem d_TL_makesItsRow_62 : decode b_TL_makesItsRow 62 = .ok (.iload_n 1, 1) := by decide +kernel
theorem d_TL_makesItsRow_63 : decode b_TL_makesItsRow 63 = .ok (.iload_n 2, 1) := by decide +kernel
theorem d_TL_makesItsRow_64 : decode b_TL_makesItsRow 64 = .ok (.invokevirtual 164, 3) := by decide +kernel
theorem d_TL_makesItsRow_67 : decode b_TL_makesItsRow 67 = .ok (.istore_n 3, 1) := by decide +kernel
theorem d_TL_makesItsRow_68 : decode b_TL_makesItsRow 68 = .ok (.iload_n 3, 1) := by decide +kernel
theorem d_TL_makesItsRow_69 : decode b_TL_makesItsRow 69 = .ok (.iconst (-1), 1) := by decide +kernel
theorem d_TL_makesItsRow_70 : decode b_TL_makesItsRow 70 = .ok (.if_icmp .ne 5, 3) := by decide +kernel
theorem d_TL_makesItsRow_73 : decode b_TL_makesItsRow 73 = .ok (.iconst 0, 1) := by decide +kernel
theorem d_TL_makesItsRow_74 : decode b_TL_makesItsRow 74 = .ok (.ireturn, 1) := by decide +kernel
theorem d_TL_makesItsRow_75 : decode b_TL_makesItsRow 75 = .ok (.aload_n 0, 1) := by decide +kernel
theorem d_TL_makesItsRow_76 : decode b_TL_makesItsRow 76 = .ok (.getfield 58, 3) := by decide +kernel
theorem d_TL_makesItsRow_79 : decode b_TL_makesItsRow 79 = .ok (.iload_n 2, 1) := by decide +kernel
theorem d_TL_makesItsRow_80 : decode b_TL_makesItsRow 80 = .ok (.invokevirtual 64, 3) := by decide +kernel
theorem d_TL_makesItsRow_83 : decode b_TL_makesItsRow 83 = .ok (.aload_n 0, 1) := by decide +kernel
theorem d_TL_makesItsRow_84 : decode b_TL_makesItsRow 84 = .ok (.getfield 58, 3) := by decide +kernel
theorem d_TL_makesItsRow_87 : decode b_TL_makesItsRow 87 = .ok (.iload_n 3, 1) := by decide +kernel
theorem d_TL_makesItsRow_88 : decode b_TL_makesItsRow 88 = .ok (.invokevirtual 133, 3) := by decide +kernel
theorem d_TL_makesItsRow_91 : decode b_TL_makesItsRow 91 = .ok (.aload_n 0, 1) := by decide +kernel
theorem d_TL_makesItsRow_92 : decode b_TL_makesItsRow 92 = .ok (.iload_n 1, 1) := by decide +kernel
theorem d_TL_makesItsRow_93 : decode b_TL_makesItsRow 93 = .ok (.invokevirtual 136, 3) := by decide +kernel
theorem d_TL_makesItsRow_96 : decode b_TL_makesItsRow 96 = .ok (.ifCond .eq 11, 3) := by decide +kernel
theorem d_TL_makesItsRow_99 : decode b_TL_makesItsRow 99 = .ok (.aload_n 0, 1) := by decide +kernel
theorem d_TL_makesItsRow_100 : decode b_TL_makesItsRow 100 = .ok (.getfield 61, 3) := by decide +kernel
theorem d_TL_makesItsRow_103 : decode b_TL_makesItsRow 103 = .ok (.iload_n 3, 1) := by decide +kernel
theorem d_TL_makesItsRow_104 : decode b_TL_makesItsRow 104 = .ok (.invokevirtual 133, 3) := by decide +kernel
theorem d_TL_makesItsRow_107 : decode b_TL_makesItsRow 107 = .ok (.iinc 1 1, 3) := by decide +kernel
theorem d_TL_makesItsRow_110 : decode b_TL_makesItsRow 110 = .ok (.goto (-82), 3) := by decide +kernel
theorem d_TL_makesItsRow_113 : decode b_TL_makesItsRow 113 = .ok (.aload_n 0, 1) := by decide +kernel
theorem d_TL_makesItsRow_114 : decode b_TL_makesItsRow 114 = .ok (.getfield 58, 3) := by decide +kernel
theorem d_TL_makesItsRow_117 : decode b_TL_makesItsRow 117 = .ok (.invokevirtual 71, 3) := by decide +kernel
theorem d_TL_makesItsRow_120 : decode b_TL_makesItsRow 120 = .ok (.iconst 1, 1) := by decide +kernel
theorem d_TL_makesItsRow_121 : decode b_TL_makesItsRow 121 = .ok (.if_icmp .ne 29, 3) := by decide +kernel
theorem d_TL_makesItsRow_124 : decode b_TL_makesItsRow 124 = .ok (.aload_n 0, 1) := by decide +kernel
theorem d_TL_makesItsRow_125 : decode b_TL_makesItsRow 125 = .ok (.getfield 58, 3) := by decide +kernel
theorem d_TL_makesItsRow_128 : decode b_TL_makesItsRow 128 = .ok (.iconst 0, 1) := by decide +kernel
theorem d_TL_makesItsRow_129 : decode b_TL_makesItsRow 129 = .ok (.invokevirtual 78, 3) := by decide +kernel
theorem d_TL_makesItsRow_132 : decode b_TL_makesItsRow 132 = .ok (.aload_n 0, 1) := by decide +kernel
theorem d_TL_makesItsRow_133 : decode b_TL_makesItsRow 133 = .ok (.getfield 15, 3) := by decide +kernel
theorem d_TL_makesItsRow_136 : decode b_TL_makesItsRow 136 = .ok (.aload_n 0, 1) := by decide +kernel
theorem d_TL_makesItsRow_137 : decode b_TL_makesItsRow 137 = .ok (.getfield 39, 3) := by decide +kernel
theorem d_TL_makesItsRow_140 : decode b_TL_makesItsRow 140 = .ok (.invokevirtual 124, 3) := by decide +kernel
theorem d_TL_makesItsRow_143 : decode b_TL_makesItsRow 143 = .ok (.if_icmp .ne 7, 3) := by decide +kernel
theorem d_TL_makesItsRow_146 : decode b_TL_makesItsRow 146 = .ok (.iconst 1, 1) := by decide +kernel
theorem d_TL_makesItsRow_147 : decode b_TL_makesItsRow 147 = .ok (.goto 4, 3) := by decide +kernel
theorem d_TL_makesItsRow_150 : decode b_TL_makesItsRow 150 = .ok (.iconst 0, 1) := by decide +kernel
theorem d_TL_makesItsRow_151 : decode b_TL_makesItsRow 151 = .ok (.ireturn, 1) := by decide +kernel
theorem d_TL_rowsTakenAt_0 : decode b_TL_rowsTakenAt 0 = .ok (.aload_n 0, 1) := by decide +kernel
theorem d_TL_rowsTakenAt_1 : decode b_TL_rowsTakenAt 1 = .ok (.getfield 22, 3) := by decide +kernel
theorem d_TL_rowsTakenAt_4 : decode b_TL_rowsTakenAt 4 = .ok (.iload_n 1, 1) := by decide +kernel
theorem d_TL_rowsTakenAt_5 : decode b_TL_rowsTakenAt 5 = .ok (.invokevirtual 78, 3) := by decide +kernel
theorem d_TL_rowsTakenAt_8 : decode b_TL_rowsTakenAt 8 = .ok (.istore_n 2, 1) := by decide +kernel
theorem d_TL_rowsTakenAt_9 : decode b_TL_rowsTakenAt 9 = .ok (.iload_n 2, 1) := by decide +kernel
theorem d_TL_rowsTakenAt_10 : decode b_TL_rowsTakenAt 10 = .ok (.bipush (-2), 2) := by decide +kernel
theorem d_TL_rowsTakenAt_12 : decode b_TL_rowsTakenAt 12 = .ok (.if_icmp .gt 7, 3) := by decide +kernel
theorem d_TL_rowsTakenAt_15 : decode b_TL_rowsTakenAt 15 = .ok (.iconst 0, 1) := by decide +kernel
theorem d_TL_rowsTakenAt_16 : decode b_TL_rowsTakenAt 16 = .ok (.goto 11, 3) := by decide +kernel
theorem d_TL_rowsTakenAt_19 : decode b_TL_rowsTakenAt 19 = .ok (.aload_n 0, 1) := by decide +kernel
theorem d_TL_rowsTakenAt_20 : decode b_TL_rowsTakenAt 20 = .ok (.getfield 9, 3) := by decide +kernel
theorem d_TL_rowsTakenAt_23 : decode b_TL_rowsTakenAt 23 = .ok (.iload_n 2, 1) := by decide +kernel
theorem d_TL_rowsTakenAt_24 : decode b_TL_rowsTakenAt 24 = .ok (.invokevirtual 167, 3) := by decide +kernel
theorem d_TL_rowsTakenAt_27 : decode b_TL_rowsTakenAt 27 = .ok (.ireturn, 1) := by decide +kernel
theorem d_TL_kindMadeAt_0 : decode b_TL_kindMadeAt 0 = .ok (.aload_n 0, 1) := by decide +kernel
theorem d_TL_kindMadeAt_1 : decode b_TL_kindMadeAt 1 = .ok (.getfield 22, 3) := by decide +kernel
theorem d_TL_kindMadeAt_4 : decode b_TL_kindMadeAt 4 = .ok (.iload_n 1, 1) := by decide +kernel
theorem d_TL_kindMadeAt_5 : decode b_TL_kindMadeAt 5 = .ok (.invokevirtual 78, 3) := by decide +kernel
theorem d_TL_kindMadeAt_8 : decode b_TL_kindMadeAt 8 = .ok (.istore_n 3, 1) := by decide +kernel
theorem d_TL_kindMadeAt_9 : decode b_TL_kindMadeAt 9 = .ok (.iload_n 3, 1) := by decide +kernel
theorem d_TL_kindMadeAt_10 : decode b_TL_kindMadeAt 10 = .ok (.bipush (-2), 2) := by decide +kernel
theorem d_TL_kindMadeAt_12 : decode b_TL_kindMadeAt 12 = .ok (.if_icmp .gt 15, 3) := by decide +kernel
theorem d_TL_kindMadeAt_15 : decode b_TL_kindMadeAt 15 = .ok (.aload_n 0, 1) := by decide +kernel
theorem d_TL_kindMadeAt_16 : decode b_TL_kindMadeAt 16 = .ok (.getfield 61, 3) := by decide +kernel
theorem d_TL_kindMadeAt_19 : decode b_TL_kindMadeAt 19 = .ok (.bipush (-2), 2) := by decide +kernel
theorem d_TL_kindMadeAt_21 : decode b_TL_kindMadeAt 21 = .ok (.iload_n 3, 1) := by decide +kernel
theorem d_TL_kindMadeAt_22 : decode b_TL_kindMadeAt 22 = .ok (.isub, 1) := by decide +kernel
theorem d_TL_kindMadeAt_23 : decode b_TL_kindMadeAt 23 = .ok (.invokevirtual 78, 3) := by decide +kernel
theorem d_TL_kindMadeAt_26 : decode b_TL_kindMadeAt 26 = .ok (.ireturn, 1) := by decide +kernel
theorem d_TL_kindMadeAt_27 : decode b_TL_kindMadeAt 27 = .ok (.aload_n 0, 1) := by decide +kernel
theorem d_TL_kindMadeAt_28 : decode b_TL_kindMadeAt 28 = .ok (.getfield 15, 3) := by decide +kernel
theorem d_TL_kindMadeAt_31 : decode b_TL_kindMadeAt 31 = .ok (.iload_n 3, 1) := by decide +kernel
theorem d_TL_kindMadeAt_32 : decode b_TL_kindMadeAt 32 = .ok (.aload_n 0, 1) := by decide +kernel
theorem d_TL_kindMadeAt_33 : decode b_TL_kindMadeAt 33 = .ok (.getfield 58, 3) := by decide +kernel
theorem d_TL_kindMadeAt_36 : decode b_TL_kindMadeAt 36 = .ok (.iload_n 2, 1) := by decide +kernel
theorem d_TL_kindMadeAt_37 : decode b_TL_kindMadeAt 37 = .ok (.invokevirtual 170, 3) := by decide +kernel
theorem d_TL_kindMadeAt_40 : decode b_TL_kindMadeAt 40 = .ok (.ireturn, 1) := by decide +kernel
end
section
abbrev tTL : Type := tIL × tIL × tIL × tLL × Int32 × Int32 × tIL × tIL × tIL × tIL × tIL × tIL
abbrev gTL_steps (σ : tTL) : tIL := σ.1
abbrev gTL_savedAs (σ : tTL) : tIL := σ.2.1
abbrev gTL_labels (σ : tTL) : tIL := σ.2.2.1
abbrev gTL_letters (σ : tTL) : tLL := σ.2.2.2.1
abbrev gTL_rowTold (σ : tTL) : Int32 := σ.2.2.2.2.1
abbrev gTL_savedRows (σ : tTL) : Int32 := σ.2.2.2.2.2.1
abbrev gTL_openRows (σ : tTL) : tIL := σ.2.2.2.2.2.2.1
abbrev gTL_openParts (σ : tTL) : tIL := σ.2.2.2.2.2.2.2.1
abbrev gTL_toldAt (σ : tTL) : tIL := σ.2.2.2.2.2.2.2.2.1
abbrev gTL_numbers (σ : tTL) : tIL := σ.2.2.2.2.2.2.2.2.2.1
abbrev gTL_remade (σ : tTL) : tIL := σ.2.2.2.2.2.2.2.2.2.2.1
abbrev gTL_savedKinds (σ : tTL) : tIL := σ.2.2.2.2.2.2.2.2.2.2.2
def uTL_steps (σ : tTL) (v : tIL) : tTL := (v, gTL_savedAs σ, gTL_labels σ, gTL_letters σ, gTL_rowTold σ, gTL_savedRows σ, gTL_openRows σ, gTL_openParts σ, gTL_toldAt σ, gTL_numbers σ, gTL_remade σ, gTL_savedKinds σ)
def uTL_savedAs (σ : tTL) (v : tIL) : tTL := (gTL_steps σ, v, gTL_labels σ, gTL_letters σ, gTL_rowTold σ, gTL_savedRows σ, gTL_openRows σ, gTL_openParts σ, gTL_toldAt σ, gTL_numbers σ, gTL_remade σ, gTL_savedKinds σ)
def uTL_labels (σ : tTL) (v : tIL) : tTL := (gTL_steps σ, gTL_savedAs σ, v, gTL_letters σ, gTL_rowTold σ, gTL_savedRows σ, gTL_openRows σ, gTL_openParts σ, gTL_toldAt σ, gTL_numbers σ, gTL_remade σ, gTL_savedKinds σ)
def uTL_letters (σ : tTL) (v : tLL) : tTL := (gTL_steps σ, gTL_savedAs σ, gTL_labels σ, v, gTL_rowTold σ, gTL_savedRows σ, gTL_openRows σ, gTL_openParts σ, gTL_toldAt σ, gTL_numbers σ, gTL_remade σ, gTL_savedKinds σ)
def uTL_rowTold (σ : tTL) (v : Int32) : tTL := (gTL_steps σ, gTL_savedAs σ, gTL_labels σ, gTL_letters σ, v, gTL_savedRows σ, gTL_openRows σ, gTL_openParts σ, gTL_toldAt σ, gTL_numbers σ, gTL_remade σ, gTL_savedKinds σ)
def uTL_savedRows (σ : tTL) (v : Int32) : tTL := (gTL_steps σ, gTL_savedAs σ, gTL_labels σ, gTL_letters σ, gTL_rowTold σ, v, gTL_openRows σ, gTL_openParts σ, gTL_toldAt σ, gTL_numbers σ, gTL_remade σ, gTL_savedKinds σ)
def uTL_openRows (σ : tTL) (v : tIL) : tTL := (gTL_steps σ, gTL_savedAs σ, gTL_labels σ, gTL_letters σ, gTL_rowTold σ, gTL_savedRows σ, v, gTL_openParts σ, gTL_toldAt σ, gTL_numbers σ, gTL_remade σ, gTL_savedKinds σ)
def uTL_openParts (σ : tTL) (v : tIL) : tTL := (gTL_steps σ, gTL_savedAs σ, gTL_labels σ, gTL_letters σ, gTL_rowTold σ, gTL_savedRows σ, gTL_openRows σ, v, gTL_toldAt σ, gTL_numbers σ, gTL_remade σ, gTL_savedKinds σ)
def uTL_toldAt (σ : tTL) (v : tIL) : tTL := (gTL_steps σ, gTL_savedAs σ, gTL_labels σ, gTL_letters σ, gTL_rowTold σ, gTL_savedRows σ, gTL_openRows σ, gTL_openParts σ, v, gTL_numbers σ, gTL_remade σ, gTL_savedKinds σ)
def uTL_numbers (σ : tTL) (v : tIL) : tTL := (gTL_steps σ, gTL_savedAs σ, gTL_labels σ, gTL_letters σ, gTL_rowTold σ, gTL_savedRows σ, gTL_openRows σ, gTL_openParts σ, gTL_toldAt σ, v, gTL_remade σ, gTL_savedKinds σ)
def uTL_remade (σ : tTL) (v : tIL) : tTL := (gTL_steps σ, gTL_savedAs σ, gTL_labels σ, gTL_letters σ, gTL_rowTold σ, gTL_savedRows σ, gTL_openRows σ, gTL_openParts σ, gTL_toldAt σ, gTL_numbers σ, v, gTL_savedKinds σ)
def uTL_savedKinds (σ : tTL) (v : tIL) : tTL := (gTL_steps σ, gTL_savedAs σ, gTL_labels σ, gTL_letters σ, gTL_rowTold σ, gTL_savedRows σ, gTL_openRows σ, gTL_openParts σ, gTL_toldAt σ, gTL_numbers σ, gTL_remade σ, v)
def pTL (G : pG) (h0 : Nat) (bS : Nat) (bR : Nat) (ad : Nat → Nat) (adL : Nat → Nat) (σ : tTL) (w : va_W) : Prop := ∃ (w0 w1 w2 w3 w6 w7 w8 w9 w10 w11 : va_W), w = [[(h0, .inr (4, [.ref bS, .ref bR, .ref (ad 0), .ref (ad 1), .ref (ad 2), .ref (ad 3), .int (gTL_rowTold σ), .int (gTL_savedRows σ), .ref (ad 4), .ref (ad 5), .ref (ad 6), .ref (ad 7), .ref (ad 8), .ref (ad 9)]))], w0, w1, w2, w3, w6, w7, w8, w9, w10, w11].flatten ∧ pIL G (ad 0) (gTL_steps σ) w0 ∧ pIL G (ad 1) (gTL_savedAs σ) w1 ∧ pIL G (ad 2) (gTL_labels σ) w2 ∧ pLL G (ad 3) adL (gTL_letters σ) w3 ∧ pIL G (ad 4) (gTL_openRows σ) w6 ∧ pIL G (ad 5) (gTL_openParts σ) w7 ∧ pIL G (ad 6) (gTL_toldAt σ) w8 ∧ pIL G (ad 7) (gTL_numbers σ) w9 ∧ pIL G (ad 8) (gTL_remade σ) w10 ∧ pIL G (ad 9) (gTL_savedKinds σ) w11
theorem pTL_recv {G : pG} {s : State} {H : Heap} {h0 : Nat} {bS : Nat} {bR : Nat} {ad : Nat → Nat} {adL : Nat → Nat} {σ : tTL} {w : va_W} (hK : va_K G.1 vwCl (tyG G) s) (hP : va_P G.1 vwCl w H) (h : pTL G h0 bS bR ad adL σ w) : ∃ cell : Cell, H[h0]? = some cell ∧ cell.vm.isStatics = false ∧ s.vm.findClass RTL = some cell.cls := by
  obtain ⟨w0, w1, w2, w3, w6, w7, w8, w9, w10, w11, rfl, -, -, -, -, -, -, -, -, -, -⟩ := h
  exact va_recv (q0 := 0) (ci := 4) hK hP rfl rfl

theorem len_put (x : tIL) (k v : Int32) : A_IL_length (A_IL_put x k v) = A_IL_length x := by
  unfold A_IL_length A_IL_put
  split
  · rfl
  · split
    · rfl
    · simp
theorem up_decE {k b b2 : Int32} {n : Nat} (c : ¬ b ≤ k) (hm : (b.toInt - k.toInt).toNat < n + 1) (e : b2 = b) : (b2.toInt - (k + 1).toInt).toNat < n := by
  rw [e]
  exact up_dec c hm

def A_TL_forget (σ : tTL) : tTL := bnd (A_LL_forget (gTL_letters σ)) (fun T27 => uTL_savedRows (uTL_rowTold (uTL_letters (uTL_labels (uTL_savedAs (uTL_steps σ (A_IL_cut (gTL_steps σ) 0)) (A_IL_cut (gTL_savedAs σ) 0)) (A_IL_cut (gTL_labels σ) 0)) T27) (-1)) 0)
set_option maxHeartbeats 4000000 in
set_option maxRecDepth 100000 in
theorem c_TL_forget (l : Launch) (G : pG) (h0 : Nat) (bS : Nat) (bR : Nat) (ad : Nat → Nat) (adL : Nat → Nat) (σ : tTL) (H : Heap) (w : va_W) (hP0 : va_P G.1 vwCl w H) (hD0 : va_D (fun _ => True) w) (hσ : pTL G h0 bS bR ad adL σ w) (res : tTL) (hr0 : A_TL_forget σ = res) : MWv l y_TL_forget w_TL_forget 2 41 0 G [.ref h0] H w (pTL G h0 bS bR ad adL res) := by
  refine Met.ofW (cc := b_TL_forget) (maxL := 1) (ret := none) (by decide) rfl ?_
  intro p e s m args below meth c s₁ B hml hv
  obtain ⟨rfl, rfl, hK⟩ := hv
  have hx := B.exec
  have hb := B.bytes
  have hr := B.returns
  have hts0 := atoms_spec (ws := w_TL_forget) B.pre
  have hts := fun w (h : w ∈ lw_g) => hts0 w (List.mem_cons_of_mem _ h)
  have hown : s.vm.findClass RTL = some m.cls := findClass_of_methodNamed B.named
  have hlocks := B.notSynchronized
  have hA : ∀ q : Nat, s.heap.size ≤ q → va_A w s.heap.size q := fun _ h => Or.inr h
  have hB : bk G.1 vwCl (va_A w s.heap.size) [w] s.heap := bk_init hP0 hD0
  generalize va_A w s.heap.size = A at *
  have hS : va_S A s.heap s.heap [] := va_S.rf
  obtain ⟨w1, w3, w5, w7, w9, w11, w13, w15, w17, w19, rfl, h2, h4, h6, h8, h10, h12, h14, h16, h18, h20⟩ := hσ
  have hB := bk_many hB
  have hk : 0 + 0 = 0 := rfl
  have hl := lv_entry ([.ref h0]) (n := 1) (Nat.le_of_ble_eq_true rfl)
  rw [lg_entry_eq]
  generalize (lg_sl ([.ref h0]) ++ List.replicate (1 - (lg_sl ([.ref h0])).length) Slot.unset).toArray = ls at hl ⊢
  have hl : lv_has ls 1 [(0, .ref h0)] := hl
  unfold A_TL_forget at hr0
  refine lv_aload_n hx hb d_TL_forget_0 rfl (lv_at hl 0 rfl) ?_
  refine va_get (D := G.1) (ci := 4) (v := .ref (ad 0)) (C := RTL) (T := TTL) (N := 14) hx hb hts inTL hown hK hB.1 0 rfl rfl 2 (by decide) (hts _ fl_TL_22) (fun _ h9 => h9) rfl d_TL_forget_1 ?_
  refine lv_iconst (v := 0) hx hb d_TL_forget_4 (by decide) ?_
  refine wrV0 (G := G) (k := 1) (As := [.int 0]) (rest := []) (C := RIL) ⟨hx, hb, hml, hown, hts⟩ (c_IL_cut l G (ad 0) (gTL_steps σ) 0 _ _ (bk_gP (k := 1) hB.1 rfl) (bk_own (k := 1) hB rfl) h2 _ rfl) (cwV 1 hts (gd_V ml_TL_64 im_IL_cut sl_IL_cut ini_IL k_IL_cut) rfl rmK_c rmK_s (by decide +kernel) ⟨Nat.le_of_ble_eq_true rfl, Nat.le_of_ble_eq_true rfl⟩) hK (pIL_recv hK (bk_gP (k := 1) hB.1 rfl) h2) hS hA hB rfl hk ⟨rfl, rfl⟩ rfl hl.1 (Nat.le_of_ble_eq_true rfl) d_TL_forget_5 (fun u21 H locs hu22 hB hS => ?_)
  have hB : bk G.1 vwCl A [[(h0, .inr (4, [.ref bS, .ref bR, .ref (ad 0), .ref (ad 1), .ref (ad 2), .ref (ad 3), .int (gTL_rowTold σ), .int (gTL_savedRows σ), .ref (ad 4), .ref (ad 5), .ref (ad 6), .ref (ad 7), .ref (ad 8), .ref (ad 9)]))], u21, w3, w5, w7, w9, w11, w13, w15, w17, w19] H := hB
  refine lv_aload_n hx hb d_TL_forget_8 rfl (lv_at hl 0 rfl) ?_
  refine va_get (D := G.1) (ci := 4) (v := .ref (ad 1)) (C := RTL) (T := TTL) (N := 14) hx hb hts inTL hown hK hB.1 0 rfl rfl 3 (by decide) (hts _ fl_TL_26) (fun _ h9 => h9) rfl d_TL_forget_9 ?_
  refine lv_iconst (v := 0) hx hb d_TL_forget_12 (by decide) ?_
  refine wrV0 (G := G) (k := 2) (As := [.int 0]) (rest := []) (C := RIL) ⟨hx, hb, hml, hown, hts⟩ (c_IL_cut l G (ad 1) (gTL_savedAs σ) 0 _ _ (bk_gP (k := 2) hB.1 rfl) (bk_own (k := 2) hB rfl) h4 _ rfl) (cwV 1 hts (gd_V ml_TL_64 im_IL_cut sl_IL_cut ini_IL k_IL_cut) rfl rmK_c rmK_s (by decide +kernel) ⟨Nat.le_of_ble_eq_true rfl, Nat.le_of_ble_eq_true rfl⟩) hK (pIL_recv hK (bk_gP (k := 2) hB.1 rfl) h4) hS hA hB rfl hk ⟨rfl, rfl⟩ rfl hl.1 (Nat.le_of_ble_eq_true rfl) d_TL_forget_13 (fun u23 H locs hu24 hB hS => ?_)
  have hB : bk G.1 vwCl A [[(h0, .inr (4, [.ref bS, .ref bR, .ref (ad 0), .ref (ad 1), .ref (ad 2), .ref (ad 3), .int (gTL_rowTold σ), .int (gTL_savedRows σ), .ref (ad 4), .ref (ad 5), .ref (ad 6), .ref (ad 7), .ref (ad 8), .ref (ad 9)]))], u21, u23, w5, w7, w9, w11, w13, w15, w17, w19] H := hB
  refine lv_aload_n hx hb d_TL_forget_16 rfl (lv_at hl 0 rfl) ?_
  refine va_get (D := G.1) (ci := 4) (v := .ref (ad 2)) (C := RTL) (T := TTL) (N := 14) hx hb hts inTL hown hK hB.1 0 rfl rfl 4 (by decide) (hts _ fl_TL_29) (fun _ h9 => h9) rfl d_TL_forget_17 ?_
  refine lv_iconst (v := 0) hx hb d_TL_forget_20 (by decide) ?_
  refine wrV0 (G := G) (k := 3) (As := [.int 0]) (rest := []) (C := RIL) ⟨hx, hb, hml, hown, hts⟩ (c_IL_cut l G (ad 2) (gTL_labels σ) 0 _ _ (bk_gP (k := 3) hB.1 rfl) (bk_own (k := 3) hB rfl) h6 _ rfl) (cwV 1 hts (gd_V ml_TL_64 im_IL_cut sl_IL_cut ini_IL k_IL_cut) rfl rmK_c rmK_s (by decide +kernel) ⟨Nat.le_of_ble_eq_true rfl, Nat.le_of_ble_eq_true rfl⟩) hK (pIL_recv hK (bk_gP (k := 3) hB.1 rfl) h6) hS hA hB rfl hk ⟨rfl, rfl⟩ rfl hl.1 (Nat.le_of_ble_eq_true rfl) d_TL_forget_21 (fun u25 H locs hu26 hB hS => ?_)
  have hB : bk G.1 vwCl A [[(h0, .inr (4, [.ref bS, .ref bR, .ref (ad 0), .ref (ad 1), .ref (ad 2), .ref (ad 3), .int (gTL_rowTold σ), .int (gTL_savedRows σ), .ref (ad 4), .ref (ad 5), .ref (ad 6), .ref (ad 7), .ref (ad 8), .ref (ad 9)]))], u21, u23, u25, w7, w9, w11, w13, w15, w17, w19] H := hB
  refine lv_aload_n hx hb d_TL_forget_24 rfl (lv_at hl 0 rfl) ?_
  refine va_get (D := G.1) (ci := 4) (v := .ref (ad 3)) (C := RTL) (T := TTL) (N := 14) hx hb hts inTL hown hK hB.1 0 rfl rfl 5 (by decide) (hts _ fl_TL_35) (fun _ h9 => h9) rfl d_TL_forget_25 ?_
  obtain ⟨T27, hT28⟩ : ∃ z, A_LL_forget (gTL_letters σ) = z := ⟨_, rfl⟩
  refine wrV0 (G := G) (k := 4) (As := []) (rest := []) (C := RLL) ⟨hx, hb, hml, hown, hts⟩ (c_LL_forget l G (ad 3) adL (gTL_letters σ) _ _ (bk_gP (k := 4) hB.1 rfl) (bk_own (k := 4) hB rfl) h8 T27 hT28) (cwV 0 hts (gd_V ml_TL_68 im_LL_forget sl_LL_forget ini_LL k_LL_forget) rfl rmK_c rmK_s (by decide +kernel) ⟨Nat.le_of_ble_eq_true rfl, Nat.le_of_ble_eq_true rfl⟩) hK (pLL_recv hK (bk_gP (k := 4) hB.1 rfl) h8) hS hA hB rfl hk ⟨rfl, rfl⟩ rfl hl.1 (Nat.le_of_ble_eq_true rfl) d_TL_forget_28 (fun u29 H locs hu30 hB hS => ?_)
  have hr0 := bnd_e hT28 hr0
  have hB : bk G.1 vwCl A [[(h0, .inr (4, [.ref bS, .ref bR, .ref (ad 0), .ref (ad 1), .ref (ad 2), .ref (ad 3), .int (gTL_rowTold σ), .int (gTL_savedRows σ), .ref (ad 4), .ref (ad 5), .ref (ad 6), .ref (ad 7), .ref (ad 8), .ref (ad 9)]))], u21, u23, u25, u29, w9, w11, w13, w15, w17, w19] H := hB
  refine lv_aload_n hx hb d_TL_forget_31 rfl (lv_at hl 0 rfl) ?_
  refine lv_iconst (v := (-1)) hx hb d_TL_forget_32 (by decide) ?_
  refine va_put (D := G.1) (ci := 4) (v := .int (-1)) (ty := .int) (C := RTL) (T := TTL) (N := 14) hx hb hts inTL tyTL tokTL nmTL hown hK hB.1 hB.2 hS 0 rfl rfl 6 (by decide) (hts _ fl_TL_39) (fun _ h9 => h9) rfl (by decide +kernel) rfl rfl (Nat.le_of_ble_eq_true rfl) d_TL_forget_33 (fun H locs hP hD hS => ?_)
  have hB : bk G.1 vwCl A [[(h0, .inr (4, [.ref bS, .ref bR, .ref (ad 0), .ref (ad 1), .ref (ad 2), .ref (ad 3), .int (-1), .int (gTL_savedRows σ), .ref (ad 4), .ref (ad 5), .ref (ad 6), .ref (ad 7), .ref (ad 8), .ref (ad 9)]))], u21, u23, u25, u29, w9, w11, w13, w15, w17, w19] H := ⟨hP, hD⟩
  refine lv_aload_n hx hb d_TL_forget_36 rfl (lv_at hl 0 rfl) ?_
  refine lv_iconst (v := 0) hx hb d_TL_forget_37 (by decide) ?_
  refine va_put (D := G.1) (ci := 4) (v := .int 0) (ty := .int) (C := RTL) (T := TTL) (N := 14) hx hb hts inTL tyTL tokTL nmTL hown hK hB.1 hB.2 hS 0 rfl rfl 7 (by decide) (hts _ fl_TL_43) (fun _ h9 => h9) rfl (by decide +kernel) rfl rfl (Nat.le_of_ble_eq_true rfl) d_TL_forget_38 (fun H locs hP hD hS => ?_)
  have hB : bk G.1 vwCl A [[(h0, .inr (4, [.ref bS, .ref bR, .ref (ad 0), .ref (ad 1), .ref (ad 2), .ref (ad 3), .int (-1), .int 0, .ref (ad 4), .ref (ad 5), .ref (ad 6), .ref (ad 7), .ref (ad 8), .ref (ad 9)]))], u21, u23, u25, u29, w9, w11, w13, w15, w17, w19] H := ⟨hP, hD⟩
  subst hr0
  refine W.widen (k := 0) (n := 0) (Nat.le_refl _) (Nat.le_refl _) ?_
  exact W.vret hx hb hr (fun t ht hW => ⟨⟨[[(h0, .inr (4, [.ref bS, .ref bR, .ref (ad 0), .ref (ad 1), .ref (ad 2), .ref (ad 3), .int (-1), .int 0, .ref (ad 4), .ref (ad 5), .ref (ad 6), .ref (ad 7), .ref (ad 8), .ref (ad 9)]))], u21, u23, u25, u29, w9, w11, w13, w15, w17, w19].flatten, rfl, ⟨u21, u23, u25, u29, w9, w11, w13, w15, w17, w19, rfl, hu22, hu24, hu26, hu30, h10, h12, h14, h16, h18, h20⟩, by rw [ht]; exact hB.1, hB.2⟩, hS.F ht⟩) hS.2.2 d_TL_forget_41

def A_TL_amountOfSteps (σ : tTL) : Int32 := A_IL_length (gTL_steps σ)
set_option maxHeartbeats 4000000 in
set_option maxRecDepth 100000 in
theorem c_TL_amountOfSteps (l : Launch) (G : pG) (h0 : Nat) (bS : Nat) (bR : Nat) (ad : Nat → Nat) (adL : Nat → Nat) (σ : tTL) (H : Heap) (w : va_W) (hP0 : va_P G.1 vwCl w H) (hσ : pTL G h0 bS bR ad adL σ w) (res : Int32) (hr0 : A_TL_amountOfSteps σ = res) : MRi l y_TL_amountOfSteps w_TL_amountOfSteps 1 20 G [.ref h0] H res := by
  refine Met.ofW (cc := b_TL_amountOfSteps) (maxL := 1) (ret := (some .int)) (by decide) rfl ?_
  intro p e s m args below meth c s₁ B hml hv
  obtain ⟨rfl, rfl, hK⟩ := hv
  have hx := B.exec
  have hb := B.bytes
  have hr := B.returns
  have hts0 := atoms_spec (ws := w_TL_amountOfSteps) B.pre
  have hts := fun w (h : w ∈ lw_g) => hts0 w (List.mem_cons_of_mem _ h)
  have hown : s.vm.findClass RTL = some m.cls := findClass_of_methodNamed B.named
  have hlocks := B.notSynchronized
  have hσ0 := hσ
  obtain ⟨w1, w3, w5, w7, w9, w11, w13, w15, w17, w19, rfl, h2, h4, h6, h8, h10, h12, h14, h16, h18, h20⟩ := hσ
  have hP := hP0
  obtain ⟨A, hAe⟩ : ∃ A : Nat → Prop, A = fun _ => False := ⟨_, rfl⟩
  rw [← hAe]
  have hS : va_S A s.heap s.heap [] := va_S.rf
  have hl := lv_entry ([.ref h0]) (n := 1) (Nat.le_of_ble_eq_true rfl)
  rw [lg_entry_eq]
  generalize (lg_sl ([.ref h0]) ++ List.replicate (1 - (lg_sl ([.ref h0])).length) Slot.unset).toArray = ls at hl ⊢
  have hl : lv_has ls 1 [(0, .ref h0)] := hl
  unfold A_TL_amountOfSteps at hr0
  refine lv_aload_n hx hb d_TL_amountOfSteps_0 rfl (lv_at hl 0 rfl) ?_
  refine va_get (D := G.1) (ci := 4) (v := .ref (ad 0)) (C := RTL) (T := TTL) (N := 14) hx hb hts inTL hown hK hP 0 rfl rfl 2 (by decide) (hts _ fl_TL_22) (fun _ h9 => h9) rfl d_TL_amountOfSteps_1 ?_
  refine rdV (G := G) (As := []) (rest := []) (C := RIL) ⟨hx, hb, hml, hown, hts⟩ (c_IL_length l G (ad 0) (gTL_steps σ) _ _ (bk_gP (k := 1) hP rfl) h2 _ rfl) (cwV 0 hts (gd_V ml_TL_71 im_IL_length sl_IL_length ini_IL k_IL_length) rfl rmK_c rmK_s (by decide +kernel) ⟨Nat.le_of_ble_eq_true rfl, Nat.le_of_ble_eq_true rfl⟩) hK (pIL_recv hK (bk_gP (k := 1) hP rfl) h2) hS ⟨Nat.le_refl _, Nat.le_refl _⟩ rfl hl.1 (Nat.le_of_ble_eq_true rfl) d_TL_amountOfSteps_4 (fun locs hS => ?_)
  exact W.iret (v := (A_IL_length (gTL_steps σ))) hx hb hr (fun t ht hW => ⟨⟨(A_IL_length (gTL_steps σ)), (), rfl, hr0, ht⟩, hS.F ht⟩) hS.2.2 d_TL_amountOfSteps_7

def A_TL_amountOfLabels (σ : tTL) : Int32 := A_IL_length (gTL_labels σ)
set_option maxHeartbeats 4000000 in
set_option maxRecDepth 100000 in
theorem c_TL_amountOfLabels (l : Launch) (G : pG) (h0 : Nat) (bS : Nat) (bR : Nat) (ad : Nat → Nat) (adL : Nat → Nat) (σ : tTL) (H : Heap) (w : va_W) (hP0 : va_P G.1 vwCl w H) (hσ : pTL G h0 bS bR ad adL σ w) (res : Int32) (hr0 : A_TL_amountOfLabels σ = res) : MRi l y_TL_amountOfLabels w_TL_amountOfLabels 1 20 G [.ref h0] H res := by
  refine Met.ofW (cc := b_TL_amountOfLabels) (maxL := 1) (ret := (some .int)) (by decide) rfl ?_
  intro p e s m args below meth c s₁ B hml hv
  obtain ⟨rfl, rfl, hK⟩ := hv
  have hx := B.exec
  have hb := B.bytes
  have hr := B.returns
  have hts0 := atoms_spec (ws := w_TL_amountOfLabels) B.pre
  have hts := fun w (h : w ∈ lw_g) => hts0 w (List.mem_cons_of_mem _ h)
  have hown : s.vm.findClass RTL = some m.cls := findClass_of_methodNamed B.named
  have hlocks := B.notSynchronized
  have hσ0 := hσ
  obtain ⟨w1, w3, w5, w7, w9, w11, w13, w15, w17, w19, rfl, h2, h4, h6, h8, h10, h12, h14, h16, h18, h20⟩ := hσ
  have hP := hP0
  obtain ⟨A, hAe⟩ : ∃ A : Nat → Prop, A = fun _ => False := ⟨_, rfl⟩
  rw [← hAe]
  have hS : va_S A s.heap s.heap [] := va_S.rf
  have hl := lv_entry ([.ref h0]) (n := 1) (Nat.le_of_ble_eq_true rfl)
  rw [lg_entry_eq]
  generalize (lg_sl ([.ref h0]) ++ List.replicate (1 - (lg_sl ([.ref h0])).length) Slot.unset).toArray = ls at hl ⊢
  have hl : lv_has ls 1 [(0, .ref h0)] := hl
  unfold A_TL_amountOfLabels at hr0
  refine lv_aload_n hx hb d_TL_amountOfLabels_0 rfl (lv_at hl 0 rfl) ?_
  refine va_get (D := G.1) (ci := 4) (v := .ref (ad 2)) (C := RTL) (T := TTL) (N := 14) hx hb hts inTL hown hK hP 0 rfl rfl 4 (by decide) (hts _ fl_TL_29) (fun _ h9 => h9) rfl d_TL_amountOfLabels_1 ?_
  refine rdV (G := G) (As := []) (rest := []) (C := RIL) ⟨hx, hb, hml, hown, hts⟩ (c_IL_length l G (ad 2) (gTL_labels σ) _ _ (bk_gP (k := 3) hP rfl) h6 _ rfl) (cwV 0 hts (gd_V ml_TL_71 im_IL_length sl_IL_length ini_IL k_IL_length) rfl rmK_c rmK_s (by decide +kernel) ⟨Nat.le_of_ble_eq_true rfl, Nat.le_of_ble_eq_true rfl⟩) hK (pIL_recv hK (bk_gP (k := 3) hP rfl) h6) hS ⟨Nat.le_refl _, Nat.le_refl _⟩ rfl hl.1 (Nat.le_of_ble_eq_true rfl) d_TL_amountOfLabels_4 (fun locs hS => ?_)
  exact W.iret (v := (A_IL_length (gTL_labels σ))) hx hb hr (fun t ht hW => ⟨⟨(A_IL_length (gTL_labels σ)), (), rfl, hr0, ht⟩, hS.F ht⟩) hS.2.2 d_TL_amountOfLabels_7

def A_TL_amountOfLetters (σ : tTL) : Int32 := A_LL_amount (gTL_letters σ)
set_option maxHeartbeats 4000000 in
set_option maxRecDepth 100000 in
theorem c_TL_amountOfLetters (l : Launch) (G : pG) (h0 : Nat) (bS : Nat) (bR : Nat) (ad : Nat → Nat) (adL : Nat → Nat) (σ : tTL) (H : Heap) (w : va_W) (hP0 : va_P G.1 vwCl w H) (hσ : pTL G h0 bS bR ad adL σ w) (res : Int32) (hr0 : A_TL_amountOfLetters σ = res) : MRi l y_TL_amountOfLetters w_TL_amountOfLetters 2 40 G [.ref h0] H res := by
  refine Met.ofW (cc := b_TL_amountOfLetters) (maxL := 1) (ret := (some .int)) (by decide) rfl ?_
  intro p e s m args below meth c s₁ B hml hv
  obtain ⟨rfl, rfl, hK⟩ := hv
  have hx := B.exec
  have hb := B.bytes
  have hr := B.returns
  have hts0 := atoms_spec (ws := w_TL_amountOfLetters) B.pre
  have hts := fun w (h : w ∈ lw_g) => hts0 w (List.mem_cons_of_mem _ h)
  have hown : s.vm.findClass RTL = some m.cls := findClass_of_methodNamed B.named
  have hlocks := B.notSynchronized
  have hσ0 := hσ
  obtain ⟨w1, w3, w5, w7, w9, w11, w13, w15, w17, w19, rfl, h2, h4, h6, h8, h10, h12, h14, h16, h18, h20⟩ := hσ
  have hP := hP0
  obtain ⟨A, hAe⟩ : ∃ A : Nat → Prop, A = fun _ => False := ⟨_, rfl⟩
  rw [← hAe]
  have hS : va_S A s.heap s.heap [] := va_S.rf
  have hl := lv_entry ([.ref h0]) (n := 1) (Nat.le_of_ble_eq_true rfl)
  rw [lg_entry_eq]
  generalize (lg_sl ([.ref h0]) ++ List.replicate (1 - (lg_sl ([.ref h0])).length) Slot.unset).toArray = ls at hl ⊢
  have hl : lv_has ls 1 [(0, .ref h0)] := hl
  unfold A_TL_amountOfLetters at hr0
  refine lv_aload_n hx hb d_TL_amountOfLetters_0 rfl (lv_at hl 0 rfl) ?_
  refine va_get (D := G.1) (ci := 4) (v := .ref (ad 3)) (C := RTL) (T := TTL) (N := 14) hx hb hts inTL hown hK hP 0 rfl rfl 5 (by decide) (hts _ fl_TL_35) (fun _ h9 => h9) rfl d_TL_amountOfLetters_1 ?_
  refine rdV (G := G) (As := []) (rest := []) (C := RLL) ⟨hx, hb, hml, hown, hts⟩ (c_LL_amount l G (ad 3) adL (gTL_letters σ) _ _ (bk_gP (k := 4) hP rfl) h8 _ rfl) (cwV 0 hts (gd_V ml_TL_75 im_LL_amount sl_LL_amount ini_LL k_LL_amount) rfl rmK_c rmK_s (by decide +kernel) ⟨Nat.le_of_ble_eq_true rfl, Nat.le_of_ble_eq_true rfl⟩) hK (pLL_recv hK (bk_gP (k := 4) hP rfl) h8) hS ⟨Nat.le_refl _, Nat.le_refl _⟩ rfl hl.1 (Nat.le_of_ble_eq_true rfl) d_TL_amountOfLetters_4 (fun locs hS => ?_)
  exact W.iret (v := (A_LL_amount (gTL_letters σ))) hx hb hr (fun t ht hW => ⟨⟨(A_LL_amount (gTL_letters σ)), (), rfl, hr0, ht⟩, hS.F ht⟩) hS.2.2 d_TL_amountOfLetters_7

def A_TL_amountOfSaved (σ : tTL) : Int32 := gTL_savedRows σ
set_option maxHeartbeats 4000000 in
set_option maxRecDepth 100000 in
theorem c_TL_amountOfSaved (l : Launch) (G : pG) (h0 : Nat) (bS : Nat) (bR : Nat) (ad : Nat → Nat) (adL : Nat → Nat) (σ : tTL) (H : Heap) (w : va_W) (hP0 : va_P G.1 vwCl w H) (hσ : pTL G h0 bS bR ad adL σ w) (res : Int32) (hr0 : A_TL_amountOfSaved σ = res) : MRi l y_TL_amountOfSaved w_TL_amountOfSaved 0 0 G [.ref h0] H res := by
  refine Met.ofW (cc := b_TL_amountOfSaved) (maxL := 1) (ret := (some .int)) (by decide) rfl ?_
  intro p e s m args below meth c s₁ B hml hv
  obtain ⟨rfl, rfl, hK⟩ := hv
  have hx := B.exec
  have hb := B.bytes
  have hr := B.returns
  have hts0 := atoms_spec (ws := w_TL_amountOfSaved) B.pre
  have hts := fun w (h : w ∈ lw_g) => hts0 w (List.mem_cons_of_mem _ h)
  have hown : s.vm.findClass RTL = some m.cls := findClass_of_methodNamed B.named
  have hlocks := B.notSynchronized
  have hσ0 := hσ
  obtain ⟨w1, w3, w5, w7, w9, w11, w13, w15, w17, w19, rfl, h2, h4, h6, h8, h10, h12, h14, h16, h18, h20⟩ := hσ
  have hP := hP0
  obtain ⟨A, hAe⟩ : ∃ A : Nat → Prop, A = fun _ => False := ⟨_, rfl⟩
  rw [← hAe]
  have hS : va_S A s.heap s.heap [] := va_S.rf
  have hl := lv_entry ([.ref h0]) (n := 1) (Nat.le_of_ble_eq_true rfl)
  rw [lg_entry_eq]
  generalize (lg_sl ([.ref h0]) ++ List.replicate (1 - (lg_sl ([.ref h0])).length) Slot.unset).toArray = ls at hl ⊢
  have hl : lv_has ls 1 [(0, .ref h0)] := hl
  unfold A_TL_amountOfSaved at hr0
  refine lv_aload_n hx hb d_TL_amountOfSaved_0 rfl (lv_at hl 0 rfl) ?_
  refine va_get (D := G.1) (ci := 4) (v := .int (gTL_savedRows σ)) (C := RTL) (T := TTL) (N := 14) hx hb hts inTL hown hK hP 0 rfl rfl 7 (by decide) (hts _ fl_TL_43) (fun _ h9 => h9) rfl d_TL_amountOfSaved_1 ?_
  exact W.iret (v := (gTL_savedRows σ)) hx hb hr (fun t ht hW => ⟨⟨(gTL_savedRows σ), (), rfl, hr0, ht⟩, hS.F ht⟩) hS.2.2 d_TL_amountOfSaved_4

def A_TL_stepAt (σ : tTL) (k : Int32) : Int32 := A_IL_at (gTL_steps σ) k
set_option maxHeartbeats 4000000 in
set_option maxRecDepth 100000 in
theorem c_TL_stepAt (l : Launch) (G : pG) (h0 : Nat) (bS : Nat) (bR : Nat) (ad : Nat → Nat) (adL : Nat → Nat) (σ : tTL) (k : Int32) (H : Heap) (w : va_W) (hP0 : va_P G.1 vwCl w H) (hσ : pTL G h0 bS bR ad adL σ w) (res : Int32) (hr0 : A_TL_stepAt σ k = res) : MRi l y_TL_stepAt w_TL_stepAt 1 21 G [.ref h0, .int k] H res := by
  refine Met.ofW (cc := b_TL_stepAt) (maxL := 2) (ret := (some .int)) (by decide) rfl ?_
  intro p e s m args below meth c s₁ B hml hv
  obtain ⟨rfl, rfl, hK⟩ := hv
  have hx := B.exec
  have hb := B.bytes
  have hr := B.returns
  have hts0 := atoms_spec (ws := w_TL_stepAt) B.pre
  have hts := fun w (h : w ∈ lw_g) => hts0 w (List.mem_cons_of_mem _ h)
  have hown : s.vm.findClass RTL = some m.cls := findClass_of_methodNamed B.named
  have hlocks := B.notSynchronized
  have hσ0 := hσ
  obtain ⟨w1, w3, w5, w7, w9, w11, w13, w15, w17, w19, rfl, h2, h4, h6, h8, h10, h12, h14, h16, h18, h20⟩ := hσ
  have hP := hP0
  obtain ⟨A, hAe⟩ : ∃ A : Nat → Prop, A = fun _ => False := ⟨_, rfl⟩
  rw [← hAe]
  have hS : va_S A s.heap s.heap [] := va_S.rf
  have hl := lv_entry ([.ref h0, .int k]) (n := 2) (Nat.le_of_ble_eq_true rfl)
  rw [lg_entry_eq]
  generalize (lg_sl ([.ref h0, .int k]) ++ List.replicate (2 - (lg_sl ([.ref h0, .int k])).length) Slot.unset).toArray = ls at hl ⊢
  have hl : lv_has ls 2 [(0, .ref h0), (1, .int k)] := hl
  unfold A_TL_stepAt at hr0
  refine lv_aload_n hx hb d_TL_stepAt_0 rfl (lv_at hl 0 rfl) ?_
  refine va_get (D := G.1) (ci := 4) (v := .ref (ad 0)) (C := RTL) (T := TTL) (N := 14) hx hb hts inTL hown hK hP 0 rfl rfl 2 (by decide) (hts _ fl_TL_22) (fun _ h9 => h9) rfl d_TL_stepAt_1 ?_
  refine lv_iload_n hx hb d_TL_stepAt_4 rfl (lv_at hl 1 rfl) ?_
  refine rdV (G := G) (As := [.int k]) (rest := []) (C := RIL) ⟨hx, hb, hml, hown, hts⟩ (c_IL_at l G (ad 0) (gTL_steps σ) k _ _ (bk_gP (k := 1) hP rfl) h2 _ rfl) (cwV 1 hts (gd_V ml_TL_78 im_IL_at sl_IL_at ini_IL k_IL_at) rfl rmK_c rmK_s (by decide +kernel) ⟨Nat.le_of_ble_eq_true rfl, Nat.le_of_ble_eq_true rfl⟩) hK (pIL_recv hK (bk_gP (k := 1) hP rfl) h2) hS ⟨Nat.le_refl _, Nat.le_refl _⟩ rfl hl.1 (Nat.le_of_ble_eq_true rfl) d_TL_stepAt_5 (fun locs hS => ?_)
  exact W.iret (v := (A_IL_at (gTL_steps σ) k)) hx hb hr (fun t ht hW => ⟨⟨(A_IL_at (gTL_steps σ) k), (), rfl, hr0, ht⟩, hS.F ht⟩) hS.2.2 d_TL_stepAt_8

def A_TL_isSavedAt (σ : tTL) (k : Int32) : Int32 := if (A_IL_at (gTL_savedAs σ) k) = (-1) then 0 else 1
set_option maxHeartbeats 4000000 in
set_option maxRecDepth 100000 in
theorem c_TL_isSavedAt (l : Launch) (G : pG) (h0 : Nat) (bS : Nat) (bR : Nat) (ad : Nat → Nat) (adL : Nat → Nat) (σ : tTL) (k : Int32) (H : Heap) (w : va_W) (hP0 : va_P G.1 vwCl w H) (hσ : pTL G h0 bS bR ad adL σ w) (res : Int32) (hr0 : A_TL_isSavedAt σ k = res) : MRi l y_TL_isSavedAt w_TL_isSavedAt 1 21 G [.ref h0, .int k] H res := by
  refine Met.ofW (cc := b_TL_isSavedAt) (maxL := 2) (ret := (some .boolean)) (by decide) rfl ?_
  intro p e s m args below meth c s₁ B hml hv
  obtain ⟨rfl, rfl, hK⟩ := hv
  have hx := B.exec
  have hb := B.bytes
  have hr := B.returns
  have hts0 := atoms_spec (ws := w_TL_isSavedAt) B.pre
  have hts := fun w (h : w ∈ lw_g) => hts0 w (List.mem_cons_of_mem _ h)
  have hown : s.vm.findClass RTL = some m.cls := findClass_of_methodNamed B.named
  have hlocks := B.notSynchronized
  have hσ0 := hσ
  obtain ⟨w1, w3, w5, w7, w9, w11, w13, w15, w17, w19, rfl, h2, h4, h6, h8, h10, h12, h14, h16, h18, h20⟩ := hσ
  have hP := hP0
  obtain ⟨A, hAe⟩ : ∃ A : Nat → Prop, A = fun _ => False := ⟨_, rfl⟩
  rw [← hAe]
  have hS : va_S A s.heap s.heap [] := va_S.rf
  have hl := lv_entry ([.ref h0, .int k]) (n := 2) (Nat.le_of_ble_eq_true rfl)
  rw [lg_entry_eq]
  generalize (lg_sl ([.ref h0, .int k]) ++ List.replicate (2 - (lg_sl ([.ref h0, .int k])).length) Slot.unset).toArray = ls at hl ⊢
  have hl : lv_has ls 2 [(0, .ref h0), (1, .int k)] := hl
  unfold A_TL_isSavedAt at hr0
  refine lv_aload_n hx hb d_TL_isSavedAt_0 rfl (lv_at hl 0 rfl) ?_
  refine va_get (D := G.1) (ci := 4) (v := .ref (ad 1)) (C := RTL) (T := TTL) (N := 14) hx hb hts inTL hown hK hP 0 rfl rfl 3 (by decide) (hts _ fl_TL_26) (fun _ h9 => h9) rfl d_TL_isSavedAt_1 ?_
  refine lv_iload_n hx hb d_TL_isSavedAt_4 rfl (lv_at hl 1 rfl) ?_
  refine rdV (G := G) (As := [.int k]) (rest := []) (C := RIL) ⟨hx, hb, hml, hown, hts⟩ (c_IL_at l G (ad 1) (gTL_savedAs σ) k _ _ (bk_gP (k := 2) hP rfl) h4 _ rfl) (cwV 1 hts (gd_V ml_TL_78 im_IL_at sl_IL_at ini_IL k_IL_at) rfl rmK_c rmK_s (by decide +kernel) ⟨Nat.le_of_ble_eq_true rfl, Nat.le_of_ble_eq_true rfl⟩) hK (pIL_recv hK (bk_gP (k := 2) hP rfl) h4) hS ⟨Nat.le_refl _, Nat.le_refl _⟩ rfl hl.1 (Nat.le_of_ble_eq_true rfl) d_TL_isSavedAt_5 (fun locs hS => ?_)
  refine lv_iconst (v := (-1)) hx hb d_TL_isSavedAt_8 (by decide) ?_
  refine lv_icmp_eq (tgt := 16) hx hb d_TL_isSavedAt_9 (by decide) (fun c21 => ?_) (fun c21 => ?_)
  · have hr0 := ai_pos c21 hr0
    refine lv_iconst (v := 0) hx hb d_TL_isSavedAt_16 (by decide) ?_
    exact W.zret (v := 0) hx hb hr (by decide) (fun t ht hW => ⟨⟨0, (), rfl, hr0, ht⟩, hS.F ht⟩) hS.2.2 d_TL_isSavedAt_17
  · have hr0 := ai_neg c21 hr0
    refine lv_iconst (v := 1) hx hb d_TL_isSavedAt_12 (by decide) ?_
    refine lv_goto (tgt := 17) hx hb d_TL_isSavedAt_13 (by decide) ?_
    exact W.zret (v := 1) hx hb hr (by decide) (fun t ht hW => ⟨⟨1, (), rfl, hr0, ht⟩, hS.F ht⟩) hS.2.2 d_TL_isSavedAt_17

def A_TL_labelAt (σ : tTL) (k : Int32) : Int32 := A_IL_at (gTL_labels σ) k
set_option maxHeartbeats 4000000 in
set_option maxRecDepth 100000 in
theorem c_TL_labelAt (l : Launch) (G : pG) (h0 : Nat) (bS : Nat) (bR : Nat) (ad : Nat → Nat) (adL : Nat → Nat) (σ : tTL) (k : Int32) (H : Heap) (w : va_W) (hP0 : va_P G.1 vwCl w H) (hσ : pTL G h0 bS bR ad adL σ w) (res : Int32) (hr0 : A_TL_labelAt σ k = res) : MRi l y_TL_labelAt w_TL_labelAt 1 21 G [.ref h0, .int k] H res := by
  refine Met.ofW (cc := b_TL_labelAt) (maxL := 2) (ret := (some .int)) (by decide) rfl ?_
  intro p e s m args below meth c s₁ B hml hv
  obtain ⟨rfl, rfl, hK⟩ := hv
  have hx := B.exec
  have hb := B.bytes
  have hr := B.returns
  have hts0 := atoms_spec (ws := w_TL_labelAt) B.pre
  have hts := fun w (h : w ∈ lw_g) => hts0 w (List.mem_cons_of_mem _ h)
  have hown : s.vm.findClass RTL = some m.cls := findClass_of_methodNamed B.named
  have hlocks := B.notSynchronized
  have hσ0 := hσ
  obtain ⟨w1, w3, w5, w7, w9, w11, w13, w15, w17, w19, rfl, h2, h4, h6, h8, h10, h12, h14, h16, h18, h20⟩ := hσ
  have hP := hP0
  obtain ⟨A, hAe⟩ : ∃ A : Nat → Prop, A = fun _ => False := ⟨_, rfl⟩
  rw [← hAe]
  have hS : va_S A s.heap s.heap [] := va_S.rf
  have hl := lv_entry ([.ref h0, .int k]) (n := 2) (Nat.le_of_ble_eq_true rfl)
  rw [lg_entry_eq]
  generalize (lg_sl ([.ref h0, .int k]) ++ List.replicate (2 - (lg_sl ([.ref h0, .int k])).length) Slot.unset).toArray = ls at hl ⊢
  have hl : lv_has ls 2 [(0, .ref h0), (1, .int k)] := hl
  unfold A_TL_labelAt at hr0
  refine lv_aload_n hx hb d_TL_labelAt_0 rfl (lv_at hl 0 rfl) ?_
  refine va_get (D := G.1) (ci := 4) (v := .ref (ad 2)) (C := RTL) (T := TTL) (N := 14) hx hb hts inTL hown hK hP 0 rfl rfl 4 (by decide) (hts _ fl_TL_29) (fun _ h9 => h9) rfl d_TL_labelAt_1 ?_
  refine lv_iload_n hx hb d_TL_labelAt_4 rfl (lv_at hl 1 rfl) ?_
  refine rdV (G := G) (As := [.int k]) (rest := []) (C := RIL) ⟨hx, hb, hml, hown, hts⟩ (c_IL_at l G (ad 2) (gTL_labels σ) k _ _ (bk_gP (k := 3) hP rfl) h6 _ rfl) (cwV 1 hts (gd_V ml_TL_78 im_IL_at sl_IL_at ini_IL k_IL_at) rfl rmK_c rmK_s (by decide +kernel) ⟨Nat.le_of_ble_eq_true rfl, Nat.le_of_ble_eq_true rfl⟩) hK (pIL_recv hK (bk_gP (k := 3) hP rfl) h6) hS ⟨Nat.le_refl _, Nat.le_refl _⟩ rfl hl.1 (Nat.le_of_ble_eq_true rfl) d_TL_labelAt_5 (fun locs hS => ?_)
  exact W.iret (v := (A_IL_at (gTL_labels σ) k)) hx hb hr (fun t ht hW => ⟨⟨(A_IL_at (gTL_labels σ) k), (), rfl, hr0, ht⟩, hS.F ht⟩) hS.2.2 d_TL_labelAt_8

def A_TL_letterAt (σ : tTL) (k : Int32) : Int32 := A_LL_letterAt (gTL_letters σ) k
set_option maxHeartbeats 4000000 in
set_option maxRecDepth 100000 in
theorem c_TL_letterAt (l : Launch) (G : pG) (h0 : Nat) (bS : Nat) (bR : Nat) (ad : Nat → Nat) (adL : Nat → Nat) (σ : tTL) (k : Int32) (H : Heap) (w : va_W) (hP0 : va_P G.1 vwCl w H) (hσ : pTL G h0 bS bR ad adL σ w) (res : Int32) (hr0 : A_TL_letterAt σ k = res) : MRi l y_TL_letterAt w_TL_letterAt 2 42 G [.ref h0, .int k] H res := by
  refine Met.ofW (cc := b_TL_letterAt) (maxL := 2) (ret := (some .int)) (by decide) rfl ?_
  intro p e s m args below meth c s₁ B hml hv
  obtain ⟨rfl, rfl, hK⟩ := hv
  have hx := B.exec
  have hb := B.bytes
  have hr := B.returns
  have hts0 := atoms_spec (ws := w_TL_letterAt) B.pre
  have hts := fun w (h : w ∈ lw_g) => hts0 w (List.mem_cons_of_mem _ h)
  have hown : s.vm.findClass RTL = some m.cls := findClass_of_methodNamed B.named
  have hlocks := B.notSynchronized
  have hσ0 := hσ
  obtain ⟨w1, w3, w5, w7, w9, w11, w13, w15, w17, w19, rfl, h2, h4, h6, h8, h10, h12, h14, h16, h18, h20⟩ := hσ
  have hP := hP0
  obtain ⟨A, hAe⟩ : ∃ A : Nat → Prop, A = fun _ => False := ⟨_, rfl⟩
  rw [← hAe]
  have hS : va_S A s.heap s.heap [] := va_S.rf
  have hl := lv_entry ([.ref h0, .int k]) (n := 2) (Nat.le_of_ble_eq_true rfl)
  rw [lg_entry_eq]
  generalize (lg_sl ([.ref h0, .int k]) ++ List.replicate (2 - (lg_sl ([.ref h0, .int k])).length) Slot.unset).toArray = ls at hl ⊢
  have hl : lv_has ls 2 [(0, .ref h0), (1, .int k)] := hl
  unfold A_TL_letterAt at hr0
  refine lv_aload_n hx hb d_TL_letterAt_0 rfl (lv_at hl 0 rfl) ?_
  refine va_get (D := G.1) (ci := 4) (v := .ref (ad 3)) (C := RTL) (T := TTL) (N := 14) hx hb hts inTL hown hK hP 0 rfl rfl 5 (by decide) (hts _ fl_TL_35) (fun _ h9 => h9) rfl d_TL_letterAt_1 ?_
  refine lv_iload_n hx hb d_TL_letterAt_4 rfl (lv_at hl 1 rfl) ?_
  refine rdV (G := G) (As := [.int k]) (rest := []) (C := RLL) ⟨hx, hb, hml, hown, hts⟩ (c_LL_letterAt l G (ad 3) adL (gTL_letters σ) k _ _ (bk_gP (k := 4) hP rfl) h8 _ rfl) (cwV 1 hts (gd_V ml_TL_82 im_LL_letterAt sl_LL_letterAt ini_LL k_LL_letterAt) rfl rmK_c rmK_s (by decide +kernel) ⟨Nat.le_of_ble_eq_true rfl, Nat.le_of_ble_eq_true rfl⟩) hK (pLL_recv hK (bk_gP (k := 4) hP rfl) h8) hS ⟨Nat.le_refl _, Nat.le_refl _⟩ rfl hl.1 (Nat.le_of_ble_eq_true rfl) d_TL_letterAt_5 (fun locs hS => ?_)
  exact W.iret (v := (A_LL_letterAt (gTL_letters σ) k)) hx hb hr (fun t ht hW => ⟨⟨(A_LL_letterAt (gTL_letters σ) k), (), rfl, hr0, ht⟩, hS.F ht⟩) hS.2.2 d_TL_letterAt_8

def A_TL_rowsTakenAt (σ : tTL) (ss : tST) (rr : tRW) (k : Int32) : Int32 := if (-2) < (A_IL_at (gTL_steps σ) k) then (A_ST_taking ss (A_IL_at (gTL_steps σ) k)) else 0
set_option maxHeartbeats 4000000 in
set_option maxRecDepth 100000 in
theorem c_TL_rowsTakenAt (l : Launch) (G : pG) (h0 : Nat) (bS : Nat) (bR : Nat) (ad : Nat → Nat) (adL : Nat → Nat) (σ : tTL) (k : Int32) (H : Heap) (w : va_W) (adS : Nat → Nat) (ss : tST) (vS : va_W) (hvS : va_P G.1 vwCl vS H) (hsS : pST G bS adS ss vS) (adR : Nat → Nat) (rr : tRW) (vR : va_W) (hvR : va_P G.1 vwCl vR H) (hrR : pRW G bR adR rr vR) (hP0 : va_P G.1 vwCl w H) (hσ : pTL G h0 bS bR ad adL σ w) (res : Int32) (hr0 : A_TL_rowsTakenAt σ ss rr k = res) : MRi l y_TL_rowsTakenAt w_TL_rowsTakenAt 2 42 G [.ref h0, .int k] H res := by
  refine Met.ofW (cc := b_TL_rowsTakenAt) (maxL := 3) (ret := (some .int)) (by decide) rfl ?_
  intro p e s m args below meth c s₁ B hml hv
  obtain ⟨rfl, rfl, hK⟩ := hv
  have hx := B.exec
  have hb := B.bytes
  have hr := B.returns
  have hts0 := atoms_spec (ws := w_TL_rowsTakenAt) B.pre
  have hts := fun w (h : w ∈ lw_g) => hts0 w (List.mem_cons_of_mem _ h)
  have hown : s.vm.findClass RTL = some m.cls := findClass_of_methodNamed B.named
  have hlocks := B.notSynchronized
  have hσ0 := hσ
  obtain ⟨w1, w3, w5, w7, w9, w11, w13, w15, w17, w19, rfl, h2, h4, h6, h8, h10, h12, h14, h16, h18, h20⟩ := hσ
  have hP := hP0
  obtain ⟨A, hAe⟩ : ∃ A : Nat → Prop, A = fun _ => False := ⟨_, rfl⟩
  rw [← hAe]
  have hS : va_S A s.heap s.heap [] := va_S.rf
  have hl := lv_entry ([.ref h0, .int k]) (n := 3) (Nat.le_of_ble_eq_true rfl)
  rw [lg_entry_eq]
  generalize (lg_sl ([.ref h0, .int k]) ++ List.replicate (3 - (lg_sl ([.ref h0, .int k])).length) Slot.unset).toArray = ls at hl ⊢
  have hl : lv_has ls 3 [(0, .ref h0), (1, .int k)] := hl
  unfold A_TL_rowsTakenAt at hr0
  refine lv_aload_n hx hb d_TL_rowsTakenAt_0 rfl (lv_at hl 0 rfl) ?_
  refine va_get (D := G.1) (ci := 4) (v := .ref (ad 0)) (C := RTL) (T := TTL) (N := 14) hx hb hts inTL hown hK hP 0 rfl rfl 2 (by decide) (hts _ fl_TL_22) (fun _ h9 => h9) rfl d_TL_rowsTakenAt_1 ?_
  refine lv_iload_n hx hb d_TL_rowsTakenAt_4 rfl (lv_at hl 1 rfl) ?_
  refine rdV (G := G) (As := [.int k]) (rest := []) (C := RIL) ⟨hx, hb, hml, hown, hts⟩ (c_IL_at l G (ad 0) (gTL_steps σ) k _ _ (bk_gP (k := 1) hP rfl) h2 _ rfl) (cwV 1 hts (gd_V ml_TL_78 im_IL_at sl_IL_at ini_IL k_IL_at) rfl rmK_c rmK_s (by decide +kernel) ⟨Nat.le_of_ble_eq_true rfl, Nat.le_of_ble_eq_true rfl⟩) hK (pIL_recv hK (bk_gP (k := 1) hP rfl) h2) hS ⟨Nat.le_refl _, Nat.le_refl _⟩ rfl hl.1 (Nat.le_of_ble_eq_true rfl) d_TL_rowsTakenAt_5 (fun locs hS => ?_)
  refine lv_istore_n (lv' := [(2, .int (A_IL_at (gTL_steps σ) k)), (0, .ref h0), (1, .int k)]) hx hb d_TL_rowsTakenAt_8 rfl hl (by decide) rfl (fun ls hl => ?_)
  refine lv_iload_n hx hb d_TL_rowsTakenAt_9 rfl (lv_at hl 0 rfl) ?_
  refine lv_bipush (v := (-2)) hx hb d_TL_rowsTakenAt_10 (by decide) ?_
  refine lv_icmp_gt (tgt := 19) hx hb d_TL_rowsTakenAt_12 (by decide) (fun c21 => ?_) (fun c21 => ?_)
  · have hr0 := ai_pos c21 hr0
    refine lv_aload_n hx hb d_TL_rowsTakenAt_19 rfl (lv_at hl 1 rfl) ?_
    refine va_get (D := G.1) (ci := 4) (v := .ref bS) (C := RTL) (T := TTL) (N := 14) hx hb hts inTL hown hK hP 0 rfl rfl 0 (by decide) (hts _ fl_TL_9) (fun _ h9 => h9) rfl d_TL_rowsTakenAt_20 ?_
    refine lv_iload_n hx hb d_TL_rowsTakenAt_23 rfl (lv_at hl 0 rfl) ?_
    refine rdV (G := G) (As := [.int (A_IL_at (gTL_steps σ) k)]) (rest := []) (C := RST) ⟨hx, hb, hml, hown, hts⟩ (c_ST_taking l G bS adS ss (A_IL_at (gTL_steps σ) k) _ _ hvS hsS _ rfl) (cwV 1 hts (gd_V ml_TL_167 im_ST_taking sl_ST_taking ini_ST k_ST_taking) rfl rmK_c rmK_s (by decide +kernel) ⟨Nat.le_of_ble_eq_true rfl, Nat.le_of_ble_eq_true rfl⟩) hK (pST_recv hK hvS hsS) hS ⟨Nat.le_refl _, Nat.le_refl _⟩ rfl hl.1 (Nat.le_of_ble_eq_true rfl) d_TL_rowsTakenAt_24 (fun locs hS => ?_)
    exact W.iret (v := (A_ST_taking ss (A_IL_at (gTL_steps σ) k))) hx hb hr (fun t ht hW => ⟨⟨(A_ST_taking ss (A_IL_at (gTL_steps σ) k)), (), rfl, hr0, ht⟩, hS.F ht⟩) hS.2.2 d_TL_rowsTakenAt_27
  · have hr0 := ai_neg c21 hr0
    refine lv_iconst (v := 0) hx hb d_TL_rowsTakenAt_15 (by decide) ?_
    refine lv_goto (tgt := 27) hx hb d_TL_rowsTakenAt_16 (by decide) ?_
    exact W.iret (v := 0) hx hb hr (fun t ht hW => ⟨⟨0, (), rfl, hr0, ht⟩, hS.F ht⟩) hS.2.2 d_TL_rowsTakenAt_27

def A_TL_kindMadeAt (σ : tTL) (ss : tST) (rr : tRW) (k : Int32) (under : Int32) : Int32 := if (-2) < (A_IL_at (gTL_steps σ) k) then (A_RW_kindMadeOf rr (gTL_remade σ) (A_IL_at (gTL_steps σ) k) under) else (A_IL_at (gTL_savedKinds σ) ((-2) - (A_IL_at (gTL_steps σ) k)))
set_option maxHeartbeats 4000000 in
set_option maxRecDepth 100000 in
theorem c_TL_kindMadeAt (l : Launch) (G : pG) (h0 : Nat) (bS : Nat) (bR : Nat) (ad : Nat → Nat) (adL : Nat → Nat) (σ : tTL) (k : Int32) (under : Int32) (H : Heap) (w : va_W) (adS : Nat → Nat) (ss : tST) (vS : va_W) (hvS : va_P G.1 vwCl vS H) (hsS : pST G bS adS ss vS) (adR : Nat → Nat) (rr : tRW) (vR : va_W) (hvR : va_P G.1 vwCl vR H) (hrR : pRW G bR adR rr vR) (hP0 : va_P G.1 vwCl w H) (hσ : pTL G h0 bS bR ad adL σ w) (res : Int32) (hr0 : A_TL_kindMadeAt σ ss rr k under = res) : MRi l y_TL_kindMadeAt w_TL_kindMadeAt 4 93 G [.ref h0, .int k, .int under] H res := by
  refine Met.ofW (cc := b_TL_kindMadeAt) (maxL := 4) (ret := (some .int)) (by decide) rfl ?_
  intro p e s m args below meth c s₁ B hml hv
  obtain ⟨rfl, rfl, hK⟩ := hv
  have hx := B.exec
  have hb := B.bytes
  have hr := B.returns
  have hts0 := atoms_spec (ws := w_TL_kindMadeAt) B.pre
  have hts := fun w (h : w ∈ lw_g) => hts0 w (List.mem_cons_of_mem _ h)
  have hown : s.vm.findClass RTL = some m.cls := findClass_of_methodNamed B.named
  have hlocks := B.notSynchronized
  have hσ0 := hσ
  obtain ⟨w1, w3, w5, w7, w9, w11, w13, w15, w17, w19, rfl, h2, h4, h6, h8, h10, h12, h14, h16, h18, h20⟩ := hσ
  have hP := hP0
  obtain ⟨A, hAe⟩ : ∃ A : Nat → Prop, A = fun _ => False := ⟨_, rfl⟩
  rw [← hAe]
  have hS : va_S A s.heap s.heap [] := va_S.rf
  have hl := lv_entry ([.ref h0, .int k, .int under]) (n := 4) (Nat.le_of_ble_eq_true rfl)
  rw [lg_entry_eq]
  generalize (lg_sl ([.ref h0, .int k, .int under]) ++ List.replicate (4 - (lg_sl ([.ref h0, .int k, .int under])).length) Slot.unset).toArray = ls at hl ⊢
  have hl : lv_has ls 4 [(0, .ref h0), (1, .int k), (2, .int under)] := hl
  unfold A_TL_kindMadeAt at hr0
  refine lv_aload_n hx hb d_TL_kindMadeAt_0 rfl (lv_at hl 0 rfl) ?_
  refine va_get (D := G.1) (ci := 4) (v := .ref (ad 0)) (C := RTL) (T := TTL) (N := 14) hx hb hts inTL hown hK hP 0 rfl rfl 2 (by decide) (hts _ fl_TL_22) (fun _ h9 => h9) rfl d_TL_kindMadeAt_1 ?_
  refine lv_iload_n hx hb d_TL_kindMadeAt_4 rfl (lv_at hl 1 rfl) ?_
  refine rdV (G := G) (As := [.int k]) (rest := []) (C := RIL) ⟨hx, hb, hml, hown, hts⟩ (c_IL_at l G (ad 0) (gTL_steps σ) k _ _ (bk_gP (k := 1) hP rfl) h2 _ rfl) (cwV 1 hts (gd_V ml_TL_78 im_IL_at sl_IL_at ini_IL k_IL_at) rfl rmK_c rmK_s (by decide +kernel) ⟨Nat.le_of_ble_eq_true rfl, Nat.le_of_ble_eq_true rfl⟩) hK (pIL_recv hK (bk_gP (k := 1) hP rfl) h2) hS ⟨Nat.le_refl _, Nat.le_refl _⟩ rfl hl.1 (Nat.le_of_ble_eq_true rfl) d_TL_kindMadeAt_5 (fun locs hS => ?_)
  refine lv_istore_n (lv' := [(3, .int (A_IL_at (gTL_steps σ) k)), (0, .ref h0), (1, .int k), (2, .int under)]) hx hb d_TL_kindMadeAt_8 rfl hl (by decide) rfl (fun ls hl => ?_)
  refine lv_iload_n hx hb d_TL_kindMadeAt_9 rfl (lv_at hl 0 rfl) ?_
  refine lv_bipush (v := (-2)) hx hb d_TL_kindMadeAt_10 (by decide) ?_
  refine lv_icmp_gt (tgt := 27) hx hb d_TL_kindMadeAt_12 (by decide) (fun c21 => ?_) (fun c21 => ?_)
  · have hr0 := ai_pos c21 hr0
    refine lv_aload_n hx hb d_TL_kindMadeAt_27 rfl (lv_at hl 1 rfl) ?_
    refine va_get (D := G.1) (ci := 4) (v := .ref bR) (C := RTL) (T := TTL) (N := 14) hx hb hts inTL hown hK hP 0 rfl rfl 1 (by decide) (hts _ fl_TL_15) (fun _ h9 => h9) rfl d_TL_kindMadeAt_28 ?_
    refine lv_iload_n hx hb d_TL_kindMadeAt_31 rfl (lv_at hl 0 rfl) ?_
    refine lv_aload_n hx hb d_TL_kindMadeAt_32 rfl (lv_at hl 1 rfl) ?_
    refine va_get (D := G.1) (ci := 4) (v := .ref (ad 8)) (C := RTL) (T := TTL) (N := 14) hx hb hts inTL hown hK hP 0 rfl rfl 12 (by decide) (hts _ fl_TL_58) (fun _ h9 => h9) rfl d_TL_kindMadeAt_33 ?_
    refine lv_iload_n hx hb d_TL_kindMadeAt_36 rfl (lv_at hl 3 rfl) ?_
    refine rdV (G := G) (As := [.int (A_IL_at (gTL_steps σ) k), .ref (ad 8), .int under]) (rest := []) (C := RRW) ⟨hx, hb, hml, hown, hts⟩ (c_RW_kindMadeOf l G bR adR rr (A_IL_at (gTL_steps σ) k) (ad 8) under _ _ (gTL_remade σ) _ (bk_gP (k := 9) hP rfl) h18 hvR hrR _ rfl) (cwV 3 hts (gd_V ml_TL_170 im_RW_kindMadeOf sl_RW_kindMadeOf ini_RW k_RW_kindMadeOf) rfl rmK_c rmK_s (by decide +kernel) ⟨Nat.le_of_ble_eq_true rfl, Nat.le_of_ble_eq_true rfl⟩) hK (pRW_recv hK hvR hrR) hS ⟨Nat.le_refl _, Nat.le_refl _⟩ rfl hl.1 (Nat.le_of_ble_eq_true rfl) d_TL_kindMadeAt_37 (fun locs hS => ?_)
    exact W.iret (v := (A_RW_kindMadeOf rr (gTL_remade σ) (A_IL_at (gTL_steps σ) k) under)) hx hb hr (fun t ht hW => ⟨⟨(A_RW_kindMadeOf rr (gTL_remade σ) (A_IL_at (gTL_steps σ) k) under), (), rfl, hr0, ht⟩, hS.F ht⟩) hS.2.2 d_TL_kindMadeAt_40
  · have hr0 := ai_neg c21 hr0
    refine lv_aload_n hx hb d_TL_kindMadeAt_15 rfl (lv_at hl 1 rfl) ?_
    refine va_get (D := G.1) (ci := 4) (v := .ref (ad 9)) (C := RTL) (T := TTL) (N := 14) hx hb hts inTL hown hK hP 0 rfl rfl 13 (by decide) (hts _ fl_TL_61) (fun _ h9 => h9) rfl d_TL_kindMadeAt_16 ?_
    refine lv_bipush (v := (-2)) hx hb d_TL_kindMadeAt_19 (by decide) ?_
    refine lv_iload_n hx hb d_TL_kindMadeAt_21 rfl (lv_at hl 0 rfl) ?_
    refine lv_isub hx hb d_TL_kindMadeAt_22 ?_
    refine rdV (G := G) (As := [.int ((-2) - (A_IL_at (gTL_steps σ) k))]) (rest := []) (C := RIL) ⟨hx, hb, hml, hown, hts⟩ (c_IL_at l G (ad 9) (gTL_savedKinds σ) ((-2) - (A_IL_at (gTL_steps σ) k)) _ _ (bk_gP (k := 10) hP rfl) h20 _ rfl) (cwV 1 hts (gd_V ml_TL_78 im_IL_at sl_IL_at ini_IL k_IL_at) rfl rmK_c rmK_s (by decide +kernel) ⟨Nat.le_of_ble_eq_true rfl, Nat.le_of_ble_eq_true rfl⟩) hK (pIL_recv hK (bk_gP (k := 10) hP rfl) h20) hS ⟨Nat.le_refl _, Nat.le_refl _⟩ rfl hl.1 (Nat.le_of_ble_eq_true rfl) d_TL_kindMadeAt_23 (fun locs hS => ?_)
    exact W.iret (v := (A_IL_at (gTL_savedKinds σ) ((-2) - (A_IL_at (gTL_steps σ) k)))) hx hb hr (fun t ht hW => ⟨⟨(A_IL_at (gTL_savedKinds σ) ((-2) - (A_IL_at (gTL_steps σ) k))), (), rfl, hr0, ht⟩, hS.F ht⟩) hS.2.2 d_TL_kindMadeAt_26
end
section
def A_TL_opn (σ : tTL) (r : Int32) : tTL := uTL_openParts (uTL_openRows σ (A_IL_add (gTL_openRows σ) r)) (A_IL_add (gTL_openParts σ) 0)
def K_TL_opn (σ : tTL) (r : Int32) : Nat := (K_IL_add (gTL_openRows σ) r) + ((K_IL_add (gTL_openParts σ) 0) + 0)
set_option maxHeartbeats 4000000 in
set_option maxRecDepth 100000 in
theorem c_TL_opn (l : Launch) (G : pG) (h0 : Nat) (bS : Nat) (bR : Nat) (ad : Nat → Nat) (adL : Nat → Nat) (σ : tTL) (r : Int32) (H : Heap) (w : va_W) (hP0 : va_P G.1 vwCl w H) (hD0 : va_D (fun _ => True) w) (hσ : pTL G h0 bS bR ad adL σ w) (res : tTL) (hr0 : A_TL_opn σ r = res) (Kt : Nat) (hk : K_TL_opn σ r = Kt) (hKb : Kt ≤ 16777216) : MWv l y_TL_opn w_TL_opn 3 103 Kt G [.ref h0, .int r] H w (pTL G h0 bS bR ad adL res) := by
  refine Met.ofW (cc := b_TL_opn) (maxL := 2) (ret := none) (by decide) rfl ?_
  intro p e s m args below meth c s₁ B hml hv
  obtain ⟨rfl, rfl, hK⟩ := hv
  have hx := B.exec
  have hb := B.bytes
  have hr := B.returns
  have hts0 := atoms_spec (ws := w_TL_opn) B.pre
  have hts := fun w (h : w ∈ lw_g) => hts0 w (List.mem_cons_of_mem _ h)
  have hown : s.vm.findClass RTL = some m.cls := findClass_of_methodNamed B.named
  have hlocks := B.notSynchronized
  have hA : ∀ q : Nat, s.heap.size ≤ q → va_A w s.heap.size q := fun _ h => Or.inr h
  have hB : bk G.1 vwCl (va_A w s.heap.size) [w] s.heap := bk_init hP0 hD0
  generalize va_A w s.heap.size = A at *
  have hS : va_S A s.heap s.heap [] := va_S.rf
  obtain ⟨w1, w3, w5, w7, w9, w11, w13, w15, w17, w19, rfl, h2, h4, h6, h8, h10, h12, h14, h16, h18, h20⟩ := hσ
  have hB := bk_many hB
  have hk : 0 + K_TL_opn σ r = Kt := (Nat.zero_add _).trans hk
  have hl := lv_entry ([.ref h0, .int r]) (n := 2) (Nat.le_of_ble_eq_true rfl)
  rw [lg_entry_eq]
  generalize (lg_sl ([.ref h0, .int r]) ++ List.replicate (2 - (lg_sl ([.ref h0, .int r])).length) Slot.unset).toArray = ls at hl ⊢
  have hl : lv_has ls 2 [(0, .ref h0), (1, .int r)] := hl
  unfold A_TL_opn at hr0
  unfold K_TL_opn at hk
  refine lv_aload_n hx hb d_TL_opn_0 rfl (lv_at hl 0 rfl) ?_
  refine va_get (D := G.1) (ci := 4) (v := .ref (ad 4)) (C := RTL) (T := TTL) (N := 14) hx hb hts inTL hown hK hB.1 0 rfl rfl 8 (by decide) (hts _ fl_TL_46) (fun _ h9 => h9) rfl d_TL_opn_1 ?_
  refine lv_iload_n hx hb d_TL_opn_4 rfl (lv_at hl 1 rfl) ?_
  refine wrV (G := G) (k := 5) (As := [.int r]) (rest := []) (C := RIL) ⟨hx, hb, hml, hown, hts⟩ (c_IL_add l G (ad 4) (gTL_openRows σ) r _ _ (bk_gP (k := 5) hB.1 rfl) (bk_own (k := 5) hB rfl) h10 _ rfl _ rfl (bk_ub hk hKb)) (cwV 1 hts (gd_V ml_TL_133 im_IL_add sl_IL_add ini_IL k_IL_add) rfl rmK_c rmK_s (by decide +kernel) ⟨Nat.le_of_ble_eq_true rfl, Nat.le_of_ble_eq_true rfl⟩) hK (pIL_recv hK (bk_gP (k := 5) hB.1 rfl) h10) hS hA hB rfl hk ⟨rfl, rfl⟩ rfl hl.1 (Nat.le_of_ble_eq_true rfl) d_TL_opn_5 (fun u21 H locs kc hu22 hB hS hk => ?_)
  have hB : bk G.1 vwCl A [[(h0, .inr (4, [.ref bS, .ref bR, .ref (ad 0), .ref (ad 1), .ref (ad 2), .ref (ad 3), .int (gTL_rowTold σ), .int (gTL_savedRows σ), .ref (ad 4), .ref (ad 5), .ref (ad 6), .ref (ad 7), .ref (ad 8), .ref (ad 9)]))], w1, w3, w5, w7, u21, w11, w13, w15, w17, w19] H := hB
  refine lv_aload_n hx hb d_TL_opn_8 rfl (lv_at hl 0 rfl) ?_
  refine va_get (D := G.1) (ci := 4) (v := .ref (ad 5)) (C := RTL) (T := TTL) (N := 14) hx hb hts inTL hown hK hB.1 0 rfl rfl 9 (by decide) (hts _ fl_TL_49) (fun _ h9 => h9) rfl d_TL_opn_9 ?_
  refine lv_iconst (v := 0) hx hb d_TL_opn_12 (by decide) ?_
  refine wrV (G := G) (k := 6) (As := [.int 0]) (rest := []) (C := RIL) ⟨hx, hb, hml, hown, hts⟩ (c_IL_add l G (ad 5) (gTL_openParts σ) 0 _ _ (bk_gP (k := 6) hB.1 rfl) (bk_own (k := 6) hB rfl) h12 _ rfl _ rfl (bk_ub hk hKb)) (cwV 1 hts (gd_V ml_TL_133 im_IL_add sl_IL_add ini_IL k_IL_add) rfl rmK_c rmK_s (by decide +kernel) ⟨Nat.le_of_ble_eq_true rfl, Nat.le_of_ble_eq_true rfl⟩) hK (pIL_recv hK (bk_gP (k := 6) hB.1 rfl) h12) hS hA hB rfl hk ⟨rfl, rfl⟩ rfl hl.1 (Nat.le_of_ble_eq_true rfl) d_TL_opn_13 (fun u23 H locs kc hu24 hB hS hk => ?_)
  have hB : bk G.1 vwCl A [[(h0, .inr (4, [.ref bS, .ref bR, .ref (ad 0), .ref (ad 1), .ref (ad 2), .ref (ad 3), .int (gTL_rowTold σ), .int (gTL_savedRows σ), .ref (ad 4), .ref (ad 5), .ref (ad 6), .ref (ad 7), .ref (ad 8), .ref (ad 9)]))], w1, w3, w5, w7, u21, u23, w13, w15, w17, w19] H := hB
  subst hr0
  refine W.widen (k := Kt) (n := Kt) (Nat.le.intro hk) (Nat.le.intro hk) ?_
  exact W.vret hx hb hr (fun t ht hW => ⟨⟨[[(h0, .inr (4, [.ref bS, .ref bR, .ref (ad 0), .ref (ad 1), .ref (ad 2), .ref (ad 3), .int (gTL_rowTold σ), .int (gTL_savedRows σ), .ref (ad 4), .ref (ad 5), .ref (ad 6), .ref (ad 7), .ref (ad 8), .ref (ad 9)]))], w1, w3, w5, w7, u21, u23, w13, w15, w17, w19].flatten, rfl, ⟨w1, w3, w5, w7, u21, u23, w13, w15, w17, w19, rfl, h2, h4, h6, h8, hu22, hu24, h14, h16, h18, h20⟩, by rw [ht]; exact hB.1, hB.2⟩, hS.F ht⟩) hS.2.2 d_TL_opn_16

def A_TL_addStep (σ : tTL) (told : Int32) : tTL := uTL_savedAs (uTL_steps σ (A_IL_add (gTL_steps σ) told)) (A_IL_add (gTL_savedAs σ) (-1))
def K_TL_addStep (σ : tTL) (told : Int32) : Nat := (K_IL_add (gTL_steps σ) told) + ((K_IL_add (gTL_savedAs σ) (-1)) + 0)
set_option maxHeartbeats 4000000 in
set_option maxRecDepth 100000 in
theorem c_TL_addStep (l : Launch) (G : pG) (h0 : Nat) (bS : Nat) (bR : Nat) (ad : Nat → Nat) (adL : Nat → Nat) (σ : tTL) (told : Int32) (H : Heap) (w : va_W) (hP0 : va_P G.1 vwCl w H) (hD0 : va_D (fun _ => True) w) (hσ : pTL G h0 bS bR ad adL σ w) (res : tTL) (hr0 : A_TL_addStep σ told = res) (Kt : Nat) (hk : K_TL_addStep σ told = Kt) (hKb : Kt ≤ 16777216) : MWv l y_TL_addStep w_TL_addStep 3 103 Kt G [.ref h0, .int told] H w (pTL G h0 bS bR ad adL res) := by
  refine Met.ofW (cc := b_TL_addStep) (maxL := 2) (ret := none) (by decide) rfl ?_
  intro p e s m args below meth c s₁ B hml hv
  obtain ⟨rfl, rfl, hK⟩ := hv
  have hx := B.exec
  have hb := B.bytes
  have hr := B.returns
  have hts0 := atoms_spec (ws := w_TL_addStep) B.pre
  have hts := fun w (h : w ∈ lw_g) => hts0 w (List.mem_cons_of_mem _ h)
  have hown : s.vm.findClass RTL = some m.cls := findClass_of_methodNamed B.named
  have hlocks := B.notSynchronized
  have hA : ∀ q : Nat, s.heap.size ≤ q → va_A w s.heap.size q := fun _ h => Or.inr h
  have hB : bk G.1 vwCl (va_A w s.heap.size) [w] s.heap := bk_init hP0 hD0
  generalize va_A w s.heap.size = A at *
  have hS : va_S A s.heap s.heap [] := va_S.rf
  obtain ⟨w1, w3, w5, w7, w9, w11, w13, w15, w17, w19, rfl, h2, h4, h6, h8, h10, h12, h14, h16, h18, h20⟩ := hσ
  have hB := bk_many hB
  have hk : 0 + K_TL_addStep σ told = Kt := (Nat.zero_add _).trans hk
  have hl := lv_entry ([.ref h0, .int told]) (n := 2) (Nat.le_of_ble_eq_true rfl)
  rw [lg_entry_eq]
  generalize (lg_sl ([.ref h0, .int told]) ++ List.replicate (2 - (lg_sl ([.ref h0, .int told])).length) Slot.unset).toArray = ls at hl ⊢
  have hl : lv_has ls 2 [(0, .ref h0), (1, .int told)] := hl
  unfold A_TL_addStep at hr0
  unfold K_TL_addStep at hk
  refine lv_aload_n hx hb d_TL_addStep_0 rfl (lv_at hl 0 rfl) ?_
  refine va_get (D := G.1) (ci := 4) (v := .ref (ad 0)) (C := RTL) (T := TTL) (N := 14) hx hb hts inTL hown hK hB.1 0 rfl rfl 2 (by decide) (hts _ fl_TL_22) (fun _ h9 => h9) rfl d_TL_addStep_1 ?_
  refine lv_iload_n hx hb d_TL_addStep_4 rfl (lv_at hl 1 rfl) ?_
  refine wrV (G := G) (k := 1) (As := [.int told]) (rest := []) (C := RIL) ⟨hx, hb, hml, hown, hts⟩ (c_IL_add l G (ad 0) (gTL_steps σ) told _ _ (bk_gP (k := 1) hB.1 rfl) (bk_own (k := 1) hB rfl) h2 _ rfl _ rfl (bk_ub hk hKb)) (cwV 1 hts (gd_V ml_TL_133 im_IL_add sl_IL_add ini_IL k_IL_add) rfl rmK_c rmK_s (by decide +kernel) ⟨Nat.le_of_ble_eq_true rfl, Nat.le_of_ble_eq_true rfl⟩) hK (pIL_recv hK (bk_gP (k := 1) hB.1 rfl) h2) hS hA hB rfl hk ⟨rfl, rfl⟩ rfl hl.1 (Nat.le_of_ble_eq_true rfl) d_TL_addStep_5 (fun u21 H locs kc hu22 hB hS hk => ?_)
  have hB : bk G.1 vwCl A [[(h0, .inr (4, [.ref bS, .ref bR, .ref (ad 0), .ref (ad 1), .ref (ad 2), .ref (ad 3), .int (gTL_rowTold σ), .int (gTL_savedRows σ), .ref (ad 4), .ref (ad 5), .ref (ad 6), .ref (ad 7), .ref (ad 8), .ref (ad 9)]))], u21, w3, w5, w7, w9, w11, w13, w15, w17, w19] H := hB
  refine lv_aload_n hx hb d_TL_addStep_8 rfl (lv_at hl 0 rfl) ?_
  refine va_get (D := G.1) (ci := 4) (v := .ref (ad 1)) (C := RTL) (T := TTL) (N := 14) hx hb hts inTL hown hK hB.1 0 rfl rfl 3 (by decide) (hts _ fl_TL_26) (fun _ h9 => h9) rfl d_TL_addStep_9 ?_
  refine lv_iconst (v := (-1)) hx hb d_TL_addStep_12 (by decide) ?_
  refine wrV (G := G) (k := 2) (As := [.int (-1)]) (rest := []) (C := RIL) ⟨hx, hb, hml, hown, hts⟩ (c_IL_add l G (ad 1) (gTL_savedAs σ) (-1) _ _ (bk_gP (k := 2) hB.1 rfl) (bk_own (k := 2) hB rfl) h4 _ rfl _ rfl (bk_ub hk hKb)) (cwV 1 hts (gd_V ml_TL_133 im_IL_add sl_IL_add ini_IL k_IL_add) rfl rmK_c rmK_s (by decide +kernel) ⟨Nat.le_of_ble_eq_true rfl, Nat.le_of_ble_eq_true rfl⟩) hK (pIL_recv hK (bk_gP (k := 2) hB.1 rfl) h4) hS hA hB rfl hk ⟨rfl, rfl⟩ rfl hl.1 (Nat.le_of_ble_eq_true rfl) d_TL_addStep_13 (fun u23 H locs kc hu24 hB hS hk => ?_)
  have hB : bk G.1 vwCl A [[(h0, .inr (4, [.ref bS, .ref bR, .ref (ad 0), .ref (ad 1), .ref (ad 2), .ref (ad 3), .int (gTL_rowTold σ), .int (gTL_savedRows σ), .ref (ad 4), .ref (ad 5), .ref (ad 6), .ref (ad 7), .ref (ad 8), .ref (ad 9)]))], u21, u23, w5, w7, w9, w11, w13, w15, w17, w19] H := hB
  subst hr0
  refine W.widen (k := Kt) (n := Kt) (Nat.le.intro hk) (Nat.le.intro hk) ?_
  exact W.vret hx hb hr (fun t ht hW => ⟨⟨[[(h0, .inr (4, [.ref bS, .ref bR, .ref (ad 0), .ref (ad 1), .ref (ad 2), .ref (ad 3), .int (gTL_rowTold σ), .int (gTL_savedRows σ), .ref (ad 4), .ref (ad 5), .ref (ad 6), .ref (ad 7), .ref (ad 8), .ref (ad 9)]))], u21, u23, w5, w7, w9, w11, w13, w15, w17, w19].flatten, rfl, ⟨u21, u23, w5, w7, w9, w11, w13, w15, w17, w19, rfl, hu22, hu24, h6, h8, h10, h12, h14, h16, h18, h20⟩, by rw [ht]; exact hB.1, hB.2⟩, hS.F ht⟩) hS.2.2 d_TL_addStep_16

def A_TL_tellPart (σ : tTL) (ss : tST) (rr : tRW) (r : Int32) : tTL := if (A_IL_at (gTL_toldAt σ) (A_RW_kindOf rr r)) = (-1) then (bnd (A_TL_opn σ r) (fun T23 => T23)) else (if (A_RW_amountOfParts rr r) = 0 then (bnd (A_TL_opn σ r) (fun T76 => T76)) else (bnd (A_TL_addStep (uTL_savedAs σ (A_IL_put (gTL_savedAs σ) (A_IL_at (gTL_toldAt σ) (A_RW_kindOf rr r)) 0)) ((-2) - (A_IL_at (gTL_toldAt σ) (A_RW_kindOf rr r)))) (fun T51 => T51)))
def K_TL_tellPart (σ : tTL) (ss : tST) (rr : tRW) (r : Int32) : Nat := if (A_IL_at (gTL_toldAt σ) (A_RW_kindOf rr r)) = (-1) then ((K_TL_opn σ r) + (bnd (A_TL_opn σ r) (fun T23 => 0))) else (if (A_RW_amountOfParts rr r) = 0 then ((K_TL_opn σ r) + (bnd (A_TL_opn σ r) (fun T76 => 0))) else ((K_TL_addStep (uTL_savedAs σ (A_IL_put (gTL_savedAs σ) (A_IL_at (gTL_toldAt σ) (A_RW_kindOf rr r)) 0)) ((-2) - (A_IL_at (gTL_toldAt σ) (A_RW_kindOf rr r)))) + (bnd (A_TL_addStep (uTL_savedAs σ (A_IL_put (gTL_savedAs σ) (A_IL_at (gTL_toldAt σ) (A_RW_kindOf rr r)) 0)) ((-2) - (A_IL_at (gTL_toldAt σ) (A_RW_kindOf rr r)))) (fun T51 => 0))))
set_option maxHeartbeats 4000000 in
set_option maxRecDepth 100000 in
theorem c_TL_tellPart (l : Launch) (G : pG) (h0 : Nat) (bS : Nat) (bR : Nat) (ad : Nat → Nat) (adL : Nat → Nat) (σ : tTL) (r : Int32) (H : Heap) (w : va_W) (adS : Nat → Nat) (ss : tST) (vS : va_W) (hvS : va_P G.1 vwCl vS H) (hsS : pST G bS adS ss vS) (ap_ss : bk_ap w vS) (adR : Nat → Nat) (rr : tRW) (vR : va_W) (hvR : va_P G.1 vwCl vR H) (hrR : pRW G bR adR rr vR) (ap_rr : bk_ap w vR) (hP0 : va_P G.1 vwCl w H) (hD0 : va_D (fun _ => True) w) (hσ : pTL G h0 bS bR ad adL σ w) (res : tTL) (hr0 : A_TL_tellPart σ ss rr r = res) (Kt : Nat) (hk : K_TL_tellPart σ ss rr r = Kt) (hKb : Kt ≤ 16777216) : MWv l y_TL_tellPart w_TL_tellPart 4 124 Kt G [.ref h0, .int r] H w (pTL G h0 bS bR ad adL res) := by
  refine Met.ofW (cc := b_TL_tellPart) (maxL := 3) (ret := none) (by decide) rfl ?_
  intro p e s m args below meth c s₁ B hml hv
  obtain ⟨rfl, rfl, hK⟩ := hv
  have hx := B.exec
  have hb := B.bytes
  have hr := B.returns
  have hts0 := atoms_spec (ws := w_TL_tellPart) B.pre
  have hts := fun w (h : w ∈ lw_g) => hts0 w (List.mem_cons_of_mem _ h)
  have hown : s.vm.findClass RTL = some m.cls := findClass_of_methodNamed B.named
  have hlocks := B.notSynchronized
  have hA : ∀ q : Nat, s.heap.size ≤ q → va_A w s.heap.size q := fun _ h => Or.inr h
  have hro_ss := ro_A hvS ap_ss
  have hro_rr := ro_A hvR ap_rr
  have hB : bk G.1 vwCl (va_A w s.heap.size) [w] s.heap := bk_init hP0 hD0
  generalize va_A w s.heap.size = A at *
  have hS : va_S A s.heap s.heap [] := va_S.rf
  obtain ⟨w1, w3, w5, w7, w9, w11, w13, w15, w17, w19, rfl, h2, h4, h6, h8, h10, h12, h14, h16, h18, h20⟩ := hσ
  have hB := bk_many hB
  have hk : 0 + K_TL_tellPart σ ss rr r = Kt := (Nat.zero_add _).trans hk
  have hl := lv_entry ([.ref h0, .int r]) (n := 3) (Nat.le_of_ble_eq_true rfl)
  rw [lg_entry_eq]
  generalize (lg_sl ([.ref h0, .int r]) ++ List.replicate (3 - (lg_sl ([.ref h0, .int r])).length) Slot.unset).toArray = ls at hl ⊢
  have hl : lv_has ls 3 [(0, .ref h0), (1, .int r)] := hl
  unfold A_TL_tellPart at hr0
  unfold K_TL_tellPart at hk
  refine lv_aload_n hx hb d_TL_tellPart_0 rfl (lv_at hl 0 rfl) ?_
  refine va_get (D := G.1) (ci := 4) (v := .ref (ad 6)) (C := RTL) (T := TTL) (N := 14) hx hb hts inTL hown hK hB.1 0 rfl rfl 10 (by decide) (hts _ fl_TL_52) (fun _ h9 => h9) rfl d_TL_tellPart_1 ?_
  refine lv_aload_n hx hb d_TL_tellPart_4 rfl (lv_at hl 0 rfl) ?_
  refine va_get (D := G.1) (ci := 4) (v := .ref bR) (C := RTL) (T := TTL) (N := 14) hx hb hts inTL hown hK hB.1 0 rfl rfl 1 (by decide) (hts _ fl_TL_15) (fun _ h9 => h9) rfl d_TL_tellPart_5 ?_
  refine lv_iload_n hx hb d_TL_tellPart_8 rfl (lv_at hl 1 rfl) ?_
  refine rdV (G := G) (As := [.int r]) (rest := [.ref (ad 6)]) (C := RRW) ⟨hx, hb, hml, hown, hts⟩ (c_RW_kindOf l G bR adR rr r _ _ (ro_keep hS hvR hro_rr) hrR _ rfl) (cwV 1 hts (gd_V ml_TL_124 im_RW_kindOf sl_RW_kindOf ini_RW k_RW_kindOf) rfl rmK_c rmK_s (by decide +kernel) ⟨Nat.le_of_ble_eq_true rfl, Nat.le_of_ble_eq_true rfl⟩) hK (pRW_recv hK (ro_keep hS hvR hro_rr) hrR) hS ⟨Nat.le.intro hk, Nat.le.intro hk⟩ rfl hl.1 (Nat.le_of_ble_eq_true rfl) d_TL_tellPart_9 (fun locs hS => ?_)
  refine rdV (G := G) (As := [.int (A_RW_kindOf rr r)]) (rest := []) (C := RIL) ⟨hx, hb, hml, hown, hts⟩ (c_IL_at l G (ad 6) (gTL_toldAt σ) (A_RW_kindOf rr r) _ _ (bk_gP (k := 7) hB.1 rfl) h14 _ rfl) (cwV 1 hts (gd_V ml_TL_78 im_IL_at sl_IL_at ini_IL k_IL_at) rfl rmK_c rmK_s (by decide +kernel) ⟨Nat.le_of_ble_eq_true rfl, Nat.le_of_ble_eq_true rfl⟩) hK (pIL_recv hK (bk_gP (k := 7) hB.1 rfl) h14) hS ⟨Nat.le.intro hk, Nat.le.intro hk⟩ rfl hl.1 (Nat.le_of_ble_eq_true rfl) d_TL_tellPart_12 (fun locs hS => ?_)
  refine lv_istore_n (lv' := [(2, .int (A_IL_at (gTL_toldAt σ) (A_RW_kindOf rr r))), (0, .ref h0), (1, .int r)]) hx hb d_TL_tellPart_15 rfl hl (by decide) rfl (fun ls hl => ?_)
  refine lv_iload_n hx hb d_TL_tellPart_16 rfl (lv_at hl 0 rfl) ?_
  refine lv_iconst (v := (-1)) hx hb d_TL_tellPart_17 (by decide) ?_
  refine lv_icmp_eq (tgt := 32) hx hb d_TL_tellPart_18 (by decide) (fun c21 => ?_) (fun c21 => ?_)
  · have hr0 := ai_pos c21 hr0
    have hk := ki_pos c21 hk
    refine lv_aload_n hx hb d_TL_tellPart_32 rfl (lv_at hl 1 rfl) ?_
    refine lv_iload_n hx hb d_TL_tellPart_33 rfl (lv_at hl 2 rfl) ?_
    have hB := bk_one hB
    have hpk22 : pTL G h0 bS bR ad adL σ ([[(h0, .inr (4, [.ref bS, .ref bR, .ref (ad 0), .ref (ad 1), .ref (ad 2), .ref (ad 3), .int (gTL_rowTold σ), .int (gTL_savedRows σ), .ref (ad 4), .ref (ad 5), .ref (ad 6), .ref (ad 7), .ref (ad 8), .ref (ad 9)]))], w1, w3, w5, w7, w9, w11, w13, w15, w17, w19].flatten) := ⟨w1, w3, w5, w7, w9, w11, w13, w15, w17, w19, rfl, h2, h4, h6, h8, h10, h12, h14, h16, h18, h20⟩
    obtain ⟨T23, hT24⟩ : ∃ z, A_TL_opn σ r = z := ⟨_, rfl⟩
    refine wrV (G := G) (k := 0) (As := [.int r]) (rest := []) (C := RTL) ⟨hx, hb, hml, hown, hts⟩ (c_TL_opn l G h0 bS bR ad adL σ r _ _ (bk_gP (k := 0) hB.1 rfl) (bk_own (k := 0) hB rfl) hpk22 T23 hT24 _ rfl (bk_ub hk hKb)) (cwV 1 hts (gd_V ml_TL_107 im_TL_opn sl_TL_opn ini_TL k_TL_opn) rfl rmK_c rmK_s (by decide +kernel) ⟨Nat.le_of_ble_eq_true rfl, Nat.le_of_ble_eq_true rfl⟩) hK (pTL_recv hK (bk_gP (k := 0) hB.1 rfl) hpk22) hS hA hB rfl hk ⟨rfl, rfl⟩ rfl hl.1 (Nat.le_of_ble_eq_true rfl) d_TL_tellPart_34 (fun u25 H locs kc hu26 hB hS hk => ?_)
    have hr0 := bnd_e hT24 hr0
    have hk := bnd_k hT24 hk
    have hB : bk G.1 vwCl A [u25] H := hB
    obtain ⟨w27, w29, w31, w33, w35, w37, w39, w41, w43, w45, rfl, h28, h30, h32, h34, h36, h38, h40, h42, h44, h46⟩ := hu26
    have hB : bk G.1 vwCl A [[(h0, .inr (4, [.ref bS, .ref bR, .ref (ad 0), .ref (ad 1), .ref (ad 2), .ref (ad 3), .int (gTL_rowTold T23), .int (gTL_savedRows T23), .ref (ad 4), .ref (ad 5), .ref (ad 6), .ref (ad 7), .ref (ad 8), .ref (ad 9)]))], w27, w29, w31, w33, w35, w37, w39, w41, w43, w45] H := bk_many hB
    subst hr0
    refine W.widen (k := Kt) (n := Kt) (Nat.le.intro hk) (Nat.le.intro hk) ?_
    exact W.vret hx hb hr (fun t ht hW => ⟨⟨[[(h0, .inr (4, [.ref bS, .ref bR, .ref (ad 0), .ref (ad 1), .ref (ad 2), .ref (ad 3), .int (gTL_rowTold T23), .int (gTL_savedRows T23), .ref (ad 4), .ref (ad 5), .ref (ad 6), .ref (ad 7), .ref (ad 8), .ref (ad 9)]))], w27, w29, w31, w33, w35, w37, w39, w41, w43, w45].flatten, rfl, ⟨w27, w29, w31, w33, w35, w37, w39, w41, w43, w45, rfl, h28, h30, h32, h34, h36, h38, h40, h42, h44, h46⟩, by rw [ht]; exact hB.1, hB.2⟩, hS.F ht⟩) hS.2.2 d_TL_tellPart_37
  · have hr0 := ai_neg c21 hr0
    have hk := ki_neg c21 hk
    refine lv_aload_n hx hb d_TL_tellPart_21 rfl (lv_at hl 1 rfl) ?_
    refine va_get (D := G.1) (ci := 4) (v := .ref bR) (C := RTL) (T := TTL) (N := 14) hx hb hts inTL hown hK hB.1 0 rfl rfl 1 (by decide) (hts _ fl_TL_15) (fun _ h9 => h9) rfl d_TL_tellPart_22 ?_
    refine lv_iload_n hx hb d_TL_tellPart_25 rfl (lv_at hl 2 rfl) ?_
    refine rdV (G := G) (As := [.int r]) (rest := []) (C := RRW) ⟨hx, hb, hml, hown, hts⟩ (c_RW_amountOfParts l G bR adR rr r _ _ (ro_keep hS hvR hro_rr) hrR _ rfl) (cwV 1 hts (gd_V ml_TL_111 im_RW_amountOfParts sl_RW_amountOfParts ini_RW k_RW_amountOfParts) rfl rmK_c rmK_s (by decide +kernel) ⟨Nat.le_of_ble_eq_true rfl, Nat.le_of_ble_eq_true rfl⟩) hK (pRW_recv hK (ro_keep hS hvR hro_rr) hrR) hS ⟨Nat.le.intro hk, Nat.le.intro hk⟩ rfl hl.1 (Nat.le_of_ble_eq_true rfl) d_TL_tellPart_26 (fun locs hS => ?_)
    refine lv_if_ne (tgt := 38) hx hb d_TL_tellPart_29 (by decide) (fun c47 => ?_) (fun c47 => ?_)
    · have hr0 := ai_neg c47 hr0
      have hk := ki_neg c47 hk
      refine lv_aload_n hx hb d_TL_tellPart_38 rfl (lv_at hl 1 rfl) ?_
      refine va_get (D := G.1) (ci := 4) (v := .ref (ad 1)) (C := RTL) (T := TTL) (N := 14) hx hb hts inTL hown hK hB.1 0 rfl rfl 3 (by decide) (hts _ fl_TL_26) (fun _ h9 => h9) rfl d_TL_tellPart_39 ?_
      refine lv_iload_n hx hb d_TL_tellPart_42 rfl (lv_at hl 0 rfl) ?_
      refine lv_iconst (v := 0) hx hb d_TL_tellPart_43 (by decide) ?_
      refine wrV0 (G := G) (k := 2) (As := [.int (A_IL_at (gTL_toldAt σ) (A_RW_kindOf rr r)), .int 0]) (rest := []) (C := RIL) ⟨hx, hb, hml, hown, hts⟩ (c_IL_put l G (ad 1) (gTL_savedAs σ) (A_IL_at (gTL_toldAt σ) (A_RW_kindOf rr r)) 0 _ _ (bk_gP (k := 2) hB.1 rfl) (bk_own (k := 2) hB rfl) h4 _ rfl) (cwV 2 hts (gd_V ml_TL_114 im_IL_put sl_IL_put ini_IL k_IL_put) rfl rmK_c rmK_s (by decide +kernel) ⟨Nat.le_of_ble_eq_true rfl, Nat.le_of_ble_eq_true rfl⟩) hK (pIL_recv hK (bk_gP (k := 2) hB.1 rfl) h4) hS hA hB rfl hk ⟨rfl, rfl⟩ rfl hl.1 (Nat.le_of_ble_eq_true rfl) d_TL_tellPart_44 (fun u48 H locs hu49 hB hS => ?_)
      have hB : bk G.1 vwCl A [[(h0, .inr (4, [.ref bS, .ref bR, .ref (ad 0), .ref (ad 1), .ref (ad 2), .ref (ad 3), .int (gTL_rowTold σ), .int (gTL_savedRows σ), .ref (ad 4), .ref (ad 5), .ref (ad 6), .ref (ad 7), .ref (ad 8), .ref (ad 9)]))], w1, u48, w5, w7, w9, w11, w13, w15, w17, w19] H := hB
      refine lv_aload_n hx hb d_TL_tellPart_47 rfl (lv_at hl 1 rfl) ?_
      refine lv_bipush (v := (-2)) hx hb d_TL_tellPart_48 (by decide) ?_
      refine lv_iload_n hx hb d_TL_tellPart_50 rfl (lv_at hl 0 rfl) ?_
      refine lv_isub hx hb d_TL_tellPart_51 ?_
      have hB := bk_one hB
      have hpk50 : pTL G h0 bS bR ad adL (uTL_savedAs σ (A_IL_put (gTL_savedAs σ) (A_IL_at (gTL_toldAt σ) (A_RW_kindOf rr r)) 0)) ([[(h0, .inr (4, [.ref bS, .ref bR, .ref (ad 0), .ref (ad 1), .ref (ad 2), .ref (ad 3), .int (gTL_rowTold σ), .int (gTL_savedRows σ), .ref (ad 4), .ref (ad 5), .ref (ad 6), .ref (ad 7), .ref (ad 8), .ref (ad 9)]))], w1, u48, w5, w7, w9, w11, w13, w15, w17, w19].flatten) := ⟨w1, u48, w5, w7, w9, w11, w13, w15, w17, w19, rfl, h2, hu49, h6, h8, h10, h12, h14, h16, h18, h20⟩
      obtain ⟨T51, hT52⟩ : ∃ z, A_TL_addStep (uTL_savedAs σ (A_IL_put (gTL_savedAs σ) (A_IL_at (gTL_toldAt σ) (A_RW_kindOf rr r)) 0)) ((-2) - (A_IL_at (gTL_toldAt σ) (A_RW_kindOf rr r))) = z := ⟨_, rfl⟩
      refine wrV (G := G) (k := 0) (As := [.int ((-2) - (A_IL_at (gTL_toldAt σ) (A_RW_kindOf rr r)))]) (rest := []) (C := RTL) ⟨hx, hb, hml, hown, hts⟩ (c_TL_addStep l G h0 bS bR ad adL (uTL_savedAs σ (A_IL_put (gTL_savedAs σ) (A_IL_at (gTL_toldAt σ) (A_RW_kindOf rr r)) 0)) ((-2) - (A_IL_at (gTL_toldAt σ) (A_RW_kindOf rr r))) _ _ (bk_gP (k := 0) hB.1 rfl) (bk_own (k := 0) hB rfl) hpk50 T51 hT52 _ rfl (bk_ub hk hKb)) (cwV 1 hts (gd_V ml_TL_130 im_TL_addStep sl_TL_addStep ini_TL k_TL_addStep) rfl rmK_c rmK_s (by decide +kernel) ⟨Nat.le_of_ble_eq_true rfl, Nat.le_of_ble_eq_true rfl⟩) hK (pTL_recv hK (bk_gP (k := 0) hB.1 rfl) hpk50) hS hA hB rfl hk ⟨rfl, rfl⟩ rfl hl.1 (Nat.le_of_ble_eq_true rfl) d_TL_tellPart_52 (fun u53 H locs kc hu54 hB hS hk => ?_)
      have hr0 := bnd_e hT52 hr0
      have hk := bnd_k hT52 hk
      have hB : bk G.1 vwCl A [u53] H := hB
      obtain ⟨w55, w57, w59, w61, w63, w65, w67, w69, w71, w73, rfl, h56, h58, h60, h62, h64, h66, h68, h70, h72, h74⟩ := hu54
      have hB : bk G.1 vwCl A [[(h0, .inr (4, [.ref bS, .ref bR, .ref (ad 0), .ref (ad 1), .ref (ad 2), .ref (ad 3), .int (gTL_rowTold T51), .int (gTL_savedRows T51), .ref (ad 4), .ref (ad 5), .ref (ad 6), .ref (ad 7), .ref (ad 8), .ref (ad 9)]))], w55, w57, w59, w61, w63, w65, w67, w69, w71, w73] H := bk_many hB
      subst hr0
      refine W.widen (k := Kt) (n := Kt) (Nat.le.intro hk) (Nat.le.intro hk) ?_
      exact W.vret hx hb hr (fun t ht hW => ⟨⟨[[(h0, .inr (4, [.ref bS, .ref bR, .ref (ad 0), .ref (ad 1), .ref (ad 2), .ref (ad 3), .int (gTL_rowTold T51), .int (gTL_savedRows T51), .ref (ad 4), .ref (ad 5), .ref (ad 6), .ref (ad 7), .ref (ad 8), .ref (ad 9)]))], w55, w57, w59, w61, w63, w65, w67, w69, w71, w73].flatten, rfl, ⟨w55, w57, w59, w61, w63, w65, w67, w69, w71, w73, rfl, h56, h58, h60, h62, h64, h66, h68, h70, h72, h74⟩, by rw [ht]; exact hB.1, hB.2⟩, hS.F ht⟩) hS.2.2 d_TL_tellPart_55
    · have hr0 := ai_pos c47 hr0
      have hk := ki_pos c47 hk
      refine lv_aload_n hx hb d_TL_tellPart_32 rfl (lv_at hl 1 rfl) ?_
      refine lv_iload_n hx hb d_TL_tellPart_33 rfl (lv_at hl 2 rfl) ?_
      have hB := bk_one hB
      have hpk75 : pTL G h0 bS bR ad adL σ ([[(h0, .inr (4, [.ref bS, .ref bR, .ref (ad 0), .ref (ad 1), .ref (ad 2), .ref (ad 3), .int (gTL_rowTold σ), .int (gTL_savedRows σ), .ref (ad 4), .ref (ad 5), .ref (ad 6), .ref (ad 7), .ref (ad 8), .ref (ad 9)]))], w1, w3, w5, w7, w9, w11, w13, w15, w17, w19].flatten) := ⟨w1, w3, w5, w7, w9, w11, w13, w15, w17, w19, rfl, h2, h4, h6, h8, h10, h12, h14, h16, h18, h20⟩
      obtain ⟨T76, hT77⟩ : ∃ z, A_TL_opn σ r = z := ⟨_, rfl⟩
      refine wrV (G := G) (k := 0) (As := [.int r]) (rest := []) (C := RTL) ⟨hx, hb, hml, hown, hts⟩ (c_TL_opn l G h0 bS bR ad adL σ r _ _ (bk_gP (k := 0) hB.1 rfl) (bk_own (k := 0) hB rfl) hpk75 T76 hT77 _ rfl (bk_ub hk hKb)) (cwV 1 hts (gd_V ml_TL_107 im_TL_opn sl_TL_opn ini_TL k_TL_opn) rfl rmK_c rmK_s (by decide +kernel) ⟨Nat.le_of_ble_eq_true rfl, Nat.le_of_ble_eq_true rfl⟩) hK (pTL_recv hK (bk_gP (k := 0) hB.1 rfl) hpk75) hS hA hB rfl hk ⟨rfl, rfl⟩ rfl hl.1 (Nat.le_of_ble_eq_true rfl) d_TL_tellPart_34 (fun u78 H locs kc hu79 hB hS hk => ?_)
      have hr0 := bnd_e hT77 hr0
      have hk := bnd_k hT77 hk
      have hB : bk G.1 vwCl A [u78] H := hB
      obtain ⟨w80, w82, w84, w86, w88, w90, w92, w94, w96, w98, rfl, h81, h83, h85, h87, h89, h91, h93, h95, h97, h99⟩ := hu79
      have hB : bk G.1 vwCl A [[(h0, .inr (4, [.ref bS, .ref bR, .ref (ad 0), .ref (ad 1), .ref (ad 2), .ref (ad 3), .int (gTL_rowTold T76), .int (gTL_savedRows T76), .ref (ad 4), .ref (ad 5), .ref (ad 6), .ref (ad 7), .ref (ad 8), .ref (ad 9)]))], w80, w82, w84, w86, w88, w90, w92, w94, w96, w98] H := bk_many hB
      subst hr0
      refine W.widen (k := Kt) (n := Kt) (Nat.le.intro hk) (Nat.le.intro hk) ?_
      exact W.vret hx hb hr (fun t ht hW => ⟨⟨[[(h0, .inr (4, [.ref bS, .ref bR, .ref (ad 0), .ref (ad 1), .ref (ad 2), .ref (ad 3), .int (gTL_rowTold T76), .int (gTL_savedRows T76), .ref (ad 4), .ref (ad 5), .ref (ad 6), .ref (ad 7), .ref (ad 8), .ref (ad 9)]))], w80, w82, w84, w86, w88, w90, w92, w94, w96, w98].flatten, rfl, ⟨w80, w82, w84, w86, w88, w90, w92, w94, w96, w98, rfl, h81, h83, h85, h87, h89, h91, h93, h95, h97, h99⟩, by rw [ht]; exact hB.1, hB.2⟩, hS.F ht⟩) hS.2.2 d_TL_tellPart_37

def M_TL_tellSteps_L41 (ss : tST) (rr : tRW) (turn : Int32) (τ : tTL) : Nat := ((1000000 : Int32).toInt - turn.toInt).toNat
def A_TL_tellSteps_L41 (ss : tST) (rr : tRW) : Nat → Int32 → tTL → tTL
  | 0, _, τ => τ
  | n41 + 1, turn, τ => if 1000000 ≤ turn then τ else (if (A_IL_length (gTL_openRows τ)) ≤ 0 then τ else (if (A_RW_amountOfParts rr (A_IL_at (gTL_openRows τ) ((A_IL_length (gTL_openRows τ)) - 1))) ≤ (A_IL_at (gTL_openParts τ) ((A_IL_length (gTL_openRows τ)) - 1)) then (bnd (A_TL_addStep (uTL_toldAt (uTL_openParts (uTL_openRows τ (A_IL_cut (gTL_openRows τ) ((A_IL_length (gTL_openRows τ)) - 1))) (A_IL_cut (gTL_openParts τ) ((A_IL_length (gTL_openRows τ)) - 1))) (A_IL_put (gTL_toldAt τ) (A_RW_kindOf rr (A_IL_at (gTL_openRows τ) ((A_IL_length (gTL_openRows τ)) - 1))) (A_IL_length (gTL_steps τ)))) (A_RW_statementOf rr (A_IL_at (gTL_openRows τ) ((A_IL_length (gTL_openRows τ)) - 1)))) (fun T82 => A_TL_tellSteps_L41 ss rr n41 (turn + 1) T82)) else (bnd (A_TL_tellPart (uTL_openParts τ (A_IL_put (gTL_openParts τ) ((A_IL_length (gTL_openRows τ)) - 1) ((A_IL_at (gTL_openParts τ) ((A_IL_length (gTL_openRows τ)) - 1)) + 1))) ss rr (A_RW_part rr (A_IL_at (gTL_openRows τ) ((A_IL_length (gTL_openRows τ)) - 1)) (A_IL_at (gTL_openParts τ) ((A_IL_length (gTL_openRows τ)) - 1)))) (fun T109 => A_TL_tellSteps_L41 ss rr n41 (turn + 1) T109))))
def K_TL_tellSteps_L41 (ss : tST) (rr : tRW) : Nat → Int32 → tTL → Nat
  | 0, _, _ => 0
  | n41 + 1, turn, τ => if 1000000 ≤ turn then 0 else (if (A_IL_length (gTL_openRows τ)) ≤ 0 then 0 else (if (A_RW_amountOfParts rr (A_IL_at (gTL_openRows τ) ((A_IL_length (gTL_openRows τ)) - 1))) ≤ (A_IL_at (gTL_openParts τ) ((A_IL_length (gTL_openRows τ)) - 1)) then ((K_TL_addStep (uTL_toldAt (uTL_openParts (uTL_openRows τ (A_IL_cut (gTL_openRows τ) ((A_IL_length (gTL_openRows τ)) - 1))) (A_IL_cut (gTL_openParts τ) ((A_IL_length (gTL_openRows τ)) - 1))) (A_IL_put (gTL_toldAt τ) (A_RW_kindOf rr (A_IL_at (gTL_openRows τ) ((A_IL_length (gTL_openRows τ)) - 1))) (A_IL_length (gTL_steps τ)))) (A_RW_statementOf rr (A_IL_at (gTL_openRows τ) ((A_IL_length (gTL_openRows τ)) - 1)))) + (bnd (A_TL_addStep (uTL_toldAt (uTL_openParts (uTL_openRows τ (A_IL_cut (gTL_openRows τ) ((A_IL_length (gTL_openRows τ)) - 1))) (A_IL_cut (gTL_openParts τ) ((A_IL_length (gTL_openRows τ)) - 1))) (A_IL_put (gTL_toldAt τ) (A_RW_kindOf rr (A_IL_at (gTL_openRows τ) ((A_IL_length (gTL_openRows τ)) - 1))) (A_IL_length (gTL_steps τ)))) (A_RW_statementOf rr (A_IL_at (gTL_openRows τ) ((A_IL_length (gTL_openRows τ)) - 1)))) (fun T82 => K_TL_tellSteps_L41 ss rr n41 (turn + 1) T82))) else ((K_TL_tellPart (uTL_openParts τ (A_IL_put (gTL_openParts τ) ((A_IL_length (gTL_openRows τ)) - 1) ((A_IL_at (gTL_openParts τ) ((A_IL_length (gTL_openRows τ)) - 1)) + 1))) ss rr (A_RW_part rr (A_IL_at (gTL_openRows τ) ((A_IL_length (gTL_openRows τ)) - 1)) (A_IL_at (gTL_openParts τ) ((A_IL_length (gTL_openRows τ)) - 1)))) + (bnd (A_TL_tellPart (uTL_openParts τ (A_IL_put (gTL_openParts τ) ((A_IL_length (gTL_openRows τ)) - 1) ((A_IL_at (gTL_openParts τ) ((A_IL_length (gTL_openRows τ)) - 1)) + 1))) ss rr (A_RW_part rr (A_IL_at (gTL_openRows τ) ((A_IL_length (gTL_openRows τ)) - 1)) (A_IL_at (gTL_openParts τ) ((A_IL_length (gTL_openRows τ)) - 1)))) (fun T109 => K_TL_tellSteps_L41 ss rr n41 (turn + 1) T109)))))
def A_TL_tellSteps (σ : tTL) (ss : tST) (rr : tRW) : tTL := bnd (A_TL_opn (uTL_openParts (uTL_openRows (uTL_toldAt σ (A_IL_fill (gTL_toldAt σ) (A_RW_amountOfKinds rr) (-1))) (A_IL_cut (gTL_openRows σ) 0)) (A_IL_cut (gTL_openParts σ) 0)) (gTL_rowTold σ)) (fun T28 => A_TL_tellSteps_L41 ss rr (M_TL_tellSteps_L41 ss rr 0 T28 + 1) 0 T28)
def K_TL_tellSteps (σ : tTL) (ss : tST) (rr : tRW) : Nat := (K_IL_fill (gTL_toldAt σ) (A_RW_amountOfKinds rr) (-1)) + ((K_TL_opn (uTL_openParts (uTL_openRows (uTL_toldAt σ (A_IL_fill (gTL_toldAt σ) (A_RW_amountOfKinds rr) (-1))) (A_IL_cut (gTL_openRows σ) 0)) (A_IL_cut (gTL_openParts σ) 0)) (gTL_rowTold σ)) + (bnd (A_TL_opn (uTL_openParts (uTL_openRows (uTL_toldAt σ (A_IL_fill (gTL_toldAt σ) (A_RW_amountOfKinds rr) (-1))) (A_IL_cut (gTL_openRows σ) 0)) (A_IL_cut (gTL_openParts σ) 0)) (gTL_rowTold σ)) (fun T28 => K_TL_tellSteps_L41 ss rr (M_TL_tellSteps_L41 ss rr 0 T28 + 1) 0 T28)))
set_option maxHeartbeats 4000000 in
set_option maxRecDepth 100000 in
theorem c_TL_tellSteps (l : Launch) (G : pG) (h0 : Nat) (bS : Nat) (bR : Nat) (ad : Nat → Nat) (adL : Nat → Nat) (σ : tTL) (H : Heap) (w : va_W) (adS : Nat → Nat) (ss : tST) (vS : va_W) (hvS : va_P G.1 vwCl vS H) (hsS : pST G bS adS ss vS) (ap_ss : bk_ap w vS) (adR : Nat → Nat) (rr : tRW) (vR : va_W) (hvR : va_P G.1 vwCl vR H) (hrR : pRW G bR adR rr vR) (ap_rr : bk_ap w vR) (hP0 : va_P G.1 vwCl w H) (hD0 : va_D (fun _ => True) w) (hσ : pTL G h0 bS bR ad adL σ w) (res : tTL) (hr0 : A_TL_tellSteps σ ss rr = res) (Kt : Nat) (hk : K_TL_tellSteps σ ss rr = Kt) (hKb : Kt ≤ 16777216) : MWv l y_TL_tellSteps w_TL_tellSteps 5 146 Kt G [.ref h0] H w (pTL G h0 bS bR ad adL res) := by
  refine Met.ofW (cc := b_TL_tellSteps) (maxL := 5) (ret := none) (by decide) rfl ?_
  intro p e s m args below meth c s₁ B hml hv
  obtain ⟨rfl, rfl, hK⟩ := hv
  have hx := B.exec
  have hb := B.bytes
  have hr := B.returns
  have hts0 := atoms_spec (ws := w_TL_tellSteps) B.pre
  have hts := fun w (h : w ∈ lw_g) => hts0 w (List.mem_cons_of_mem _ h)
  have hown : s.vm.findClass RTL = some m.cls := findClass_of_methodNamed B.named
  have hlocks := B.notSynchronized
  have hA : ∀ q : Nat, s.heap.size ≤ q → va_A w s.heap.size q := fun _ h => Or.inr h
  have hro_ss := ro_A hvS ap_ss
  have hro_rr := ro_A hvR ap_rr
  have hB : bk G.1 vwCl (va_A w s.heap.size) [w] s.heap := bk_init hP0 hD0
  generalize va_A w s.heap.size = A at *
  have hS : va_S A s.heap s.heap [] := va_S.rf
  obtain ⟨w1, w3, w5, w7, w9, w11, w13, w15, w17, w19, rfl, h2, h4, h6, h8, h10, h12, h14, h16, h18, h20⟩ := hσ
  have hB := bk_many hB
  have hk : 0 + K_TL_tellSteps σ ss rr = Kt := (Nat.zero_add _).trans hk
  have hl := lv_entry ([.ref h0]) (n := 5) (Nat.le_of_ble_eq_true rfl)
  rw [lg_entry_eq]
  generalize (lg_sl ([.ref h0]) ++ List.replicate (5 - (lg_sl ([.ref h0])).length) Slot.unset).toArray = ls at hl ⊢
  have hl : lv_has ls 5 [(0, .ref h0)] := hl
  unfold A_TL_tellSteps at hr0
  unfold K_TL_tellSteps at hk
  refine lv_aload_n hx hb d_TL_tellSteps_0 rfl (lv_at hl 0 rfl) ?_
  refine va_get (D := G.1) (ci := 4) (v := .ref (ad 6)) (C := RTL) (T := TTL) (N := 14) hx hb hts inTL hown hK hB.1 0 rfl rfl 10 (by decide) (hts _ fl_TL_52) (fun _ h9 => h9) rfl d_TL_tellSteps_1 ?_
  refine lv_aload_n hx hb d_TL_tellSteps_4 rfl (lv_at hl 0 rfl) ?_
  refine va_get (D := G.1) (ci := 4) (v := .ref bR) (C := RTL) (T := TTL) (N := 14) hx hb hts inTL hown hK hB.1 0 rfl rfl 1 (by decide) (hts _ fl_TL_15) (fun _ h9 => h9) rfl d_TL_tellSteps_5 ?_
  refine rdV (G := G) (As := []) (rest := [.ref (ad 6)]) (C := RRW) ⟨hx, hb, hml, hown, hts⟩ (c_RW_amountOfKinds l G bR adR rr _ _ (ro_keep hS hvR hro_rr) hrR _ rfl) (cwV 0 hts (gd_V ml_TL_98 im_RW_amountOfKinds sl_RW_amountOfKinds ini_RW k_RW_amountOfKinds) rfl rmK_c rmK_s (by decide +kernel) ⟨Nat.le_of_ble_eq_true rfl, Nat.le_of_ble_eq_true rfl⟩) hK (pRW_recv hK (ro_keep hS hvR hro_rr) hrR) hS ⟨Nat.le.intro hk, Nat.le.intro hk⟩ rfl hl.1 (Nat.le_of_ble_eq_true rfl) d_TL_tellSteps_8 (fun locs hS => ?_)
  refine lv_iconst (v := (-1)) hx hb d_TL_tellSteps_11 (by decide) ?_
  refine wrV (G := G) (k := 7) (As := [.int (A_RW_amountOfKinds rr), .int (-1)]) (rest := []) (C := RIL) ⟨hx, hb, hml, hown, hts⟩ (c_IL_fill l G (ad 6) (gTL_toldAt σ) (A_RW_amountOfKinds rr) (-1) _ _ (bk_gP (k := 7) hB.1 rfl) (bk_own (k := 7) hB rfl) h14 _ rfl _ rfl (bk_ub hk hKb)) (cwV 2 hts (gd_V ml_TL_103 im_IL_fill sl_IL_fill ini_IL k_IL_fill) rfl rmK_c rmK_s (by decide +kernel) ⟨Nat.le_of_ble_eq_true rfl, Nat.le_of_ble_eq_true rfl⟩) hK (pIL_recv hK (bk_gP (k := 7) hB.1 rfl) h14) hS hA hB rfl hk ⟨rfl, rfl⟩ rfl hl.1 (Nat.le_of_ble_eq_true rfl) d_TL_tellSteps_12 (fun u21 H locs kc hu22 hB hS hk => ?_)
  have hB : bk G.1 vwCl A [[(h0, .inr (4, [.ref bS, .ref bR, .ref (ad 0), .ref (ad 1), .ref (ad 2), .ref (ad 3), .int (gTL_rowTold σ), .int (gTL_savedRows σ), .ref (ad 4), .ref (ad 5), .ref (ad 6), .ref (ad 7), .ref (ad 8), .ref (ad 9)]))], w1, w3, w5, w7, w9, w11, u21, w15, w17, w19] H := hB
  refine lv_aload_n hx hb d_TL_tellSteps_15 rfl (lv_at hl 0 rfl) ?_
  refine va_get (D := G.1) (ci := 4) (v := .ref (ad 4)) (C := RTL) (T := TTL) (N := 14) hx hb hts inTL hown hK hB.1 0 rfl rfl 8 (by decide) (hts _ fl_TL_46) (fun _ h9 => h9) rfl d_TL_tellSteps_16 ?_
  refine lv_iconst (v := 0) hx hb d_TL_tellSteps_19 (by decide) ?_
  refine wrV0 (G := G) (k := 5) (As := [.int 0]) (rest := []) (C := RIL) ⟨hx, hb, hml, hown, hts⟩ (c_IL_cut l G (ad 4) (gTL_openRows σ) 0 _ _ (bk_gP (k := 5) hB.1 rfl) (bk_own (k := 5) hB rfl) h10 _ rfl) (cwV 1 hts (gd_V ml_TL_64 im_IL_cut sl_IL_cut ini_IL k_IL_cut) rfl rmK_c rmK_s (by decide +kernel) ⟨Nat.le_of_ble_eq_true rfl, Nat.le_of_ble_eq_true rfl⟩) hK (pIL_recv hK (bk_gP (k := 5) hB.1 rfl) h10) hS hA hB rfl hk ⟨rfl, rfl⟩ rfl hl.1 (Nat.le_of_ble_eq_true rfl) d_TL_tellSteps_20 (fun u23 H locs hu24 hB hS => ?_)
  have hB : bk G.1 vwCl A [[(h0, .inr (4, [.ref bS, .ref bR, .ref (ad 0), .ref (ad 1), .ref (ad 2), .ref (ad 3), .int (gTL_rowTold σ), .int (gTL_savedRows σ), .ref (ad 4), .ref (ad 5), .ref (ad 6), .ref (ad 7), .ref (ad 8), .ref (ad 9)]))], w1, w3, w5, w7, u23, w11, u21, w15, w17, w19] H := hB
  refine lv_aload_n hx hb d_TL_tellSteps_23 rfl (lv_at hl 0 rfl) ?_
  refine va_get (D := G.1) (ci := 4) (v := .ref (ad 5)) (C := RTL) (T := TTL) (N := 14) hx hb hts inTL hown hK hB.1 0 rfl rfl 9 (by decide) (hts _ fl_TL_49) (fun _ h9 => h9) rfl d_TL_tellSteps_24 ?_
  refine lv_iconst (v := 0) hx hb d_TL_tellSteps_27 (by decide) ?_
  refine wrV0 (G := G) (k := 6) (As := [.int 0]) (rest := []) (C := RIL) ⟨hx, hb, hml, hown, hts⟩ (c_IL_cut l G (ad 5) (gTL_openParts σ) 0 _ _ (bk_gP (k := 6) hB.1 rfl) (bk_own (k := 6) hB rfl) h12 _ rfl) (cwV 1 hts (gd_V ml_TL_64 im_IL_cut sl_IL_cut ini_IL k_IL_cut) rfl rmK_c rmK_s (by decide +kernel) ⟨Nat.le_of_ble_eq_true rfl, Nat.le_of_ble_eq_true rfl⟩) hK (pIL_recv hK (bk_gP (k := 6) hB.1 rfl) h12) hS hA hB rfl hk ⟨rfl, rfl⟩ rfl hl.1 (Nat.le_of_ble_eq_true rfl) d_TL_tellSteps_28 (fun u25 H locs hu26 hB hS => ?_)
  have hB : bk G.1 vwCl A [[(h0, .inr (4, [.ref bS, .ref bR, .ref (ad 0), .ref (ad 1), .ref (ad 2), .ref (ad 3), .int (gTL_rowTold σ), .int (gTL_savedRows σ), .ref (ad 4), .ref (ad 5), .ref (ad 6), .ref (ad 7), .ref (ad 8), .ref (ad 9)]))], w1, w3, w5, w7, u23, u25, u21, w15, w17, w19] H := hB
  refine lv_aload_n hx hb d_TL_tellSteps_31 rfl (lv_at hl 0 rfl) ?_
  refine lv_aload_n hx hb d_TL_tellSteps_32 rfl (lv_at hl 0 rfl) ?_
  refine va_get (D := G.1) (ci := 4) (v := .int (gTL_rowTold σ)) (C := RTL) (T := TTL) (N := 14) hx hb hts inTL hown hK hB.1 0 rfl rfl 6 (by decide) (hts _ fl_TL_39) (fun _ h9 => h9) rfl d_TL_tellSteps_33 ?_
  have hB := bk_one hB
  have hpk27 : pTL G h0 bS bR ad adL (uTL_openParts (uTL_openRows (uTL_toldAt σ (A_IL_fill (gTL_toldAt σ) (A_RW_amountOfKinds rr) (-1))) (A_IL_cut (gTL_openRows σ) 0)) (A_IL_cut (gTL_openParts σ) 0)) ([[(h0, .inr (4, [.ref bS, .ref bR, .ref (ad 0), .ref (ad 1), .ref (ad 2), .ref (ad 3), .int (gTL_rowTold σ), .int (gTL_savedRows σ), .ref (ad 4), .ref (ad 5), .ref (ad 6), .ref (ad 7), .ref (ad 8), .ref (ad 9)]))], w1, w3, w5, w7, u23, u25, u21, w15, w17, w19].flatten) := ⟨w1, w3, w5, w7, u23, u25, u21, w15, w17, w19, rfl, h2, h4, h6, h8, hu24, hu26, hu22, h16, h18, h20⟩
  obtain ⟨T28, hT29⟩ : ∃ z, A_TL_opn (uTL_openParts (uTL_openRows (uTL_toldAt σ (A_IL_fill (gTL_toldAt σ) (A_RW_amountOfKinds rr) (-1))) (A_IL_cut (gTL_openRows σ) 0)) (A_IL_cut (gTL_openParts σ) 0)) (gTL_rowTold σ) = z := ⟨_, rfl⟩
  refine wrV (G := G) (k := 0) (As := [.int (gTL_rowTold σ)]) (rest := []) (C := RTL) ⟨hx, hb, hml, hown, hts⟩ (c_TL_opn l G h0 bS bR ad adL (uTL_openParts (uTL_openRows (uTL_toldAt σ (A_IL_fill (gTL_toldAt σ) (A_RW_amountOfKinds rr) (-1))) (A_IL_cut (gTL_openRows σ) 0)) (A_IL_cut (gTL_openParts σ) 0)) (gTL_rowTold σ) _ _ (bk_gP (k := 0) hB.1 rfl) (bk_own (k := 0) hB rfl) hpk27 T28 hT29 _ rfl (bk_ub hk hKb)) (cwV 1 hts (gd_V ml_TL_107 im_TL_opn sl_TL_opn ini_TL k_TL_opn) rfl rmK_c rmK_s (by decide +kernel) ⟨Nat.le_of_ble_eq_true rfl, Nat.le_of_ble_eq_true rfl⟩) hK (pTL_recv hK (bk_gP (k := 0) hB.1 rfl) hpk27) hS hA hB rfl hk ⟨rfl, rfl⟩ rfl hl.1 (Nat.le_of_ble_eq_true rfl) d_TL_tellSteps_36 (fun u30 H locs kc hu31 hB hS hk => ?_)
  have hr0 := bnd_e hT29 hr0
  have hk := bnd_k hT29 hk
  have hB : bk G.1 vwCl A [u30] H := hB
  obtain ⟨w32, w34, w36, w38, w40, w42, w44, w46, w48, w50, rfl, h33, h35, h37, h39, h41, h43, h45, h47, h49, h51⟩ := hu31
  have hB : bk G.1 vwCl A [[(h0, .inr (4, [.ref bS, .ref bR, .ref (ad 0), .ref (ad 1), .ref (ad 2), .ref (ad 3), .int (gTL_rowTold T28), .int (gTL_savedRows T28), .ref (ad 4), .ref (ad 5), .ref (ad 6), .ref (ad 7), .ref (ad 8), .ref (ad 9)]))], w32, w34, w36, w38, w40, w42, w44, w46, w48, w50] H := bk_many hB
  refine lv_iconst (v := 0) hx hb d_TL_tellSteps_39 (by decide) ?_
  refine lv_istore_n (lv' := [(1, .int 0), (0, .ref h0)]) hx hb d_TL_tellSteps_40 rfl hl (by decide) rfl (fun ls hl => ?_)
  refine lp_W (I := fun n41 H locs kc ls => ∃ (turn : Int32) (τ : tTL) (w : va_W), pTL G h0 bS bR ad adL τ w ∧ bk G.1 vwCl A [w] H ∧ va_S A s.heap H locs ∧ lv_has ls 5 [(0, .ref h0), (1, .int turn)] ∧ A_TL_tellSteps_L41 ss rr n41 turn τ = res ∧ kc + K_TL_tellSteps_L41 ss rr n41 turn τ = Kt ∧ M_TL_tellSteps_L41 ss rr turn τ < n41) ?_ ?_ (M_TL_tellSteps_L41 ss rr 0 T28 + 1) _ _ _ _ ⟨0, T28, _, ⟨w32, w34, w36, w38, w40, w42, w44, w46, w48, w50, rfl, h33, h35, h37, h39, h41, h43, h45, h47, h49, h51⟩, bk_one hB, hS, lv_sub hl [1, 0] rfl, hr0, hk, Nat.lt_succ_self _⟩
  · intro n41 ih41 H locs kc ls ⟨turn, τ, w, hτ, hB, hS, hl, hr0, hk, hm41⟩
    obtain ⟨w52, w54, w56, w58, w60, w62, w64, w66, w68, w70, rfl, h53, h55, h57, h59, h61, h63, h65, h67, h69, h71⟩ := hτ
    have hB := bk_many hB
    rw [A_TL_tellSteps_L41] at hr0
    rw [K_TL_tellSteps_L41] at hk
    refine lv_iload_n hx hb d_TL_tellSteps_41 rfl (lv_at hl 1 rfl) ?_
    refine lv_ldc (v := 1000000) hx hb hown (hts _ cn_TL_110) d_TL_tellSteps_42 ?_
    refine lv_icmp_ge (tgt := 184) hx hb d_TL_tellSteps_44 (by decide) (fun c72 => ?_) (fun c72 => ?_)
    · have hr0 := ai_pos c72 hr0
      have hk := ki_pos c72 hk
      subst hr0
      refine W.widen (k := Kt) (n := Kt) (Nat.le.intro hk) (Nat.le.intro hk) ?_
      exact W.vret hx hb hr (fun t ht hW => ⟨⟨[[(h0, .inr (4, [.ref bS, .ref bR, .ref (ad 0), .ref (ad 1), .ref (ad 2), .ref (ad 3), .int (gTL_rowTold τ), .int (gTL_savedRows τ), .ref (ad 4), .ref (ad 5), .ref (ad 6), .ref (ad 7), .ref (ad 8), .ref (ad 9)]))], w52, w54, w56, w58, w60, w62, w64, w66, w68, w70].flatten, rfl, ⟨w52, w54, w56, w58, w60, w62, w64, w66, w68, w70, rfl, h53, h55, h57, h59, h61, h63, h65, h67, h69, h71⟩, by rw [ht]; exact hB.1, hB.2⟩, hS.F ht⟩) hS.2.2 d_TL_tellSteps_184
    · have hr0 := ai_neg c72 hr0
      have hk := ki_neg c72 hk
      refine lv_aload_n hx hb d_TL_tellSteps_47 rfl (lv_at hl 0 rfl) ?_
      refine va_get (D := G.1) (ci := 4) (v := .ref (ad 4)) (C := RTL) (T := TTL) (N := 14) hx hb hts inTL hown hK hB.1 0 rfl rfl 8 (by decide) (hts _ fl_TL_46) (fun _ h9 => h9) rfl d_TL_tellSteps_48 ?_
      refine rdV (G := G) (As := []) (rest := []) (C := RIL) ⟨hx, hb, hml, hown, hts⟩ (c_IL_length l G (ad 4) (gTL_openRows τ) _ _ (bk_gP (k := 5) hB.1 rfl) h61 _ rfl) (cwV 0 hts (gd_V ml_TL_71 im_IL_length sl_IL_length ini_IL k_IL_length) rfl rmK_c rmK_s (by decide +kernel) ⟨Nat.le_of_ble_eq_true rfl, Nat.le_of_ble_eq_true rfl⟩) hK (pIL_recv hK (bk_gP (k := 5) hB.1 rfl) h61) hS ⟨Nat.le.intro hk, Nat.le.intro hk⟩ rfl hl.1 (Nat.le_of_ble_eq_true rfl) d_TL_tellSteps_51 (fun locs hS => ?_)
      refine lv_if_le (tgt := 184) hx hb d_TL_tellSteps_54 (by decide) (fun c73 => ?_) (fun c73 => ?_)
      · have hr0 := ai_pos c73 hr0
        have hk := ki_pos c73 hk
        subst hr0
        refine W.widen (k := Kt) (n := Kt) (Nat.le.intro hk) (Nat.le.intro hk) ?_
        exact W.vret hx hb hr (fun t ht hW => ⟨⟨[[(h0, .inr (4, [.ref bS, .ref bR, .ref (ad 0), .ref (ad 1), .ref (ad 2), .ref (ad 3), .int (gTL_rowTold τ), .int (gTL_savedRows τ), .ref (ad 4), .ref (ad 5), .ref (ad 6), .ref (ad 7), .ref (ad 8), .ref (ad 9)]))], w52, w54, w56, w58, w60, w62, w64, w66, w68, w70].flatten, rfl, ⟨w52, w54, w56, w58, w60, w62, w64, w66, w68, w70, rfl, h53, h55, h57, h59, h61, h63, h65, h67, h69, h71⟩, by rw [ht]; exact hB.1, hB.2⟩, hS.F ht⟩) hS.2.2 d_TL_tellSteps_184
      · have hr0 := ai_neg c73 hr0
        have hk := ki_neg c73 hk
        refine lv_aload_n hx hb d_TL_tellSteps_57 rfl (lv_at hl 0 rfl) ?_
        refine va_get (D := G.1) (ci := 4) (v := .ref (ad 4)) (C := RTL) (T := TTL) (N := 14) hx hb hts inTL hown hK hB.1 0 rfl rfl 8 (by decide) (hts _ fl_TL_46) (fun _ h9 => h9) rfl d_TL_tellSteps_58 ?_
        refine rdV (G := G) (As := []) (rest := []) (C := RIL) ⟨hx, hb, hml, hown, hts⟩ (c_IL_length l G (ad 4) (gTL_openRows τ) _ _ (bk_gP (k := 5) hB.1 rfl) h61 _ rfl) (cwV 0 hts (gd_V ml_TL_71 im_IL_length sl_IL_length ini_IL k_IL_length) rfl rmK_c rmK_s (by decide +kernel) ⟨Nat.le_of_ble_eq_true rfl, Nat.le_of_ble_eq_true rfl⟩) hK (pIL_recv hK (bk_gP (k := 5) hB.1 rfl) h61) hS ⟨Nat.le.intro hk, Nat.le.intro hk⟩ rfl hl.1 (Nat.le_of_ble_eq_true rfl) d_TL_tellSteps_61 (fun locs hS => ?_)
        refine lv_iconst (v := 1) hx hb d_TL_tellSteps_64 (by decide) ?_
        refine lv_isub hx hb d_TL_tellSteps_65 ?_
        refine lv_istore_n (lv' := [(2, .int ((A_IL_length (gTL_openRows τ)) - 1)), (0, .ref h0), (1, .int turn)]) hx hb d_TL_tellSteps_66 rfl hl (by decide) rfl (fun ls hl => ?_)
        refine lv_aload_n hx hb d_TL_tellSteps_67 rfl (lv_at hl 1 rfl) ?_
        refine va_get (D := G.1) (ci := 4) (v := .ref (ad 4)) (C := RTL) (T := TTL) (N := 14) hx hb hts inTL hown hK hB.1 0 rfl rfl 8 (by decide) (hts _ fl_TL_46) (fun _ h9 => h9) rfl d_TL_tellSteps_68 ?_
        refine lv_iload_n hx hb d_TL_tellSteps_71 rfl (lv_at hl 0 rfl) ?_
        refine rdV (G := G) (As := [.int ((A_IL_length (gTL_openRows τ)) - 1)]) (rest := []) (C := RIL) ⟨hx, hb, hml, hown, hts⟩ (c_IL_at l G (ad 4) (gTL_openRows τ) ((A_IL_length (gTL_openRows τ)) - 1) _ _ (bk_gP (k := 5) hB.1 rfl) h61 _ rfl) (cwV 1 hts (gd_V ml_TL_78 im_IL_at sl_IL_at ini_IL k_IL_at) rfl rmK_c rmK_s (by decide +kernel) ⟨Nat.le_of_ble_eq_true rfl, Nat.le_of_ble_eq_true rfl⟩) hK (pIL_recv hK (bk_gP (k := 5) hB.1 rfl) h61) hS ⟨Nat.le.intro hk, Nat.le.intro hk⟩ rfl hl.1 (Nat.le_of_ble_eq_true rfl) d_TL_tellSteps_72 (fun locs hS => ?_)
        refine lv_istore_n (lv' := [(3, .int (A_IL_at (gTL_openRows τ) ((A_IL_length (gTL_openRows τ)) - 1))), (2, .int ((A_IL_length (gTL_openRows τ)) - 1)), (0, .ref h0), (1, .int turn)]) hx hb d_TL_tellSteps_75 rfl hl (by decide) rfl (fun ls hl => ?_)
        refine lv_aload_n hx hb d_TL_tellSteps_76 rfl (lv_at hl 2 rfl) ?_
        refine va_get (D := G.1) (ci := 4) (v := .ref (ad 5)) (C := RTL) (T := TTL) (N := 14) hx hb hts inTL hown hK hB.1 0 rfl rfl 9 (by decide) (hts _ fl_TL_49) (fun _ h9 => h9) rfl d_TL_tellSteps_77 ?_
        refine lv_iload_n hx hb d_TL_tellSteps_80 rfl (lv_at hl 1 rfl) ?_
        refine rdV (G := G) (As := [.int ((A_IL_length (gTL_openRows τ)) - 1)]) (rest := []) (C := RIL) ⟨hx, hb, hml, hown, hts⟩ (c_IL_at l G (ad 5) (gTL_openParts τ) ((A_IL_length (gTL_openRows τ)) - 1) _ _ (bk_gP (k := 6) hB.1 rfl) h63 _ rfl) (cwV 1 hts (gd_V ml_TL_78 im_IL_at sl_IL_at ini_IL k_IL_at) rfl rmK_c rmK_s (by decide +kernel) ⟨Nat.le_of_ble_eq_true rfl, Nat.le_of_ble_eq_true rfl⟩) hK (pIL_recv hK (bk_gP (k := 6) hB.1 rfl) h63) hS ⟨Nat.le.intro hk, Nat.le.intro hk⟩ rfl hl.1 (Nat.le_of_ble_eq_true rfl) d_TL_tellSteps_81 (fun locs hS => ?_)
        refine lv_istore (lv' := [(4, .int (A_IL_at (gTL_openParts τ) ((A_IL_length (gTL_openRows τ)) - 1))), (3, .int (A_IL_at (gTL_openRows τ) ((A_IL_length (gTL_openRows τ)) - 1))), (2, .int ((A_IL_length (gTL_openRows τ)) - 1)), (0, .ref h0), (1, .int turn)]) hx hb d_TL_tellSteps_84 hl (by decide) rfl (fun ls hl => ?_)
        refine lv_iload hx hb d_TL_tellSteps_86 (lv_at hl 0 rfl) ?_
        refine lv_aload_n hx hb d_TL_tellSteps_88 rfl (lv_at hl 3 rfl) ?_
        refine va_get (D := G.1) (ci := 4) (v := .ref bR) (C := RTL) (T := TTL) (N := 14) hx hb hts inTL hown hK hB.1 0 rfl rfl 1 (by decide) (hts _ fl_TL_15) (fun _ h9 => h9) rfl d_TL_tellSteps_89 ?_
        refine lv_iload_n hx hb d_TL_tellSteps_92 rfl (lv_at hl 1 rfl) ?_
        refine rdV (G := G) (As := [.int (A_IL_at (gTL_openRows τ) ((A_IL_length (gTL_openRows τ)) - 1))]) (rest := [.int (A_IL_at (gTL_openParts τ) ((A_IL_length (gTL_openRows τ)) - 1))]) (C := RRW) ⟨hx, hb, hml, hown, hts⟩ (c_RW_amountOfParts l G bR adR rr (A_IL_at (gTL_openRows τ) ((A_IL_length (gTL_openRows τ)) - 1)) _ _ (ro_keep hS hvR hro_rr) hrR _ rfl) (cwV 1 hts (gd_V ml_TL_111 im_RW_amountOfParts sl_RW_amountOfParts ini_RW k_RW_amountOfParts) rfl rmK_c rmK_s (by decide +kernel) ⟨Nat.le_of_ble_eq_true rfl, Nat.le_of_ble_eq_true rfl⟩) hK (pRW_recv hK (ro_keep hS hvR hro_rr) hrR) hS ⟨Nat.le.intro hk, Nat.le.intro hk⟩ rfl hl.1 (Nat.le_of_ble_eq_true rfl) d_TL_tellSteps_93 (fun locs hS => ?_)
        refine lv_icmp_ge (tgt := 128) hx hb d_TL_tellSteps_96 (by decide) (fun c74 => ?_) (fun c74 => ?_)
        · have hr0 := ai_pos c74 hr0
          have hk := ki_pos c74 hk
          refine lv_aload_n hx hb d_TL_tellSteps_128 rfl (lv_at hl 3 rfl) ?_
          refine va_get (D := G.1) (ci := 4) (v := .ref (ad 4)) (C := RTL) (T := TTL) (N := 14) hx hb hts inTL hown hK hB.1 0 rfl rfl 8 (by decide) (hts _ fl_TL_46) (fun _ h9 => h9) rfl d_TL_tellSteps_129 ?_
          refine lv_iload_n hx hb d_TL_tellSteps_132 rfl (lv_at hl 2 rfl) ?_
          refine wrV0 (G := G) (k := 5) (As := [.int ((A_IL_length (gTL_openRows τ)) - 1)]) (rest := []) (C := RIL) ⟨hx, hb, hml, hown, hts⟩ (c_IL_cut l G (ad 4) (gTL_openRows τ) ((A_IL_length (gTL_openRows τ)) - 1) _ _ (bk_gP (k := 5) hB.1 rfl) (bk_own (k := 5) hB rfl) h61 _ rfl) (cwV 1 hts (gd_V ml_TL_64 im_IL_cut sl_IL_cut ini_IL k_IL_cut) rfl rmK_c rmK_s (by decide +kernel) ⟨Nat.le_of_ble_eq_true rfl, Nat.le_of_ble_eq_true rfl⟩) hK (pIL_recv hK (bk_gP (k := 5) hB.1 rfl) h61) hS hA hB rfl hk ⟨rfl, rfl⟩ rfl hl.1 (Nat.le_of_ble_eq_true rfl) d_TL_tellSteps_133 (fun u75 H locs hu76 hB hS => ?_)
          have hB : bk G.1 vwCl A [[(h0, .inr (4, [.ref bS, .ref bR, .ref (ad 0), .ref (ad 1), .ref (ad 2), .ref (ad 3), .int (gTL_rowTold τ), .int (gTL_savedRows τ), .ref (ad 4), .ref (ad 5), .ref (ad 6), .ref (ad 7), .ref (ad 8), .ref (ad 9)]))], w52, w54, w56, w58, u75, w62, w64, w66, w68, w70] H := hB
          refine lv_aload_n hx hb d_TL_tellSteps_136 rfl (lv_at hl 3 rfl) ?_
          refine va_get (D := G.1) (ci := 4) (v := .ref (ad 5)) (C := RTL) (T := TTL) (N := 14) hx hb hts inTL hown hK hB.1 0 rfl rfl 9 (by decide) (hts _ fl_TL_49) (fun _ h9 => h9) rfl d_TL_tellSteps_137 ?_
          refine lv_iload_n hx hb d_TL_tellSteps_140 rfl (lv_at hl 2 rfl) ?_
          refine wrV0 (G := G) (k := 6) (As := [.int ((A_IL_length (gTL_openRows τ)) - 1)]) (rest := []) (C := RIL) ⟨hx, hb, hml, hown, hts⟩ (c_IL_cut l G (ad 5) (gTL_openParts τ) ((A_IL_length (gTL_openRows τ)) - 1) _ _ (bk_gP (k := 6) hB.1 rfl) (bk_own (k := 6) hB rfl) h63 _ rfl) (cwV 1 hts (gd_V ml_TL_64 im_IL_cut sl_IL_cut ini_IL k_IL_cut) rfl rmK_c rmK_s (by decide +kernel) ⟨Nat.le_of_ble_eq_true rfl, Nat.le_of_ble_eq_true rfl⟩) hK (pIL_recv hK (bk_gP (k := 6) hB.1 rfl) h63) hS hA hB rfl hk ⟨rfl, rfl⟩ rfl hl.1 (Nat.le_of_ble_eq_true rfl) d_TL_tellSteps_141 (fun u77 H locs hu78 hB hS => ?_)
          have hB : bk G.1 vwCl A [[(h0, .inr (4, [.ref bS, .ref bR, .ref (ad 0), .ref (ad 1), .ref (ad 2), .ref (ad 3), .int (gTL_rowTold τ), .int (gTL_savedRows τ), .ref (ad 4), .ref (ad 5), .ref (ad 6), .ref (ad 7), .ref (ad 8), .ref (ad 9)]))], w52, w54, w56, w58, u75, u77, w64, w66, w68, w70] H := hB
          refine lv_aload_n hx hb d_TL_tellSteps_144 rfl (lv_at hl 3 rfl) ?_
          refine va_get (D := G.1) (ci := 4) (v := .ref (ad 6)) (C := RTL) (T := TTL) (N := 14) hx hb hts inTL hown hK hB.1 0 rfl rfl 10 (by decide) (hts _ fl_TL_52) (fun _ h9 => h9) rfl d_TL_tellSteps_145 ?_
          refine lv_aload_n hx hb d_TL_tellSteps_148 rfl (lv_at hl 3 rfl) ?_
          refine va_get (D := G.1) (ci := 4) (v := .ref bR) (C := RTL) (T := TTL) (N := 14) hx hb hts inTL hown hK hB.1 0 rfl rfl 1 (by decide) (hts _ fl_TL_15) (fun _ h9 => h9) rfl d_TL_tellSteps_149 ?_
          refine lv_iload_n hx hb d_TL_tellSteps_152 rfl (lv_at hl 1 rfl) ?_
          refine rdV (G := G) (As := [.int (A_IL_at (gTL_openRows τ) ((A_IL_length (gTL_openRows τ)) - 1))]) (rest := [.ref (ad 6)]) (C := RRW) ⟨hx, hb, hml, hown, hts⟩ (c_RW_kindOf l G bR adR rr (A_IL_at (gTL_openRows τ) ((A_IL_length (gTL_openRows τ)) - 1)) _ _ (ro_keep hS hvR hro_rr) hrR _ rfl) (cwV 1 hts (gd_V ml_TL_124 im_RW_kindOf sl_RW_kindOf ini_RW k_RW_kindOf) rfl rmK_c rmK_s (by decide +kernel) ⟨Nat.le_of_ble_eq_true rfl, Nat.le_of_ble_eq_true rfl⟩) hK (pRW_recv hK (ro_keep hS hvR hro_rr) hrR) hS ⟨Nat.le.intro hk, Nat.le.intro hk⟩ rfl hl.1 (Nat.le_of_ble_eq_true rfl) d_TL_tellSteps_153 (fun locs hS => ?_)
          refine lv_aload_n hx hb d_TL_tellSteps_156 rfl (lv_at hl 3 rfl) ?_
          refine va_get (D := G.1) (ci := 4) (v := .ref (ad 0)) (C := RTL) (T := TTL) (N := 14) hx hb hts inTL hown hK hB.1 0 rfl rfl 2 (by decide) (hts _ fl_TL_22) (fun _ h9 => h9) rfl d_TL_tellSteps_157 ?_
          refine rdV (G := G) (As := []) (rest := [.int (A_RW_kindOf rr (A_IL_at (gTL_openRows τ) ((A_IL_length (gTL_openRows τ)) - 1))), .ref (ad 6)]) (C := RIL) ⟨hx, hb, hml, hown, hts⟩ (c_IL_length l G (ad 0) (gTL_steps τ) _ _ (bk_gP (k := 1) hB.1 rfl) h53 _ rfl) (cwV 0 hts (gd_V ml_TL_71 im_IL_length sl_IL_length ini_IL k_IL_length) rfl rmK_c rmK_s (by decide +kernel) ⟨Nat.le_of_ble_eq_true rfl, Nat.le_of_ble_eq_true rfl⟩) hK (pIL_recv hK (bk_gP (k := 1) hB.1 rfl) h53) hS ⟨Nat.le.intro hk, Nat.le.intro hk⟩ rfl hl.1 (Nat.le_of_ble_eq_true rfl) d_TL_tellSteps_160 (fun locs hS => ?_)
          refine wrV0 (G := G) (k := 7) (As := [.int (A_RW_kindOf rr (A_IL_at (gTL_openRows τ) ((A_IL_length (gTL_openRows τ)) - 1))), .int (A_IL_length (gTL_steps τ))]) (rest := []) (C := RIL) ⟨hx, hb, hml, hown, hts⟩ (c_IL_put l G (ad 6) (gTL_toldAt τ) (A_RW_kindOf rr (A_IL_at (gTL_openRows τ) ((A_IL_length (gTL_openRows τ)) - 1))) (A_IL_length (gTL_steps τ)) _ _ (bk_gP (k := 7) hB.1 rfl) (bk_own (k := 7) hB rfl) h65 _ rfl) (cwV 2 hts (gd_V ml_TL_114 im_IL_put sl_IL_put ini_IL k_IL_put) rfl rmK_c rmK_s (by decide +kernel) ⟨Nat.le_of_ble_eq_true rfl, Nat.le_of_ble_eq_true rfl⟩) hK (pIL_recv hK (bk_gP (k := 7) hB.1 rfl) h65) hS hA hB rfl hk ⟨rfl, rfl⟩ rfl hl.1 (Nat.le_of_ble_eq_true rfl) d_TL_tellSteps_163 (fun u79 H locs hu80 hB hS => ?_)
          have hB : bk G.1 vwCl A [[(h0, .inr (4, [.ref bS, .ref bR, .ref (ad 0), .ref (ad 1), .ref (ad 2), .ref (ad 3), .int (gTL_rowTold τ), .int (gTL_savedRows τ), .ref (ad 4), .ref (ad 5), .ref (ad 6), .ref (ad 7), .ref (ad 8), .ref (ad 9)]))], w52, w54, w56, w58, u75, u77, u79, w66, w68, w70] H := hB
          refine lv_aload_n hx hb d_TL_tellSteps_166 rfl (lv_at hl 3 rfl) ?_
          refine lv_aload_n hx hb d_TL_tellSteps_167 rfl (lv_at hl 3 rfl) ?_
          refine va_get (D := G.1) (ci := 4) (v := .ref bR) (C := RTL) (T := TTL) (N := 14) hx hb hts inTL hown hK hB.1 0 rfl rfl 1 (by decide) (hts _ fl_TL_15) (fun _ h9 => h9) rfl d_TL_tellSteps_168 ?_
          refine lv_iload_n hx hb d_TL_tellSteps_171 rfl (lv_at hl 1 rfl) ?_
          refine rdV (G := G) (As := [.int (A_IL_at (gTL_openRows τ) ((A_IL_length (gTL_openRows τ)) - 1))]) (rest := [.ref h0]) (C := RRW) ⟨hx, hb, hml, hown, hts⟩ (c_RW_statementOf l G bR adR rr (A_IL_at (gTL_openRows τ) ((A_IL_length (gTL_openRows τ)) - 1)) _ _ (ro_keep hS hvR hro_rr) hrR _ rfl) (cwV 1 hts (gd_V ml_TL_127 im_RW_statementOf sl_RW_statementOf ini_RW k_RW_statementOf) rfl rmK_c rmK_s (by decide +kernel) ⟨Nat.le_of_ble_eq_true rfl, Nat.le_of_ble_eq_true rfl⟩) hK (pRW_recv hK (ro_keep hS hvR hro_rr) hrR) hS ⟨Nat.le.intro hk, Nat.le.intro hk⟩ rfl hl.1 (Nat.le_of_ble_eq_true rfl) d_TL_tellSteps_172 (fun locs hS => ?_)
          have hB := bk_one hB
          have hpk81 : pTL G h0 bS bR ad adL (uTL_toldAt (uTL_openParts (uTL_openRows τ (A_IL_cut (gTL_openRows τ) ((A_IL_length (gTL_openRows τ)) - 1))) (A_IL_cut (gTL_openParts τ) ((A_IL_length (gTL_openRows τ)) - 1))) (A_IL_put (gTL_toldAt τ) (A_RW_kindOf rr (A_IL_at (gTL_openRows τ) ((A_IL_length (gTL_openRows τ)) - 1))) (A_IL_length (gTL_steps τ)))) ([[(h0, .inr (4, [.ref bS, .ref bR, .ref (ad 0), .ref (ad 1), .ref (ad 2), .ref (ad 3), .int (gTL_rowTold τ), .int (gTL_savedRows τ), .ref (ad 4), .ref (ad 5), .ref (ad 6), .ref (ad 7), .ref (ad 8), .ref (ad 9)]))], w52, w54, w56, w58, u75, u77, u79, w66, w68, w70].flatten) := ⟨w52, w54, w56, w58, u75, u77, u79, w66, w68, w70, rfl, h53, h55, h57, h59, hu76, hu78, hu80, h67, h69, h71⟩
          obtain ⟨T82, hT83⟩ : ∃ z, A_TL_addStep (uTL_toldAt (uTL_openParts (uTL_openRows τ (A_IL_cut (gTL_openRows τ) ((A_IL_length (gTL_openRows τ)) - 1))) (A_IL_cut (gTL_openParts τ) ((A_IL_length (gTL_openRows τ)) - 1))) (A_IL_put (gTL_toldAt τ) (A_RW_kindOf rr (A_IL_at (gTL_openRows τ) ((A_IL_length (gTL_openRows τ)) - 1))) (A_IL_length (gTL_steps τ)))) (A_RW_statementOf rr (A_IL_at (gTL_openRows τ) ((A_IL_length (gTL_openRows τ)) - 1))) = z := ⟨_, rfl⟩
          refine wrV (G := G) (k := 0) (As := [.int (A_RW_statementOf rr (A_IL_at (gTL_openRows τ) ((A_IL_length (gTL_openRows τ)) - 1)))]) (rest := []) (C := RTL) ⟨hx, hb, hml, hown, hts⟩ (c_TL_addStep l G h0 bS bR ad adL (uTL_toldAt (uTL_openParts (uTL_openRows τ (A_IL_cut (gTL_openRows τ) ((A_IL_length (gTL_openRows τ)) - 1))) (A_IL_cut (gTL_openParts τ) ((A_IL_length (gTL_openRows τ)) - 1))) (A_IL_put (gTL_toldAt τ) (A_RW_kindOf rr (A_IL_at (gTL_openRows τ) ((A_IL_length (gTL_openRows τ)) - 1))) (A_IL_length (gTL_steps τ)))) (A_RW_statementOf rr (A_IL_at (gTL_openRows τ) ((A_IL_length (gTL_openRows τ)) - 1))) _ _ (bk_gP (k := 0) hB.1 rfl) (bk_own (k := 0) hB rfl) hpk81 T82 hT83 _ rfl (bk_ub hk hKb)) (cwV 1 hts (gd_V ml_TL_130 im_TL_addStep sl_TL_addStep ini_TL k_TL_addStep) rfl rmK_c rmK_s (by decide +kernel) ⟨Nat.le_of_ble_eq_true rfl, Nat.le_of_ble_eq_true rfl⟩) hK (pTL_recv hK (bk_gP (k := 0) hB.1 rfl) hpk81) hS hA hB rfl hk ⟨rfl, rfl⟩ rfl hl.1 (Nat.le_of_ble_eq_true rfl) d_TL_tellSteps_175 (fun u84 H locs kc hu85 hB hS hk => ?_)
          have hr0 := bnd_e hT83 hr0
          have hk := bnd_k hT83 hk
          have hB : bk G.1 vwCl A [u84] H := hB
          obtain ⟨w86, w88, w90, w92, w94, w96, w98, w100, w102, w104, rfl, h87, h89, h91, h93, h95, h97, h99, h101, h103, h105⟩ := hu85
          have hB : bk G.1 vwCl A [[(h0, .inr (4, [.ref bS, .ref bR, .ref (ad 0), .ref (ad 1), .ref (ad 2), .ref (ad 3), .int (gTL_rowTold T82), .int (gTL_savedRows T82), .ref (ad 4), .ref (ad 5), .ref (ad 6), .ref (ad 7), .ref (ad 8), .ref (ad 9)]))], w86, w88, w90, w92, w94, w96, w98, w100, w102, w104] H := bk_many hB
          refine lv_iinc (v := turn + 1) (lv' := [(1, .int (turn + 1)), (4, .int (A_IL_at (gTL_openParts τ) ((A_IL_length (gTL_openRows τ)) - 1))), (3, .int (A_IL_at (gTL_openRows τ) ((A_IL_length (gTL_openRows τ)) - 1))), (2, .int ((A_IL_length (gTL_openRows τ)) - 1)), (0, .ref h0)]) hx hb d_TL_tellSteps_178 hl (k := 4) rfl rfl (by decide) rfl (fun ls hl => ?_)
          refine lv_goto (tgt := 41) hx hb d_TL_tellSteps_181 (by decide) ?_
          exact ih41 _ _ _ _ ⟨(turn + 1), T82, _, ⟨w86, w88, w90, w92, w94, w96, w98, w100, w102, w104, rfl, h87, h89, h91, h93, h95, h97, h99, h101, h103, h105⟩, bk_one hB, hS, lv_sub hl [4, 0] rfl, hr0, hk, up_dec c72 hm41⟩
        · have hr0 := ai_neg c74 hr0
          have hk := ki_neg c74 hk
          refine lv_aload_n hx hb d_TL_tellSteps_99 rfl (lv_at hl 3 rfl) ?_
          refine va_get (D := G.1) (ci := 4) (v := .ref (ad 5)) (C := RTL) (T := TTL) (N := 14) hx hb hts inTL hown hK hB.1 0 rfl rfl 9 (by decide) (hts _ fl_TL_49) (fun _ h9 => h9) rfl d_TL_tellSteps_100 ?_
          refine lv_iload_n hx hb d_TL_tellSteps_103 rfl (lv_at hl 2 rfl) ?_
          refine lv_iload hx hb d_TL_tellSteps_104 (lv_at hl 0 rfl) ?_
          refine lv_iconst (v := 1) hx hb d_TL_tellSteps_106 (by decide) ?_
          refine lv_iadd hx hb d_TL_tellSteps_107 ?_
          refine wrV0 (G := G) (k := 6) (As := [.int ((A_IL_length (gTL_openRows τ)) - 1), .int ((A_IL_at (gTL_openParts τ) ((A_IL_length (gTL_openRows τ)) - 1)) + 1)]) (rest := []) (C := RIL) ⟨hx, hb, hml, hown, hts⟩ (c_IL_put l G (ad 5) (gTL_openParts τ) ((A_IL_length (gTL_openRows τ)) - 1) ((A_IL_at (gTL_openParts τ) ((A_IL_length (gTL_openRows τ)) - 1)) + 1) _ _ (bk_gP (k := 6) hB.1 rfl) (bk_own (k := 6) hB rfl) h63 _ rfl) (cwV 2 hts (gd_V ml_TL_114 im_IL_put sl_IL_put ini_IL k_IL_put) rfl rmK_c rmK_s (by decide +kernel) ⟨Nat.le_of_ble_eq_true rfl, Nat.le_of_ble_eq_true rfl⟩) hK (pIL_recv hK (bk_gP (k := 6) hB.1 rfl) h63) hS hA hB rfl hk ⟨rfl, rfl⟩ rfl hl.1 (Nat.le_of_ble_eq_true rfl) d_TL_tellSteps_108 (fun u106 H locs hu107 hB hS => ?_)
          have hB : bk G.1 vwCl A [[(h0, .inr (4, [.ref bS, .ref bR, .ref (ad 0), .ref (ad 1), .ref (ad 2), .ref (ad 3), .int (gTL_rowTold τ), .int (gTL_savedRows τ), .ref (ad 4), .ref (ad 5), .ref (ad 6), .ref (ad 7), .ref (ad 8), .ref (ad 9)]))], w52, w54, w56, w58, w60, u106, w64, w66, w68, w70] H := hB
          refine lv_aload_n hx hb d_TL_tellSteps_111 rfl (lv_at hl 3 rfl) ?_
          refine lv_aload_n hx hb d_TL_tellSteps_112 rfl (lv_at hl 3 rfl) ?_
          refine va_get (D := G.1) (ci := 4) (v := .ref bR) (C := RTL) (T := TTL) (N := 14) hx hb hts inTL hown hK hB.1 0 rfl rfl 1 (by decide) (hts _ fl_TL_15) (fun _ h9 => h9) rfl d_TL_tellSteps_113 ?_
          refine lv_iload_n hx hb d_TL_tellSteps_116 rfl (lv_at hl 1 rfl) ?_
          refine lv_iload hx hb d_TL_tellSteps_117 (lv_at hl 0 rfl) ?_
          refine rdV (G := G) (As := [.int (A_IL_at (gTL_openRows τ) ((A_IL_length (gTL_openRows τ)) - 1)), .int (A_IL_at (gTL_openParts τ) ((A_IL_length (gTL_openRows τ)) - 1))]) (rest := [.ref h0]) (C := RRW) ⟨hx, hb, hml, hown, hts⟩ (c_RW_part l G bR adR rr (A_IL_at (gTL_openRows τ) ((A_IL_length (gTL_openRows τ)) - 1)) (A_IL_at (gTL_openParts τ) ((A_IL_length (gTL_openRows τ)) - 1)) _ _ (ro_keep hS hvR hro_rr) hrR _ rfl) (cwV 2 hts (gd_V ml_TL_117 im_RW_part sl_RW_part ini_RW k_RW_part) rfl rmK_c rmK_s (by decide +kernel) ⟨Nat.le_of_ble_eq_true rfl, Nat.le_of_ble_eq_true rfl⟩) hK (pRW_recv hK (ro_keep hS hvR hro_rr) hrR) hS ⟨Nat.le.intro hk, Nat.le.intro hk⟩ rfl hl.1 (Nat.le_of_ble_eq_true rfl) d_TL_tellSteps_119 (fun locs hS => ?_)
          have hB := bk_one hB
          have hpk108 : pTL G h0 bS bR ad adL (uTL_openParts τ (A_IL_put (gTL_openParts τ) ((A_IL_length (gTL_openRows τ)) - 1) ((A_IL_at (gTL_openParts τ) ((A_IL_length (gTL_openRows τ)) - 1)) + 1))) ([[(h0, .inr (4, [.ref bS, .ref bR, .ref (ad 0), .ref (ad 1), .ref (ad 2), .ref (ad 3), .int (gTL_rowTold τ), .int (gTL_savedRows τ), .ref (ad 4), .ref (ad 5), .ref (ad 6), .ref (ad 7), .ref (ad 8), .ref (ad 9)]))], w52, w54, w56, w58, w60, u106, w64, w66, w68, w70].flatten) := ⟨w52, w54, w56, w58, w60, u106, w64, w66, w68, w70, rfl, h53, h55, h57, h59, h61, hu107, h65, h67, h69, h71⟩
          obtain ⟨T109, hT110⟩ : ∃ z, A_TL_tellPart (uTL_openParts τ (A_IL_put (gTL_openParts τ) ((A_IL_length (gTL_openRows τ)) - 1) ((A_IL_at (gTL_openParts τ) ((A_IL_length (gTL_openRows τ)) - 1)) + 1))) ss rr (A_RW_part rr (A_IL_at (gTL_openRows τ) ((A_IL_length (gTL_openRows τ)) - 1)) (A_IL_at (gTL_openParts τ) ((A_IL_length (gTL_openRows τ)) - 1))) = z := ⟨_, rfl⟩
          refine wrV (G := G) (k := 0) (As := [.int (A_RW_part rr (A_IL_at (gTL_openRows τ) ((A_IL_length (gTL_openRows τ)) - 1)) (A_IL_at (gTL_openParts τ) ((A_IL_length (gTL_openRows τ)) - 1)))]) (rest := []) (C := RTL) ⟨hx, hb, hml, hown, hts⟩ (c_TL_tellPart l G h0 bS bR ad adL (uTL_openParts τ (A_IL_put (gTL_openParts τ) ((A_IL_length (gTL_openRows τ)) - 1) ((A_IL_at (gTL_openParts τ) ((A_IL_length (gTL_openRows τ)) - 1)) + 1))) (A_RW_part rr (A_IL_at (gTL_openRows τ) ((A_IL_length (gTL_openRows τ)) - 1)) (A_IL_at (gTL_openParts τ) ((A_IL_length (gTL_openRows τ)) - 1))) _ _ adS ss _ (ro_keep hS hvS hro_ss) hsS (bk_apA (k := 0) hB rfl hro_ss) adR rr _ (ro_keep hS hvR hro_rr) hrR (bk_apA (k := 0) hB rfl hro_rr) (bk_gP (k := 0) hB.1 rfl) (bk_own (k := 0) hB rfl) hpk108 T109 hT110 _ rfl (bk_ub hk hKb)) (cwV 1 hts (gd_V ml_TL_121 im_TL_tellPart sl_TL_tellPart ini_TL k_TL_tellPart) rfl rmK_c rmK_s (by decide +kernel) ⟨Nat.le_of_ble_eq_true rfl, Nat.le_of_ble_eq_true rfl⟩) hK (pTL_recv hK (bk_gP (k := 0) hB.1 rfl) hpk108) hS hA hB rfl hk ⟨rfl, rfl⟩ rfl hl.1 (Nat.le_of_ble_eq_true rfl) d_TL_tellSteps_122 (fun u111 H locs kc hu112 hB hS hk => ?_)
          have hr0 := bnd_e hT110 hr0
          have hk := bnd_k hT110 hk
          have hB : bk G.1 vwCl A [u111] H := hB
          obtain ⟨w113, w115, w117, w119, w121, w123, w125, w127, w129, w131, rfl, h114, h116, h118, h120, h122, h124, h126, h128, h130, h132⟩ := hu112
          have hB : bk G.1 vwCl A [[(h0, .inr (4, [.ref bS, .ref bR, .ref (ad 0), .ref (ad 1), .ref (ad 2), .ref (ad 3), .int (gTL_rowTold T109), .int (gTL_savedRows T109), .ref (ad 4), .ref (ad 5), .ref (ad 6), .ref (ad 7), .ref (ad 8), .ref (ad 9)]))], w113, w115, w117, w119, w121, w123, w125, w127, w129, w131] H := bk_many hB
          refine lv_goto (tgt := 178) hx hb d_TL_tellSteps_125 (by decide) ?_
          refine lv_iinc (v := turn + 1) (lv' := [(1, .int (turn + 1)), (4, .int (A_IL_at (gTL_openParts τ) ((A_IL_length (gTL_openRows τ)) - 1))), (3, .int (A_IL_at (gTL_openRows τ) ((A_IL_length (gTL_openRows τ)) - 1))), (2, .int ((A_IL_length (gTL_openRows τ)) - 1)), (0, .ref h0)]) hx hb d_TL_tellSteps_178 hl (k := 4) rfl rfl (by decide) rfl (fun ls hl => ?_)
          refine lv_goto (tgt := 41) hx hb d_TL_tellSteps_181 (by decide) ?_
          exact ih41 _ _ _ _ ⟨(turn + 1), T109, _, ⟨w113, w115, w117, w119, w121, w123, w125, w127, w129, w131, rfl, h114, h116, h118, h120, h122, h124, h126, h128, h130, h132⟩, bk_one hB, hS, lv_sub hl [4, 0] rfl, hr0, hk, up_dec c72 hm41⟩
  · rintro H locs kc ls ⟨_, _, _, -, -, -, -, -, -, hz⟩; exact Nat.not_lt_zero _ hz
end
section
def M_TL_numberSavedRows_L2 (k : Int32) (τ : tTL) : Nat := ((A_IL_length (gTL_steps τ)).toInt - k.toInt).toNat
def A_TL_numberSavedRows_L2 : Nat → Int32 → tTL → tTL
  | 0, _, τ => τ
  | n2 + 1, k, τ => if (A_IL_length (gTL_steps τ)) ≤ k then τ else (if (A_TL_isSavedAt τ k) = 0 then (if (-2) < (A_IL_at (gTL_steps τ) k) then (A_TL_numberSavedRows_L2 n2 (k + 1) τ) else (A_TL_numberSavedRows_L2 n2 (k + 1) (uTL_steps τ (A_IL_put (gTL_steps τ) k ((-2) - (A_IL_at (gTL_savedAs τ) ((-2) - (A_IL_at (gTL_steps τ) k)))))))) else (if (-2) < (A_IL_at (gTL_steps τ) k) then (A_TL_numberSavedRows_L2 n2 (k + 1) (uTL_savedRows (uTL_savedAs τ (A_IL_put (gTL_savedAs τ) k (gTL_savedRows τ))) ((gTL_savedRows τ) + 1))) else (A_TL_numberSavedRows_L2 n2 (k + 1) (uTL_steps (uTL_savedRows (uTL_savedAs τ (A_IL_put (gTL_savedAs τ) k (gTL_savedRows τ))) ((gTL_savedRows τ) + 1)) (A_IL_put (gTL_steps τ) k ((-2) - (A_IL_at (A_IL_put (gTL_savedAs τ) k (gTL_savedRows τ)) ((-2) - (A_IL_at (gTL_steps τ) k)))))))))
def A_TL_numberSavedRows (σ : tTL) : tTL := A_TL_numberSavedRows_L2 (M_TL_numberSavedRows_L2 0 σ + 1) 0 σ
set_option maxHeartbeats 4000000 in
set_option maxRecDepth 100000 in
theorem c_TL_numberSavedRows (l : Launch) (G : pG) (h0 : Nat) (bS : Nat) (bR : Nat) (ad : Nat → Nat) (adL : Nat → Nat) (σ : tTL) (H : Heap) (w : va_W) (hP0 : va_P G.1 vwCl w H) (hD0 : va_D (fun _ => True) w) (hσ : pTL G h0 bS bR ad adL σ w) (res : tTL) (hr0 : A_TL_numberSavedRows σ = res) : MWv l y_TL_numberSavedRows w_TL_numberSavedRows 2 42 0 G [.ref h0] H w (pTL G h0 bS bR ad adL res) := by
  refine Met.ofW (cc := b_TL_numberSavedRows) (maxL := 3) (ret := none) (by decide) rfl ?_
  intro p e s m args below meth c s₁ B hml hv
  obtain ⟨rfl, rfl, hK⟩ := hv
  have hx := B.exec
  have hb := B.bytes
  have hr := B.returns
  have hts0 := atoms_spec (ws := w_TL_numberSavedRows) B.pre
  have hts := fun w (h : w ∈ lw_g) => hts0 w (List.mem_cons_of_mem _ h)
  have hown : s.vm.findClass RTL = some m.cls := findClass_of_methodNamed B.named
  have hlocks := B.notSynchronized
  have hA : ∀ q : Nat, s.heap.size ≤ q → va_A w s.heap.size q := fun _ h => Or.inr h
  have hB : bk G.1 vwCl (va_A w s.heap.size) [w] s.heap := bk_init hP0 hD0
  generalize va_A w s.heap.size = A at *
  have hS : va_S A s.heap s.heap [] := va_S.rf
  obtain ⟨w1, w3, w5, w7, w9, w11, w13, w15, w17, w19, rfl, h2, h4, h6, h8, h10, h12, h14, h16, h18, h20⟩ := hσ
  have hB := bk_many hB
  have hk : 0 + 0 = 0 := rfl
  have hl := lv_entry ([.ref h0]) (n := 3) (Nat.le_of_ble_eq_true rfl)
  rw [lg_entry_eq]
  generalize (lg_sl ([.ref h0]) ++ List.replicate (3 - (lg_sl ([.ref h0])).length) Slot.unset).toArray = ls at hl ⊢
  have hl : lv_has ls 3 [(0, .ref h0)] := hl
  unfold A_TL_numberSavedRows at hr0
  refine lv_iconst (v := 0) hx hb d_TL_numberSavedRows_0 (by decide) ?_
  refine lv_istore_n (lv' := [(1, .int 0), (0, .ref h0)]) hx hb d_TL_numberSavedRows_1 rfl hl (by decide) rfl (fun ls hl => ?_)
  refine lp_W (I := fun n2 H locs kc ls => ∃ (k : Int32) (τ : tTL) (w : va_W), pTL G h0 bS bR ad adL τ w ∧ bk G.1 vwCl A [w] H ∧ va_S A s.heap H locs ∧ lv_has ls 3 [(0, .ref h0), (1, .int k)] ∧ A_TL_numberSavedRows_L2 n2 k τ = res ∧ kc = 0 ∧ M_TL_numberSavedRows_L2 k τ < n2) ?_ ?_ (M_TL_numberSavedRows_L2 0 σ + 1) _ _ _ _ ⟨0, σ, _, ⟨w1, w3, w5, w7, w9, w11, w13, w15, w17, w19, rfl, h2, h4, h6, h8, h10, h12, h14, h16, h18, h20⟩, bk_one hB, hS, lv_sub hl [1, 0] rfl, hr0, rfl, Nat.lt_succ_self _⟩
  · intro n2 ih2 H locs kc ls ⟨k, τ, w, hτ, hB, hS, hl, hr0, hkc, hm2⟩
    subst hkc
    obtain ⟨w21, w23, w25, w27, w29, w31, w33, w35, w37, w39, rfl, h22, h24, h26, h28, h30, h32, h34, h36, h38, h40⟩ := hτ
    have hB := bk_many hB
    rw [A_TL_numberSavedRows_L2] at hr0
    refine lv_iload_n hx hb d_TL_numberSavedRows_2 rfl (lv_at hl 1 rfl) ?_
    refine lv_aload_n hx hb d_TL_numberSavedRows_3 rfl (lv_at hl 0 rfl) ?_
    refine va_get (D := G.1) (ci := 4) (v := .ref (ad 0)) (C := RTL) (T := TTL) (N := 14) hx hb hts inTL hown hK hB.1 0 rfl rfl 2 (by decide) (hts _ fl_TL_22) (fun _ h9 => h9) rfl d_TL_numberSavedRows_4 ?_
    refine rdV (G := G) (As := []) (rest := [.int k]) (C := RIL) ⟨hx, hb, hml, hown, hts⟩ (c_IL_length l G (ad 0) (gTL_steps τ) _ _ (bk_gP (k := 1) hB.1 rfl) h22 _ rfl) (cwV 0 hts (gd_V ml_TL_71 im_IL_length sl_IL_length ini_IL k_IL_length) rfl rmK_c rmK_s (by decide +kernel) ⟨Nat.le_of_ble_eq_true rfl, Nat.le_of_ble_eq_true rfl⟩) hK (pIL_recv hK (bk_gP (k := 1) hB.1 rfl) h22) hS ⟨Nat.le.intro hk, Nat.le.intro hk⟩ rfl hl.1 (Nat.le_of_ble_eq_true rfl) d_TL_numberSavedRows_7 (fun locs hS => ?_)
    refine lv_icmp_ge (tgt := 86) hx hb d_TL_numberSavedRows_10 (by decide) (fun c41 => ?_) (fun c41 => ?_)
    · have hr0 := ai_pos c41 hr0
      subst hr0
      refine W.widen (k := 0) (n := 0) (Nat.le_refl _) (Nat.le_refl _) ?_
      exact W.vret hx hb hr (fun t ht hW => ⟨⟨[[(h0, .inr (4, [.ref bS, .ref bR, .ref (ad 0), .ref (ad 1), .ref (ad 2), .ref (ad 3), .int (gTL_rowTold τ), .int (gTL_savedRows τ), .ref (ad 4), .ref (ad 5), .ref (ad 6), .ref (ad 7), .ref (ad 8), .ref (ad 9)]))], w21, w23, w25, w27, w29, w31, w33, w35, w37, w39].flatten, rfl, ⟨w21, w23, w25, w27, w29, w31, w33, w35, w37, w39, rfl, h22, h24, h26, h28, h30, h32, h34, h36, h38, h40⟩, by rw [ht]; exact hB.1, hB.2⟩, hS.F ht⟩) hS.2.2 d_TL_numberSavedRows_86
    · have hr0 := ai_neg c41 hr0
      refine lv_aload_n hx hb d_TL_numberSavedRows_13 rfl (lv_at hl 0 rfl) ?_
      refine lv_iload_n hx hb d_TL_numberSavedRows_14 rfl (lv_at hl 1 rfl) ?_
      have hpk42 : pTL G h0 bS bR ad adL τ ([[(h0, .inr (4, [.ref bS, .ref bR, .ref (ad 0), .ref (ad 1), .ref (ad 2), .ref (ad 3), .int (gTL_rowTold τ), .int (gTL_savedRows τ), .ref (ad 4), .ref (ad 5), .ref (ad 6), .ref (ad 7), .ref (ad 8), .ref (ad 9)]))], w21, w23, w25, w27, w29, w31, w33, w35, w37, w39].flatten) := ⟨w21, w23, w25, w27, w29, w31, w33, w35, w37, w39, rfl, h22, h24, h26, h28, h30, h32, h34, h36, h38, h40⟩
      refine rdV (G := G) (As := [.int k]) (rest := []) (C := RTL) ⟨hx, hb, hml, hown, hts⟩ (c_TL_isSavedAt l G h0 bS bR ad adL τ k _ _ hB.1 hpk42 _ rfl) (cwV 1 hts (gd_V ml_TL_136 im_TL_isSavedAt sl_TL_isSavedAt ini_TL k_TL_isSavedAt) rfl rmK_c rmK_s (by decide +kernel) ⟨Nat.le_of_ble_eq_true rfl, Nat.le_of_ble_eq_true rfl⟩) hK (pTL_recv hK hB.1 hpk42) hS ⟨Nat.le.intro hk, Nat.le.intro hk⟩ rfl hl.1 (Nat.le_of_ble_eq_true rfl) d_TL_numberSavedRows_15 (fun locs hS => ?_)
      refine lv_if_eq (tgt := 43) hx hb d_TL_numberSavedRows_18 (by decide) (fun c43 => ?_) (fun c43 => ?_)
      · have hr0 := ai_pos c43 hr0
        refine lv_aload_n hx hb d_TL_numberSavedRows_43 rfl (lv_at hl 0 rfl) ?_
        refine va_get (D := G.1) (ci := 4) (v := .ref (ad 0)) (C := RTL) (T := TTL) (N := 14) hx hb hts inTL hown hK hB.1 0 rfl rfl 2 (by decide) (hts _ fl_TL_22) (fun _ h9 => h9) rfl d_TL_numberSavedRows_44 ?_
        refine lv_iload_n hx hb d_TL_numberSavedRows_47 rfl (lv_at hl 1 rfl) ?_
        refine rdV (G := G) (As := [.int k]) (rest := []) (C := RIL) ⟨hx, hb, hml, hown, hts⟩ (c_IL_at l G (ad 0) (gTL_steps τ) k _ _ (bk_gP (k := 1) hB.1 rfl) h22 _ rfl) (cwV 1 hts (gd_V ml_TL_78 im_IL_at sl_IL_at ini_IL k_IL_at) rfl rmK_c rmK_s (by decide +kernel) ⟨Nat.le_of_ble_eq_true rfl, Nat.le_of_ble_eq_true rfl⟩) hK (pIL_recv hK (bk_gP (k := 1) hB.1 rfl) h22) hS ⟨Nat.le.intro hk, Nat.le.intro hk⟩ rfl hl.1 (Nat.le_of_ble_eq_true rfl) d_TL_numberSavedRows_48 (fun locs hS => ?_)
        refine lv_istore_n (lv' := [(2, .int (A_IL_at (gTL_steps τ) k)), (0, .ref h0), (1, .int k)]) hx hb d_TL_numberSavedRows_51 rfl hl (by decide) rfl (fun ls hl => ?_)
        refine lv_iload_n hx hb d_TL_numberSavedRows_52 rfl (lv_at hl 0 rfl) ?_
        refine lv_bipush (v := (-2)) hx hb d_TL_numberSavedRows_53 (by decide) ?_
        refine lv_icmp_gt (tgt := 80) hx hb d_TL_numberSavedRows_55 (by decide) (fun c44 => ?_) (fun c44 => ?_)
        · have hr0 := ai_pos c44 hr0
          refine lv_iinc (v := k + 1) (lv' := [(1, .int (k + 1)), (2, .int (A_IL_at (gTL_steps τ) k)), (0, .ref h0)]) hx hb d_TL_numberSavedRows_80 hl (k := 2) rfl rfl (by decide) rfl (fun ls hl => ?_)
          refine lv_goto (tgt := 2) hx hb d_TL_numberSavedRows_83 (by decide) ?_
          exact ih2 _ _ _ _ ⟨(k + 1), τ, _, ⟨w21, w23, w25, w27, w29, w31, w33, w35, w37, w39, rfl, h22, h24, h26, h28, h30, h32, h34, h36, h38, h40⟩, bk_one hB, hS, lv_sub hl [2, 0] rfl, hr0, rfl, up_dec c41 hm2⟩
        · have hr0 := ai_neg c44 hr0
          refine lv_aload_n hx hb d_TL_numberSavedRows_58 rfl (lv_at hl 1 rfl) ?_
          refine va_get (D := G.1) (ci := 4) (v := .ref (ad 0)) (C := RTL) (T := TTL) (N := 14) hx hb hts inTL hown hK hB.1 0 rfl rfl 2 (by decide) (hts _ fl_TL_22) (fun _ h9 => h9) rfl d_TL_numberSavedRows_59 ?_
          refine lv_iload_n hx hb d_TL_numberSavedRows_62 rfl (lv_at hl 2 rfl) ?_
          refine lv_bipush (v := (-2)) hx hb d_TL_numberSavedRows_63 (by decide) ?_
          refine lv_aload_n hx hb d_TL_numberSavedRows_65 rfl (lv_at hl 1 rfl) ?_
          refine va_get (D := G.1) (ci := 4) (v := .ref (ad 1)) (C := RTL) (T := TTL) (N := 14) hx hb hts inTL hown hK hB.1 0 rfl rfl 3 (by decide) (hts _ fl_TL_26) (fun _ h9 => h9) rfl d_TL_numberSavedRows_66 ?_
          refine lv_bipush (v := (-2)) hx hb d_TL_numberSavedRows_69 (by decide) ?_
          refine lv_iload_n hx hb d_TL_numberSavedRows_71 rfl (lv_at hl 0 rfl) ?_
          refine lv_isub hx hb d_TL_numberSavedRows_72 ?_
          refine rdV (G := G) (As := [.int ((-2) - (A_IL_at (gTL_steps τ) k))]) (rest := [.int (-2), .int k, .ref (ad 0)]) (C := RIL) ⟨hx, hb, hml, hown, hts⟩ (c_IL_at l G (ad 1) (gTL_savedAs τ) ((-2) - (A_IL_at (gTL_steps τ) k)) _ _ (bk_gP (k := 2) hB.1 rfl) h24 _ rfl) (cwV 1 hts (gd_V ml_TL_78 im_IL_at sl_IL_at ini_IL k_IL_at) rfl rmK_c rmK_s (by decide +kernel) ⟨Nat.le_of_ble_eq_true rfl, Nat.le_of_ble_eq_true rfl⟩) hK (pIL_recv hK (bk_gP (k := 2) hB.1 rfl) h24) hS ⟨Nat.le.intro hk, Nat.le.intro hk⟩ rfl hl.1 (Nat.le_of_ble_eq_true rfl) d_TL_numberSavedRows_73 (fun locs hS => ?_)
          refine lv_isub hx hb d_TL_numberSavedRows_76 ?_
          refine wrV0 (G := G) (k := 1) (As := [.int k, .int ((-2) - (A_IL_at (gTL_savedAs τ) ((-2) - (A_IL_at (gTL_steps τ) k))))]) (rest := []) (C := RIL) ⟨hx, hb, hml, hown, hts⟩ (c_IL_put l G (ad 0) (gTL_steps τ) k ((-2) - (A_IL_at (gTL_savedAs τ) ((-2) - (A_IL_at (gTL_steps τ) k)))) _ _ (bk_gP (k := 1) hB.1 rfl) (bk_own (k := 1) hB rfl) h22 _ rfl) (cwV 2 hts (gd_V ml_TL_114 im_IL_put sl_IL_put ini_IL k_IL_put) rfl rmK_c rmK_s (by decide +kernel) ⟨Nat.le_of_ble_eq_true rfl, Nat.le_of_ble_eq_true rfl⟩) hK (pIL_recv hK (bk_gP (k := 1) hB.1 rfl) h22) hS hA hB rfl hk ⟨rfl, rfl⟩ rfl hl.1 (Nat.le_of_ble_eq_true rfl) d_TL_numberSavedRows_77 (fun u45 H locs hu46 hB hS => ?_)
          have hB : bk G.1 vwCl A [[(h0, .inr (4, [.ref bS, .ref bR, .ref (ad 0), .ref (ad 1), .ref (ad 2), .ref (ad 3), .int (gTL_rowTold τ), .int (gTL_savedRows τ), .ref (ad 4), .ref (ad 5), .ref (ad 6), .ref (ad 7), .ref (ad 8), .ref (ad 9)]))], u45, w23, w25, w27, w29, w31, w33, w35, w37, w39] H := hB
          refine lv_iinc (v := k + 1) (lv' := [(1, .int (k + 1)), (2, .int (A_IL_at (gTL_steps τ) k)), (0, .ref h0)]) hx hb d_TL_numberSavedRows_80 hl (k := 2) rfl rfl (by decide) rfl (fun ls hl => ?_)
          refine lv_goto (tgt := 2) hx hb d_TL_numberSavedRows_83 (by decide) ?_
          exact ih2 _ _ _ _ ⟨(k + 1), (uTL_steps τ (A_IL_put (gTL_steps τ) k ((-2) - (A_IL_at (gTL_savedAs τ) ((-2) - (A_IL_at (gTL_steps τ) k)))))), _, ⟨u45, w23, w25, w27, w29, w31, w33, w35, w37, w39, rfl, hu46, h24, h26, h28, h30, h32, h34, h36, h38, h40⟩, bk_one hB, hS, lv_sub hl [2, 0] rfl, hr0, rfl, up_decE c41 hm2 (len_put _ _ _)⟩
      · have hr0 := ai_neg c43 hr0
        refine lv_aload_n hx hb d_TL_numberSavedRows_21 rfl (lv_at hl 0 rfl) ?_
        refine va_get (D := G.1) (ci := 4) (v := .ref (ad 1)) (C := RTL) (T := TTL) (N := 14) hx hb hts inTL hown hK hB.1 0 rfl rfl 3 (by decide) (hts _ fl_TL_26) (fun _ h9 => h9) rfl d_TL_numberSavedRows_22 ?_
        refine lv_iload_n hx hb d_TL_numberSavedRows_25 rfl (lv_at hl 1 rfl) ?_
        refine lv_aload_n hx hb d_TL_numberSavedRows_26 rfl (lv_at hl 0 rfl) ?_
        refine va_get (D := G.1) (ci := 4) (v := .int (gTL_savedRows τ)) (C := RTL) (T := TTL) (N := 14) hx hb hts inTL hown hK hB.1 0 rfl rfl 7 (by decide) (hts _ fl_TL_43) (fun _ h9 => h9) rfl d_TL_numberSavedRows_27 ?_
        refine wrV0 (G := G) (k := 2) (As := [.int k, .int (gTL_savedRows τ)]) (rest := []) (C := RIL) ⟨hx, hb, hml, hown, hts⟩ (c_IL_put l G (ad 1) (gTL_savedAs τ) k (gTL_savedRows τ) _ _ (bk_gP (k := 2) hB.1 rfl) (bk_own (k := 2) hB rfl) h24 _ rfl) (cwV 2 hts (gd_V ml_TL_114 im_IL_put sl_IL_put ini_IL k_IL_put) rfl rmK_c rmK_s (by decide +kernel) ⟨Nat.le_of_ble_eq_true rfl, Nat.le_of_ble_eq_true rfl⟩) hK (pIL_recv hK (bk_gP (k := 2) hB.1 rfl) h24) hS hA hB rfl hk ⟨rfl, rfl⟩ rfl hl.1 (Nat.le_of_ble_eq_true rfl) d_TL_numberSavedRows_30 (fun u47 H locs hu48 hB hS => ?_)
        have hB : bk G.1 vwCl A [[(h0, .inr (4, [.ref bS, .ref bR, .ref (ad 0), .ref (ad 1), .ref (ad 2), .ref (ad 3), .int (gTL_rowTold τ), .int (gTL_savedRows τ), .ref (ad 4), .ref (ad 5), .ref (ad 6), .ref (ad 7), .ref (ad 8), .ref (ad 9)]))], w21, u47, w25, w27, w29, w31, w33, w35, w37, w39] H := hB
        refine lv_aload_n hx hb d_TL_numberSavedRows_33 rfl (lv_at hl 0 rfl) ?_
        refine lv_dup hx hb d_TL_numberSavedRows_34 rfl ?_
        refine va_get (D := G.1) (ci := 4) (v := .int (gTL_savedRows τ)) (C := RTL) (T := TTL) (N := 14) hx hb hts inTL hown hK hB.1 0 rfl rfl 7 (by decide) (hts _ fl_TL_43) (fun _ h9 => h9) rfl d_TL_numberSavedRows_35 ?_
        refine lv_iconst (v := 1) hx hb d_TL_numberSavedRows_38 (by decide) ?_
        refine lv_iadd hx hb d_TL_numberSavedRows_39 ?_
        refine va_put (D := G.1) (ci := 4) (v := .int ((gTL_savedRows τ) + 1)) (ty := .int) (C := RTL) (T := TTL) (N := 14) hx hb hts inTL tyTL tokTL nmTL hown hK hB.1 hB.2 hS 0 rfl rfl 7 (by decide) (hts _ fl_TL_43) (fun _ h9 => h9) rfl (by decide +kernel) rfl rfl (Nat.le_of_ble_eq_true rfl) d_TL_numberSavedRows_40 (fun H locs hP hD hS => ?_)
        have hB : bk G.1 vwCl A [[(h0, .inr (4, [.ref bS, .ref bR, .ref (ad 0), .ref (ad 1), .ref (ad 2), .ref (ad 3), .int (gTL_rowTold τ), .int ((gTL_savedRows τ) + 1), .ref (ad 4), .ref (ad 5), .ref (ad 6), .ref (ad 7), .ref (ad 8), .ref (ad 9)]))], w21, u47, w25, w27, w29, w31, w33, w35, w37, w39] H := ⟨hP, hD⟩
        refine lv_aload_n hx hb d_TL_numberSavedRows_43 rfl (lv_at hl 0 rfl) ?_
        refine va_get (D := G.1) (ci := 4) (v := .ref (ad 0)) (C := RTL) (T := TTL) (N := 14) hx hb hts inTL hown hK hB.1 0 rfl rfl 2 (by decide) (hts _ fl_TL_22) (fun _ h9 => h9) rfl d_TL_numberSavedRows_44 ?_
        refine lv_iload_n hx hb d_TL_numberSavedRows_47 rfl (lv_at hl 1 rfl) ?_
        refine rdV (G := G) (As := [.int k]) (rest := []) (C := RIL) ⟨hx, hb, hml, hown, hts⟩ (c_IL_at l G (ad 0) (gTL_steps τ) k _ _ (bk_gP (k := 1) hB.1 rfl) h22 _ rfl) (cwV 1 hts (gd_V ml_TL_78 im_IL_at sl_IL_at ini_IL k_IL_at) rfl rmK_c rmK_s (by decide +kernel) ⟨Nat.le_of_ble_eq_true rfl, Nat.le_of_ble_eq_true rfl⟩) hK (pIL_recv hK (bk_gP (k := 1) hB.1 rfl) h22) hS ⟨Nat.le.intro hk, Nat.le.intro hk⟩ rfl hl.1 (Nat.le_of_ble_eq_true rfl) d_TL_numberSavedRows_48 (fun locs hS => ?_)
        refine lv_istore_n (lv' := [(2, .int (A_IL_at (gTL_steps τ) k)), (0, .ref h0), (1, .int k)]) hx hb d_TL_numberSavedRows_51 rfl hl (by decide) rfl (fun ls hl => ?_)
        refine lv_iload_n hx hb d_TL_numberSavedRows_52 rfl (lv_at hl 0 rfl) ?_
        refine lv_bipush (v := (-2)) hx hb d_TL_numberSavedRows_53 (by decide) ?_
        refine lv_icmp_gt (tgt := 80) hx hb d_TL_numberSavedRows_55 (by decide) (fun c49 => ?_) (fun c49 => ?_)
        · have hr0 := ai_pos c49 hr0
          refine lv_iinc (v := k + 1) (lv' := [(1, .int (k + 1)), (2, .int (A_IL_at (gTL_steps τ) k)), (0, .ref h0)]) hx hb d_TL_numberSavedRows_80 hl (k := 2) rfl rfl (by decide) rfl (fun ls hl => ?_)
          refine lv_goto (tgt := 2) hx hb d_TL_numberSavedRows_83 (by decide) ?_
          exact ih2 _ _ _ _ ⟨(k + 1), (uTL_savedRows (uTL_savedAs τ (A_IL_put (gTL_savedAs τ) k (gTL_savedRows τ))) ((gTL_savedRows τ) + 1)), _, ⟨w21, u47, w25, w27, w29, w31, w33, w35, w37, w39, rfl, h22, hu48, h26, h28, h30, h32, h34, h36, h38, h40⟩, bk_one hB, hS, lv_sub hl [2, 0] rfl, hr0, rfl, up_dec c41 hm2⟩
        · have hr0 := ai_neg c49 hr0
          refine lv_aload_n hx hb d_TL_numberSavedRows_58 rfl (lv_at hl 1 rfl) ?_
          refine va_get (D := G.1) (ci := 4) (v := .ref (ad 0)) (C := RTL) (T := TTL) (N := 14) hx hb hts inTL hown hK hB.1 0 rfl rfl 2 (by decide) (hts _ fl_TL_22) (fun _ h9 => h9) rfl d_TL_numberSavedRows_59 ?_
          refine lv_iload_n hx hb d_TL_numberSavedRows_62 rfl (lv_at hl 2 rfl) ?_
          refine lv_bipush (v := (-2)) hx hb d_TL_numberSavedRows_63 (by decide) ?_
          refine lv_aload_n hx hb d_TL_numberSavedRows_65 rfl (lv_at hl 1 rfl) ?_
          refine va_get (D := G.1) (ci := 4) (v := .ref (ad 1)) (C := RTL) (T := TTL) (N := 14) hx hb hts inTL hown hK hB.1 0 rfl rfl 3 (by decide) (hts _ fl_TL_26) (fun _ h9 => h9) rfl d_TL_numberSavedRows_66 ?_
          refine lv_bipush (v := (-2)) hx hb d_TL_numberSavedRows_69 (by decide) ?_
          refine lv_iload_n hx hb d_TL_numberSavedRows_71 rfl (lv_at hl 0 rfl) ?_
          refine lv_isub hx hb d_TL_numberSavedRows_72 ?_
          refine rdV (G := G) (As := [.int ((-2) - (A_IL_at (gTL_steps τ) k))]) (rest := [.int (-2), .int k, .ref (ad 0)]) (C := RIL) ⟨hx, hb, hml, hown, hts⟩ (c_IL_at l G (ad 1) (A_IL_put (gTL_savedAs τ) k (gTL_savedRows τ)) ((-2) - (A_IL_at (gTL_steps τ) k)) _ _ (bk_gP (k := 2) hB.1 rfl) hu48 _ rfl) (cwV 1 hts (gd_V ml_TL_78 im_IL_at sl_IL_at ini_IL k_IL_at) rfl rmK_c rmK_s (by decide +kernel) ⟨Nat.le_of_ble_eq_true rfl, Nat.le_of_ble_eq_true rfl⟩) hK (pIL_recv hK (bk_gP (k := 2) hB.1 rfl) hu48) hS ⟨Nat.le.intro hk, Nat.le.intro hk⟩ rfl hl.1 (Nat.le_of_ble_eq_true rfl) d_TL_numberSavedRows_73 (fun locs hS => ?_)
          refine lv_isub hx hb d_TL_numberSavedRows_76 ?_
          refine wrV0 (G := G) (k := 1) (As := [.int k, .int ((-2) - (A_IL_at (A_IL_put (gTL_savedAs τ) k (gTL_savedRows τ)) ((-2) - (A_IL_at (gTL_steps τ) k))))]) (rest := []) (C := RIL) ⟨hx, hb, hml, hown, hts⟩ (c_IL_put l G (ad 0) (gTL_steps τ) k ((-2) - (A_IL_at (A_IL_put (gTL_savedAs τ) k (gTL_savedRows τ)) ((-2) - (A_IL_at (gTL_steps τ) k)))) _ _ (bk_gP (k := 1) hB.1 rfl) (bk_own (k := 1) hB rfl) h22 _ rfl) (cwV 2 hts (gd_V ml_TL_114 im_IL_put sl_IL_put ini_IL k_IL_put) rfl rmK_c rmK_s (by decide +kernel) ⟨Nat.le_of_ble_eq_true rfl, Nat.le_of_ble_eq_true rfl⟩) hK (pIL_recv hK (bk_gP (k := 1) hB.1 rfl) h22) hS hA hB rfl hk ⟨rfl, rfl⟩ rfl hl.1 (Nat.le_of_ble_eq_true rfl) d_TL_numberSavedRows_77 (fun u50 H locs hu51 hB hS => ?_)
          have hB : bk G.1 vwCl A [[(h0, .inr (4, [.ref bS, .ref bR, .ref (ad 0), .ref (ad 1), .ref (ad 2), .ref (ad 3), .int (gTL_rowTold τ), .int ((gTL_savedRows τ) + 1), .ref (ad 4), .ref (ad 5), .ref (ad 6), .ref (ad 7), .ref (ad 8), .ref (ad 9)]))], u50, u47, w25, w27, w29, w31, w33, w35, w37, w39] H := hB
          refine lv_iinc (v := k + 1) (lv' := [(1, .int (k + 1)), (2, .int (A_IL_at (gTL_steps τ) k)), (0, .ref h0)]) hx hb d_TL_numberSavedRows_80 hl (k := 2) rfl rfl (by decide) rfl (fun ls hl => ?_)
          refine lv_goto (tgt := 2) hx hb d_TL_numberSavedRows_83 (by decide) ?_
          exact ih2 _ _ _ _ ⟨(k + 1), (uTL_steps (uTL_savedRows (uTL_savedAs τ (A_IL_put (gTL_savedAs τ) k (gTL_savedRows τ))) ((gTL_savedRows τ) + 1)) (A_IL_put (gTL_steps τ) k ((-2) - (A_IL_at (A_IL_put (gTL_savedAs τ) k (gTL_savedRows τ)) ((-2) - (A_IL_at (gTL_steps τ) k)))))), _, ⟨u50, u47, w25, w27, w29, w31, w33, w35, w37, w39, rfl, hu51, hu48, h26, h28, h30, h32, h34, h36, h38, h40⟩, bk_one hB, hS, lv_sub hl [2, 0] rfl, hr0, rfl, up_decE c41 hm2 (len_put _ _ _)⟩
  · rintro H locs kc ls ⟨_, _, _, -, -, -, -, -, -, hz⟩; exact Nat.not_lt_zero _ hz

def A_TL_numberOfNew (σ : tTL) (ss : tST) (rr : tRW) (statement : Int32) : Int32 × tTL := if (A_ST_isMandatory ss statement) = 0 then ((A_ST_mandatories ss) + (A_IL_length (A_IL_add (gTL_labels σ) statement)), uTL_labels σ (A_IL_add (gTL_labels σ) statement)) else ((A_ST_placeOf ss statement) + 1, σ)
def K_TL_numberOfNew (σ : tTL) (ss : tST) (rr : tRW) (statement : Int32) : Nat := if (A_ST_isMandatory ss statement) = 0 then ((K_IL_add (gTL_labels σ) statement) + 0) else 0
set_option maxHeartbeats 4000000 in
set_option maxRecDepth 100000 in
theorem c_TL_numberOfNew (l : Launch) (G : pG) (h0 : Nat) (bS : Nat) (bR : Nat) (ad : Nat → Nat) (adL : Nat → Nat) (σ : tTL) (statement : Int32) (H : Heap) (w : va_W) (adS : Nat → Nat) (ss : tST) (vS : va_W) (hvS : va_P G.1 vwCl vS H) (hsS : pST G bS adS ss vS) (ap_ss : bk_ap w vS) (adR : Nat → Nat) (rr : tRW) (vR : va_W) (hvR : va_P G.1 vwCl vR H) (hrR : pRW G bR adR rr vR) (ap_rr : bk_ap w vR) (hP0 : va_P G.1 vwCl w H) (hD0 : va_D (fun _ => True) w) (hσ : pTL G h0 bS bR ad adL σ w) (res : Int32 × tTL) (hr0 : A_TL_numberOfNew σ ss rr statement = res) (Kt : Nat) (hk : K_TL_numberOfNew σ ss rr statement = Kt) (hKb : Kt ≤ 16777216) : MWi l y_TL_numberOfNew w_TL_numberOfNew 3 103 Kt G [.ref h0, .int statement] H w res.1 (pTL G h0 bS bR ad adL res.2) := by
  refine Met.ofW (cc := b_TL_numberOfNew) (maxL := 2) (ret := (some .int)) (by decide) rfl ?_
  intro p e s m args below meth c s₁ B hml hv
  obtain ⟨rfl, rfl, hK⟩ := hv
  have hx := B.exec
  have hb := B.bytes
  have hr := B.returns
  have hts0 := atoms_spec (ws := w_TL_numberOfNew) B.pre
  have hts := fun w (h : w ∈ lw_g) => hts0 w (List.mem_cons_of_mem _ h)
  have hown : s.vm.findClass RTL = some m.cls := findClass_of_methodNamed B.named
  have hlocks := B.notSynchronized
  have hA : ∀ q : Nat, s.heap.size ≤ q → va_A w s.heap.size q := fun _ h => Or.inr h
  have hro_ss := ro_A hvS ap_ss
  have hro_rr := ro_A hvR ap_rr
  have hB : bk G.1 vwCl (va_A w s.heap.size) [w] s.heap := bk_init hP0 hD0
  generalize va_A w s.heap.size = A at *
  have hS : va_S A s.heap s.heap [] := va_S.rf
  obtain ⟨w1, w3, w5, w7, w9, w11, w13, w15, w17, w19, rfl, h2, h4, h6, h8, h10, h12, h14, h16, h18, h20⟩ := hσ
  have hB := bk_many hB
  have hk : 0 + K_TL_numberOfNew σ ss rr statement = Kt := (Nat.zero_add _).trans hk
  have hl := lv_entry ([.ref h0, .int statement]) (n := 2) (Nat.le_of_ble_eq_true rfl)
  rw [lg_entry_eq]
  generalize (lg_sl ([.ref h0, .int statement]) ++ List.replicate (2 - (lg_sl ([.ref h0, .int statement])).length) Slot.unset).toArray = ls at hl ⊢
  have hl : lv_has ls 2 [(0, .ref h0), (1, .int statement)] := hl
  unfold A_TL_numberOfNew at hr0
  unfold K_TL_numberOfNew at hk
  refine lv_aload_n hx hb d_TL_numberOfNew_0 rfl (lv_at hl 0 rfl) ?_
  refine va_get (D := G.1) (ci := 4) (v := .ref bS) (C := RTL) (T := TTL) (N := 14) hx hb hts inTL hown hK hB.1 0 rfl rfl 0 (by decide) (hts _ fl_TL_9) (fun _ h9 => h9) rfl d_TL_numberOfNew_1 ?_
  refine lv_iload_n hx hb d_TL_numberOfNew_4 rfl (lv_at hl 1 rfl) ?_
  refine rdV (G := G) (As := [.int statement]) (rest := []) (C := RST) ⟨hx, hb, hml, hown, hts⟩ (c_ST_isMandatory l G bS adS ss statement _ _ (ro_keep hS hvS hro_ss) hsS _ rfl) (cwV 1 hts (gd_V ml_TL_146 im_ST_isMandatory sl_ST_isMandatory ini_ST k_ST_isMandatory) rfl rmK_c rmK_s (by decide +kernel) ⟨Nat.le_of_ble_eq_true rfl, Nat.le_of_ble_eq_true rfl⟩) hK (pST_recv hK (ro_keep hS hvS hro_ss) hsS) hS ⟨Nat.le.intro hk, Nat.le.intro hk⟩ rfl hl.1 (Nat.le_of_ble_eq_true rfl) d_TL_numberOfNew_5 (fun locs hS => ?_)
  refine lv_if_eq (tgt := 22) hx hb d_TL_numberOfNew_8 (by decide) (fun c21 => ?_) (fun c21 => ?_)
  · have hr0 := ai_pos c21 hr0
    have hk := ki_pos c21 hk
    refine lv_aload_n hx hb d_TL_numberOfNew_22 rfl (lv_at hl 0 rfl) ?_
    refine va_get (D := G.1) (ci := 4) (v := .ref (ad 2)) (C := RTL) (T := TTL) (N := 14) hx hb hts inTL hown hK hB.1 0 rfl rfl 4 (by decide) (hts _ fl_TL_29) (fun _ h9 => h9) rfl d_TL_numberOfNew_23 ?_
    refine lv_iload_n hx hb d_TL_numberOfNew_26 rfl (lv_at hl 1 rfl) ?_
    refine wrV (G := G) (k := 3) (As := [.int statement]) (rest := []) (C := RIL) ⟨hx, hb, hml, hown, hts⟩ (c_IL_add l G (ad 2) (gTL_labels σ) statement _ _ (bk_gP (k := 3) hB.1 rfl) (bk_own (k := 3) hB rfl) h6 _ rfl _ rfl (bk_ub hk hKb)) (cwV 1 hts (gd_V ml_TL_133 im_IL_add sl_IL_add ini_IL k_IL_add) rfl rmK_c rmK_s (by decide +kernel) ⟨Nat.le_of_ble_eq_true rfl, Nat.le_of_ble_eq_true rfl⟩) hK (pIL_recv hK (bk_gP (k := 3) hB.1 rfl) h6) hS hA hB rfl hk ⟨rfl, rfl⟩ rfl hl.1 (Nat.le_of_ble_eq_true rfl) d_TL_numberOfNew_27 (fun u22 H locs kc hu23 hB hS hk => ?_)
    have hB : bk G.1 vwCl A [[(h0, .inr (4, [.ref bS, .ref bR, .ref (ad 0), .ref (ad 1), .ref (ad 2), .ref (ad 3), .int (gTL_rowTold σ), .int (gTL_savedRows σ), .ref (ad 4), .ref (ad 5), .ref (ad 6), .ref (ad 7), .ref (ad 8), .ref (ad 9)]))], w1, w3, u22, w7, w9, w11, w13, w15, w17, w19] H := hB
    refine lv_aload_n hx hb d_TL_numberOfNew_30 rfl (lv_at hl 0 rfl) ?_
    refine va_get (D := G.1) (ci := 4) (v := .ref bS) (C := RTL) (T := TTL) (N := 14) hx hb hts inTL hown hK hB.1 0 rfl rfl 0 (by decide) (hts _ fl_TL_9) (fun _ h9 => h9) rfl d_TL_numberOfNew_31 ?_
    refine rdV (G := G) (As := []) (rest := []) (C := RST) ⟨hx, hb, hml, hown, hts⟩ (c_ST_mandatories l G bS adS ss _ _ (ro_keep hS hvS hro_ss) hsS _ rfl) (cwV 0 hts (gd_V ml_TL_152 im_ST_mandatories sl_ST_mandatories ini_ST k_ST_mandatories) rfl rmK_c rmK_s (by decide +kernel) ⟨Nat.le_of_ble_eq_true rfl, Nat.le_of_ble_eq_true rfl⟩) hK (pST_recv hK (ro_keep hS hvS hro_ss) hsS) hS ⟨Nat.le.intro hk, Nat.le.intro hk⟩ rfl hl.1 (Nat.le_of_ble_eq_true rfl) d_TL_numberOfNew_34 (fun locs hS => ?_)
    refine lv_aload_n hx hb d_TL_numberOfNew_37 rfl (lv_at hl 0 rfl) ?_
    refine va_get (D := G.1) (ci := 4) (v := .ref (ad 2)) (C := RTL) (T := TTL) (N := 14) hx hb hts inTL hown hK hB.1 0 rfl rfl 4 (by decide) (hts _ fl_TL_29) (fun _ h9 => h9) rfl d_TL_numberOfNew_38 ?_
    refine rdV (G := G) (As := []) (rest := [.int (A_ST_mandatories ss)]) (C := RIL) ⟨hx, hb, hml, hown, hts⟩ (c_IL_length l G (ad 2) (A_IL_add (gTL_labels σ) statement) _ _ (bk_gP (k := 3) hB.1 rfl) hu23 _ rfl) (cwV 0 hts (gd_V ml_TL_71 im_IL_length sl_IL_length ini_IL k_IL_length) rfl rmK_c rmK_s (by decide +kernel) ⟨Nat.le_of_ble_eq_true rfl, Nat.le_of_ble_eq_true rfl⟩) hK (pIL_recv hK (bk_gP (k := 3) hB.1 rfl) hu23) hS ⟨Nat.le.intro hk, Nat.le.intro hk⟩ rfl hl.1 (Nat.le_of_ble_eq_true rfl) d_TL_numberOfNew_41 (fun locs hS => ?_)
    refine lv_iadd hx hb d_TL_numberOfNew_44 ?_
    subst hr0
    refine W.widen (k := Kt) (n := Kt) (Nat.le.intro hk) (Nat.le.intro hk) ?_
    exact W.iret (v := ((A_ST_mandatories ss) + (A_IL_length (A_IL_add (gTL_labels σ) statement)))) hx hb hr (fun t ht hW => ⟨⟨((A_ST_mandatories ss) + (A_IL_length (A_IL_add (gTL_labels σ) statement))), [[(h0, .inr (4, [.ref bS, .ref bR, .ref (ad 0), .ref (ad 1), .ref (ad 2), .ref (ad 3), .int (gTL_rowTold σ), .int (gTL_savedRows σ), .ref (ad 4), .ref (ad 5), .ref (ad 6), .ref (ad 7), .ref (ad 8), .ref (ad 9)]))], w1, w3, u22, w7, w9, w11, w13, w15, w17, w19].flatten, rfl, ⟨rfl, ⟨w1, w3, u22, w7, w9, w11, w13, w15, w17, w19, rfl, h2, h4, hu23, h8, h10, h12, h14, h16, h18, h20⟩⟩, by rw [ht]; exact hB.1, hB.2⟩, hS.F ht⟩) hS.2.2 d_TL_numberOfNew_45
  · have hr0 := ai_neg c21 hr0
    have hk := ki_neg c21 hk
    refine lv_aload_n hx hb d_TL_numberOfNew_11 rfl (lv_at hl 0 rfl) ?_
    refine va_get (D := G.1) (ci := 4) (v := .ref bS) (C := RTL) (T := TTL) (N := 14) hx hb hts inTL hown hK hB.1 0 rfl rfl 0 (by decide) (hts _ fl_TL_9) (fun _ h9 => h9) rfl d_TL_numberOfNew_12 ?_
    refine lv_iload_n hx hb d_TL_numberOfNew_15 rfl (lv_at hl 1 rfl) ?_
    refine rdV (G := G) (As := [.int statement]) (rest := []) (C := RST) ⟨hx, hb, hml, hown, hts⟩ (c_ST_placeOf l G bS adS ss statement _ _ (ro_keep hS hvS hro_ss) hsS _ rfl) (cwV 1 hts (gd_V ml_TL_149 im_ST_placeOf sl_ST_placeOf ini_ST k_ST_placeOf) rfl rmK_c rmK_s (by decide +kernel) ⟨Nat.le_of_ble_eq_true rfl, Nat.le_of_ble_eq_true rfl⟩) hK (pST_recv hK (ro_keep hS hvS hro_ss) hsS) hS ⟨Nat.le.intro hk, Nat.le.intro hk⟩ rfl hl.1 (Nat.le_of_ble_eq_true rfl) d_TL_numberOfNew_16 (fun locs hS => ?_)
    refine lv_iconst (v := 1) hx hb d_TL_numberOfNew_19 (by decide) ?_
    refine lv_iadd hx hb d_TL_numberOfNew_20 ?_
    subst hr0
    refine W.widen (k := Kt) (n := Kt) (Nat.le.intro hk) (Nat.le.intro hk) ?_
    exact W.iret (v := ((A_ST_placeOf ss statement) + 1)) hx hb hr (fun t ht hW => ⟨⟨((A_ST_placeOf ss statement) + 1), [[(h0, .inr (4, [.ref bS, .ref bR, .ref (ad 0), .ref (ad 1), .ref (ad 2), .ref (ad 3), .int (gTL_rowTold σ), .int (gTL_savedRows σ), .ref (ad 4), .ref (ad 5), .ref (ad 6), .ref (ad 7), .ref (ad 8), .ref (ad 9)]))], w1, w3, w5, w7, w9, w11, w13, w15, w17, w19].flatten, rfl, ⟨rfl, ⟨w1, w3, w5, w7, w9, w11, w13, w15, w17, w19, rfl, h2, h4, h6, h8, h10, h12, h14, h16, h18, h20⟩⟩, by rw [ht]; exact hB.1, hB.2⟩, hS.F ht⟩) hS.2.2 d_TL_numberOfNew_21

theorem non_steps (σ : tTL) (ss : tST) (rr : tRW) (i : Int32) : gTL_steps (A_TL_numberOfNew σ ss rr i).2 = gTL_steps σ := by
  unfold A_TL_numberOfNew
  split <;> rfl
theorem non_stepsE {σ : tTL} {ss : tST} {rr : tRW} {i : Int32} {T : Int32 × tTL} (h : A_TL_numberOfNew σ ss rr i = T) : gTL_steps T.2 = gTL_steps σ := by
  rw [← h]
  exact non_steps σ ss rr i

def M_TL_numberStatements_L17 (ss : tST) (rr : tRW) (k : Int32) (τ : tTL) : Nat := ((A_IL_length (gTL_steps τ)).toInt - k.toInt).toNat
def A_TL_numberStatements_L17 (ss : tST) (rr : tRW) : Nat → Int32 → tTL → tTL
  | 0, _, τ => τ
  | n17 + 1, k, τ => if (A_IL_length (gTL_steps τ)) ≤ k then τ else (if (A_IL_at (gTL_steps τ) k) ≤ (-2) then (A_TL_numberStatements_L17 ss rr n17 (k + 1) τ) else (if (A_IL_at (gTL_numbers τ) (A_IL_at (gTL_steps τ) k)) = (-1) then (bnd (A_TL_numberOfNew τ ss rr (A_IL_at (gTL_steps τ) k)) (fun T47 => A_TL_numberStatements_L17 ss rr n17 (k + 1) (uTL_numbers T47.2 (A_IL_put (gTL_numbers T47.2) (A_IL_at (gTL_steps τ) k) T47.1)))) else (A_TL_numberStatements_L17 ss rr n17 (k + 1) τ)))
def K_TL_numberStatements_L17 (ss : tST) (rr : tRW) : Nat → Int32 → tTL → Nat
  | 0, _, _ => 0
  | n17 + 1, k, τ => if (A_IL_length (gTL_steps τ)) ≤ k then 0 else (if (A_IL_at (gTL_steps τ) k) ≤ (-2) then (K_TL_numberStatements_L17 ss rr n17 (k + 1) τ) else (if (A_IL_at (gTL_numbers τ) (A_IL_at (gTL_steps τ) k)) = (-1) then ((K_TL_numberOfNew τ ss rr (A_IL_at (gTL_steps τ) k)) + (bnd (A_TL_numberOfNew τ ss rr (A_IL_at (gTL_steps τ) k)) (fun T47 => K_TL_numberStatements_L17 ss rr n17 (k + 1) (uTL_numbers T47.2 (A_IL_put (gTL_numbers T47.2) (A_IL_at (gTL_steps τ) k) T47.1))))) else (K_TL_numberStatements_L17 ss rr n17 (k + 1) τ)))
def A_TL_numberStatements (σ : tTL) (ss : tST) (rr : tRW) : tTL := A_TL_numberStatements_L17 ss rr (M_TL_numberStatements_L17 ss rr 0 (uTL_numbers σ (A_IL_fill (gTL_numbers σ) (A_ST_amount ss) (-1))) + 1) 0 (uTL_numbers σ (A_IL_fill (gTL_numbers σ) (A_ST_amount ss) (-1)))
def K_TL_numberStatements (σ : tTL) (ss : tST) (rr : tRW) : Nat := (K_IL_fill (gTL_numbers σ) (A_ST_amount ss) (-1)) + (K_TL_numberStatements_L17 ss rr (M_TL_numberStatements_L17 ss rr 0 (uTL_numbers σ (A_IL_fill (gTL_numbers σ) (A_ST_amount ss) (-1))) + 1) 0 (uTL_numbers σ (A_IL_fill (gTL_numbers σ) (A_ST_amount ss) (-1))))
set_option maxHeartbeats 4000000 in
set_option maxRecDepth 100000 in
theorem c_TL_numberStatements (l : Launch) (G : pG) (h0 : Nat) (bS : Nat) (bR : Nat) (ad : Nat → Nat) (adL : Nat → Nat) (σ : tTL) (H : Heap) (w : va_W) (adS : Nat → Nat) (ss : tST) (vS : va_W) (hvS : va_P G.1 vwCl vS H) (hsS : pST G bS adS ss vS) (ap_ss : bk_ap w vS) (adR : Nat → Nat) (rr : tRW) (vR : va_W) (hvR : va_P G.1 vwCl vR H) (hrR : pRW G bR adR rr vR) (ap_rr : bk_ap w vR) (hP0 : va_P G.1 vwCl w H) (hD0 : va_D (fun _ => True) w) (hσ : pTL G h0 bS bR ad adL σ w) (res : tTL) (hr0 : A_TL_numberStatements σ ss rr = res) (Kt : Nat) (hk : K_TL_numberStatements σ ss rr = Kt) (hKb : Kt ≤ 16777216) : MWv l y_TL_numberStatements w_TL_numberStatements 4 126 Kt G [.ref h0] H w (pTL G h0 bS bR ad adL res) := by
  refine Met.ofW (cc := b_TL_numberStatements) (maxL := 3) (ret := none) (by decide) rfl ?_
  intro p e s m args below meth c s₁ B hml hv
  obtain ⟨rfl, rfl, hK⟩ := hv
  have hx := B.exec
  have hb := B.bytes
  have hr := B.returns
  have hts0 := atoms_spec (ws := w_TL_numberStatements) B.pre
  have hts := fun w (h : w ∈ lw_g) => hts0 w (List.mem_cons_of_mem _ h)
  have hown : s.vm.findClass RTL = some m.cls := findClass_of_methodNamed B.named
  have hlocks := B.notSynchronized
  have hA : ∀ q : Nat, s.heap.size ≤ q → va_A w s.heap.size q := fun _ h => Or.inr h
  have hro_ss := ro_A hvS ap_ss
  have hro_rr := ro_A hvR ap_rr
  have hB : bk G.1 vwCl (va_A w s.heap.size) [w] s.heap := bk_init hP0 hD0
  generalize va_A w s.heap.size = A at *
  have hS : va_S A s.heap s.heap [] := va_S.rf
  obtain ⟨w1, w3, w5, w7, w9, w11, w13, w15, w17, w19, rfl, h2, h4, h6, h8, h10, h12, h14, h16, h18, h20⟩ := hσ
  have hB := bk_many hB
  have hk : 0 + K_TL_numberStatements σ ss rr = Kt := (Nat.zero_add _).trans hk
  have hl := lv_entry ([.ref h0]) (n := 3) (Nat.le_of_ble_eq_true rfl)
  rw [lg_entry_eq]
  generalize (lg_sl ([.ref h0]) ++ List.replicate (3 - (lg_sl ([.ref h0])).length) Slot.unset).toArray = ls at hl ⊢
  have hl : lv_has ls 3 [(0, .ref h0)] := hl
  unfold A_TL_numberStatements at hr0
  unfold K_TL_numberStatements at hk
  refine lv_aload_n hx hb d_TL_numberStatements_0 rfl (lv_at hl 0 rfl) ?_
  refine va_get (D := G.1) (ci := 4) (v := .ref (ad 7)) (C := RTL) (T := TTL) (N := 14) hx hb hts inTL hown hK hB.1 0 rfl rfl 11 (by decide) (hts _ fl_TL_55) (fun _ h9 => h9) rfl d_TL_numberStatements_1 ?_
  refine lv_aload_n hx hb d_TL_numberStatements_4 rfl (lv_at hl 0 rfl) ?_
  refine va_get (D := G.1) (ci := 4) (v := .ref bS) (C := RTL) (T := TTL) (N := 14) hx hb hts inTL hown hK hB.1 0 rfl rfl 0 (by decide) (hts _ fl_TL_9) (fun _ h9 => h9) rfl d_TL_numberStatements_5 ?_
  refine rdV (G := G) (As := []) (rest := [.ref (ad 7)]) (C := RST) ⟨hx, hb, hml, hown, hts⟩ (c_ST_amount l G bS adS ss _ _ (ro_keep hS hvS hro_ss) hsS _ rfl) (cwV 0 hts (gd_V ml_TL_140 im_ST_amount sl_ST_amount ini_ST k_ST_amount) rfl rmK_c rmK_s (by decide +kernel) ⟨Nat.le_of_ble_eq_true rfl, Nat.le_of_ble_eq_true rfl⟩) hK (pST_recv hK (ro_keep hS hvS hro_ss) hsS) hS ⟨Nat.le.intro hk, Nat.le.intro hk⟩ rfl hl.1 (Nat.le_of_ble_eq_true rfl) d_TL_numberStatements_8 (fun locs hS => ?_)
  refine lv_iconst (v := (-1)) hx hb d_TL_numberStatements_11 (by decide) ?_
  refine wrV (G := G) (k := 8) (As := [.int (A_ST_amount ss), .int (-1)]) (rest := []) (C := RIL) ⟨hx, hb, hml, hown, hts⟩ (c_IL_fill l G (ad 7) (gTL_numbers σ) (A_ST_amount ss) (-1) _ _ (bk_gP (k := 8) hB.1 rfl) (bk_own (k := 8) hB rfl) h16 _ rfl _ rfl (bk_ub hk hKb)) (cwV 2 hts (gd_V ml_TL_103 im_IL_fill sl_IL_fill ini_IL k_IL_fill) rfl rmK_c rmK_s (by decide +kernel) ⟨Nat.le_of_ble_eq_true rfl, Nat.le_of_ble_eq_true rfl⟩) hK (pIL_recv hK (bk_gP (k := 8) hB.1 rfl) h16) hS hA hB rfl hk ⟨rfl, rfl⟩ rfl hl.1 (Nat.le_of_ble_eq_true rfl) d_TL_numberStatements_12 (fun u21 H locs kc hu22 hB hS hk => ?_)
  have hB : bk G.1 vwCl A [[(h0, .inr (4, [.ref bS, .ref bR, .ref (ad 0), .ref (ad 1), .ref (ad 2), .ref (ad 3), .int (gTL_rowTold σ), .int (gTL_savedRows σ), .ref (ad 4), .ref (ad 5), .ref (ad 6), .ref (ad 7), .ref (ad 8), .ref (ad 9)]))], w1, w3, w5, w7, w9, w11, w13, u21, w17, w19] H := hB
  refine lv_iconst (v := 0) hx hb d_TL_numberStatements_15 (by decide) ?_
  refine lv_istore_n (lv' := [(1, .int 0), (0, .ref h0)]) hx hb d_TL_numberStatements_16 rfl hl (by decide) rfl (fun ls hl => ?_)
  refine lp_W (I := fun n17 H locs kc ls => ∃ (k : Int32) (τ : tTL) (w : va_W), pTL G h0 bS bR ad adL τ w ∧ bk G.1 vwCl A [w] H ∧ va_S A s.heap H locs ∧ lv_has ls 3 [(0, .ref h0), (1, .int k)] ∧ A_TL_numberStatements_L17 ss rr n17 k τ = res ∧ kc + K_TL_numberStatements_L17 ss rr n17 k τ = Kt ∧ M_TL_numberStatements_L17 ss rr k τ < n17) ?_ ?_ (M_TL_numberStatements_L17 ss rr 0 (uTL_numbers σ (A_IL_fill (gTL_numbers σ) (A_ST_amount ss) (-1))) + 1) _ _ _ _ ⟨0, (uTL_numbers σ (A_IL_fill (gTL_numbers σ) (A_ST_amount ss) (-1))), _, ⟨w1, w3, w5, w7, w9, w11, w13, u21, w17, w19, rfl, h2, h4, h6, h8, h10, h12, h14, hu22, h18, h20⟩, bk_one hB, hS, lv_sub hl [1, 0] rfl, hr0, hk, Nat.lt_succ_self _⟩
  · intro n17 ih17 H locs kc ls ⟨k, τ, w, hτ, hB, hS, hl, hr0, hk, hm17⟩
    obtain ⟨w23, w25, w27, w29, w31, w33, w35, w37, w39, w41, rfl, h24, h26, h28, h30, h32, h34, h36, h38, h40, h42⟩ := hτ
    have hB := bk_many hB
    rw [A_TL_numberStatements_L17] at hr0
    rw [K_TL_numberStatements_L17] at hk
    refine lv_iload_n hx hb d_TL_numberStatements_17 rfl (lv_at hl 1 rfl) ?_
    refine lv_aload_n hx hb d_TL_numberStatements_18 rfl (lv_at hl 0 rfl) ?_
    refine va_get (D := G.1) (ci := 4) (v := .ref (ad 0)) (C := RTL) (T := TTL) (N := 14) hx hb hts inTL hown hK hB.1 0 rfl rfl 2 (by decide) (hts _ fl_TL_22) (fun _ h9 => h9) rfl d_TL_numberStatements_19 ?_
    refine rdV (G := G) (As := []) (rest := [.int k]) (C := RIL) ⟨hx, hb, hml, hown, hts⟩ (c_IL_length l G (ad 0) (gTL_steps τ) _ _ (bk_gP (k := 1) hB.1 rfl) h24 _ rfl) (cwV 0 hts (gd_V ml_TL_71 im_IL_length sl_IL_length ini_IL k_IL_length) rfl rmK_c rmK_s (by decide +kernel) ⟨Nat.le_of_ble_eq_true rfl, Nat.le_of_ble_eq_true rfl⟩) hK (pIL_recv hK (bk_gP (k := 1) hB.1 rfl) h24) hS ⟨Nat.le.intro hk, Nat.le.intro hk⟩ rfl hl.1 (Nat.le_of_ble_eq_true rfl) d_TL_numberStatements_22 (fun locs hS => ?_)
    refine lv_icmp_ge (tgt := 74) hx hb d_TL_numberStatements_25 (by decide) (fun c43 => ?_) (fun c43 => ?_)
    · have hr0 := ai_pos c43 hr0
      have hk := ki_pos c43 hk
      subst hr0
      refine W.widen (k := Kt) (n := Kt) (Nat.le.intro hk) (Nat.le.intro hk) ?_
      exact W.vret hx hb hr (fun t ht hW => ⟨⟨[[(h0, .inr (4, [.ref bS, .ref bR, .ref (ad 0), .ref (ad 1), .ref (ad 2), .ref (ad 3), .int (gTL_rowTold τ), .int (gTL_savedRows τ), .ref (ad 4), .ref (ad 5), .ref (ad 6), .ref (ad 7), .ref (ad 8), .ref (ad 9)]))], w23, w25, w27, w29, w31, w33, w35, w37, w39, w41].flatten, rfl, ⟨w23, w25, w27, w29, w31, w33, w35, w37, w39, w41, rfl, h24, h26, h28, h30, h32, h34, h36, h38, h40, h42⟩, by rw [ht]; exact hB.1, hB.2⟩, hS.F ht⟩) hS.2.2 d_TL_numberStatements_74
    · have hr0 := ai_neg c43 hr0
      have hk := ki_neg c43 hk
      refine lv_aload_n hx hb d_TL_numberStatements_28 rfl (lv_at hl 0 rfl) ?_
      refine va_get (D := G.1) (ci := 4) (v := .ref (ad 0)) (C := RTL) (T := TTL) (N := 14) hx hb hts inTL hown hK hB.1 0 rfl rfl 2 (by decide) (hts _ fl_TL_22) (fun _ h9 => h9) rfl d_TL_numberStatements_29 ?_
      refine lv_iload_n hx hb d_TL_numberStatements_32 rfl (lv_at hl 1 rfl) ?_
      refine rdV (G := G) (As := [.int k]) (rest := []) (C := RIL) ⟨hx, hb, hml, hown, hts⟩ (c_IL_at l G (ad 0) (gTL_steps τ) k _ _ (bk_gP (k := 1) hB.1 rfl) h24 _ rfl) (cwV 1 hts (gd_V ml_TL_78 im_IL_at sl_IL_at ini_IL k_IL_at) rfl rmK_c rmK_s (by decide +kernel) ⟨Nat.le_of_ble_eq_true rfl, Nat.le_of_ble_eq_true rfl⟩) hK (pIL_recv hK (bk_gP (k := 1) hB.1 rfl) h24) hS ⟨Nat.le.intro hk, Nat.le.intro hk⟩ rfl hl.1 (Nat.le_of_ble_eq_true rfl) d_TL_numberStatements_33 (fun locs hS => ?_)
      refine lv_istore_n (lv' := [(2, .int (A_IL_at (gTL_steps τ) k)), (0, .ref h0), (1, .int k)]) hx hb d_TL_numberStatements_36 rfl hl (by decide) rfl (fun ls hl => ?_)
      refine lv_iload_n hx hb d_TL_numberStatements_37 rfl (lv_at hl 0 rfl) ?_
      refine lv_bipush (v := (-2)) hx hb d_TL_numberStatements_38 (by decide) ?_
      refine lv_icmp_le (tgt := 68) hx hb d_TL_numberStatements_40 (by decide) (fun c44 => ?_) (fun c44 => ?_)
      · have hr0 := ai_pos c44 hr0
        have hk := ki_pos c44 hk
        refine lv_iinc (v := k + 1) (lv' := [(1, .int (k + 1)), (2, .int (A_IL_at (gTL_steps τ) k)), (0, .ref h0)]) hx hb d_TL_numberStatements_68 hl (k := 2) rfl rfl (by decide) rfl (fun ls hl => ?_)
        refine lv_goto (tgt := 17) hx hb d_TL_numberStatements_71 (by decide) ?_
        exact ih17 _ _ _ _ ⟨(k + 1), τ, _, ⟨w23, w25, w27, w29, w31, w33, w35, w37, w39, w41, rfl, h24, h26, h28, h30, h32, h34, h36, h38, h40, h42⟩, bk_one hB, hS, lv_sub hl [2, 0] rfl, hr0, hk, up_dec c43 hm17⟩
      · have hr0 := ai_neg c44 hr0
        have hk := ki_neg c44 hk
        refine lv_aload_n hx hb d_TL_numberStatements_43 rfl (lv_at hl 1 rfl) ?_
        refine va_get (D := G.1) (ci := 4) (v := .ref (ad 7)) (C := RTL) (T := TTL) (N := 14) hx hb hts inTL hown hK hB.1 0 rfl rfl 11 (by decide) (hts _ fl_TL_55) (fun _ h9 => h9) rfl d_TL_numberStatements_44 ?_
        refine lv_iload_n hx hb d_TL_numberStatements_47 rfl (lv_at hl 0 rfl) ?_
        refine rdV (G := G) (As := [.int (A_IL_at (gTL_steps τ) k)]) (rest := []) (C := RIL) ⟨hx, hb, hml, hown, hts⟩ (c_IL_at l G (ad 7) (gTL_numbers τ) (A_IL_at (gTL_steps τ) k) _ _ (bk_gP (k := 8) hB.1 rfl) h38 _ rfl) (cwV 1 hts (gd_V ml_TL_78 im_IL_at sl_IL_at ini_IL k_IL_at) rfl rmK_c rmK_s (by decide +kernel) ⟨Nat.le_of_ble_eq_true rfl, Nat.le_of_ble_eq_true rfl⟩) hK (pIL_recv hK (bk_gP (k := 8) hB.1 rfl) h38) hS ⟨Nat.le.intro hk, Nat.le.intro hk⟩ rfl hl.1 (Nat.le_of_ble_eq_true rfl) d_TL_numberStatements_48 (fun locs hS => ?_)
        refine lv_iconst (v := (-1)) hx hb d_TL_numberStatements_51 (by decide) ?_
        refine lv_icmp_ne (tgt := 68) hx hb d_TL_numberStatements_52 (by decide) (fun c45 => ?_) (fun c45 => ?_)
        · have hr0 := ai_neg c45 hr0
          have hk := ki_neg c45 hk
          refine lv_iinc (v := k + 1) (lv' := [(1, .int (k + 1)), (2, .int (A_IL_at (gTL_steps τ) k)), (0, .ref h0)]) hx hb d_TL_numberStatements_68 hl (k := 2) rfl rfl (by decide) rfl (fun ls hl => ?_)
          refine lv_goto (tgt := 17) hx hb d_TL_numberStatements_71 (by decide) ?_
          exact ih17 _ _ _ _ ⟨(k + 1), τ, _, ⟨w23, w25, w27, w29, w31, w33, w35, w37, w39, w41, rfl, h24, h26, h28, h30, h32, h34, h36, h38, h40, h42⟩, bk_one hB, hS, lv_sub hl [2, 0] rfl, hr0, hk, up_dec c43 hm17⟩
        · have hr0 := ai_pos c45 hr0
          have hk := ki_pos c45 hk
          refine lv_aload_n hx hb d_TL_numberStatements_55 rfl (lv_at hl 1 rfl) ?_
          refine va_get (D := G.1) (ci := 4) (v := .ref (ad 7)) (C := RTL) (T := TTL) (N := 14) hx hb hts inTL hown hK hB.1 0 rfl rfl 11 (by decide) (hts _ fl_TL_55) (fun _ h9 => h9) rfl d_TL_numberStatements_56 ?_
          refine lv_iload_n hx hb d_TL_numberStatements_59 rfl (lv_at hl 0 rfl) ?_
          refine lv_aload_n hx hb d_TL_numberStatements_60 rfl (lv_at hl 1 rfl) ?_
          refine lv_iload_n hx hb d_TL_numberStatements_61 rfl (lv_at hl 0 rfl) ?_
          have hB := bk_one hB
          have hpk46 : pTL G h0 bS bR ad adL τ ([[(h0, .inr (4, [.ref bS, .ref bR, .ref (ad 0), .ref (ad 1), .ref (ad 2), .ref (ad 3), .int (gTL_rowTold τ), .int (gTL_savedRows τ), .ref (ad 4), .ref (ad 5), .ref (ad 6), .ref (ad 7), .ref (ad 8), .ref (ad 9)]))], w23, w25, w27, w29, w31, w33, w35, w37, w39, w41].flatten) := ⟨w23, w25, w27, w29, w31, w33, w35, w37, w39, w41, rfl, h24, h26, h28, h30, h32, h34, h36, h38, h40, h42⟩
          obtain ⟨T47, hT48⟩ : ∃ z, A_TL_numberOfNew τ ss rr (A_IL_at (gTL_steps τ) k) = z := ⟨_, rfl⟩
          refine wrVi (G := G) (k := 0) (As := [.int (A_IL_at (gTL_steps τ) k)]) (rest := [.int (A_IL_at (gTL_steps τ) k), .ref (ad 7)]) (C := RTL) ⟨hx, hb, hml, hown, hts⟩ (c_TL_numberOfNew l G h0 bS bR ad adL τ (A_IL_at (gTL_steps τ) k) _ _ adS ss _ (ro_keep hS hvS hro_ss) hsS (bk_apA (k := 0) hB rfl hro_ss) adR rr _ (ro_keep hS hvR hro_rr) hrR (bk_apA (k := 0) hB rfl hro_rr) (bk_gP (k := 0) hB.1 rfl) (bk_own (k := 0) hB rfl) hpk46 T47 hT48 _ rfl (bk_ub hk hKb)) (cwV 1 hts (gd_V ml_TL_143 im_TL_numberOfNew sl_TL_numberOfNew ini_TL k_TL_numberOfNew) rfl rmK_c rmK_s (by decide +kernel) ⟨Nat.le_of_ble_eq_true rfl, Nat.le_of_ble_eq_true rfl⟩) hK (pTL_recv hK (bk_gP (k := 0) hB.1 rfl) hpk46) hS hA hB rfl hk ⟨rfl, rfl⟩ rfl hl.1 (Nat.le_of_ble_eq_true rfl) d_TL_numberStatements_62 (fun u49 H locs kc hu50 hB hS hk => ?_)
          have hr0 := bnd_e hT48 hr0
          have hk := bnd_k hT48 hk
          have hB : bk G.1 vwCl A [u49] H := hB
          obtain ⟨w51, w53, w55, w57, w59, w61, w63, w65, w67, w69, rfl, h52, h54, h56, h58, h60, h62, h64, h66, h68, h70⟩ := hu50
          have hB : bk G.1 vwCl A [[(h0, .inr (4, [.ref bS, .ref bR, .ref (ad 0), .ref (ad 1), .ref (ad 2), .ref (ad 3), .int (gTL_rowTold T47.2), .int (gTL_savedRows T47.2), .ref (ad 4), .ref (ad 5), .ref (ad 6), .ref (ad 7), .ref (ad 8), .ref (ad 9)]))], w51, w53, w55, w57, w59, w61, w63, w65, w67, w69] H := bk_many hB
          refine wrV0 (G := G) (k := 8) (As := [.int (A_IL_at (gTL_steps τ) k), .int T47.1]) (rest := []) (C := RIL) ⟨hx, hb, hml, hown, hts⟩ (c_IL_put l G (ad 7) (gTL_numbers T47.2) (A_IL_at (gTL_steps τ) k) T47.1 _ _ (bk_gP (k := 8) hB.1 rfl) (bk_own (k := 8) hB rfl) h66 _ rfl) (cwV 2 hts (gd_V ml_TL_114 im_IL_put sl_IL_put ini_IL k_IL_put) rfl rmK_c rmK_s (by decide +kernel) ⟨Nat.le_of_ble_eq_true rfl, Nat.le_of_ble_eq_true rfl⟩) hK (pIL_recv hK (bk_gP (k := 8) hB.1 rfl) h66) hS hA hB rfl hk ⟨rfl, rfl⟩ rfl hl.1 (Nat.le_of_ble_eq_true rfl) d_TL_numberStatements_65 (fun u71 H locs hu72 hB hS => ?_)
          have hB : bk G.1 vwCl A [[(h0, .inr (4, [.ref bS, .ref bR, .ref (ad 0), .ref (ad 1), .ref (ad 2), .ref (ad 3), .int (gTL_rowTold T47.2), .int (gTL_savedRows T47.2), .ref (ad 4), .ref (ad 5), .ref (ad 6), .ref (ad 7), .ref (ad 8), .ref (ad 9)]))], w51, w53, w55, w57, w59, w61, w63, u71, w67, w69] H := hB
          refine lv_iinc (v := k + 1) (lv' := [(1, .int (k + 1)), (2, .int (A_IL_at (gTL_steps τ) k)), (0, .ref h0)]) hx hb d_TL_numberStatements_68 hl (k := 2) rfl rfl (by decide) rfl (fun ls hl => ?_)
          refine lv_goto (tgt := 17) hx hb d_TL_numberStatements_71 (by decide) ?_
          exact ih17 _ _ _ _ ⟨(k + 1), (uTL_numbers T47.2 (A_IL_put (gTL_numbers T47.2) (A_IL_at (gTL_steps τ) k) T47.1)), _, ⟨w51, w53, w55, w57, w59, w61, w63, u71, w67, w69, rfl, h52, h54, h56, h58, h60, h62, h64, hu72, h68, h70⟩, bk_one hB, hS, lv_sub hl [2, 0] rfl, hr0, hk, up_decE c43 hm17 (congrArg A_IL_length (non_stepsE hT48))⟩
  · rintro H locs kc ls ⟨_, _, _, -, -, -, -, -, -, hz⟩; exact Nat.not_lt_zero _ hz

def M_TL_tellLetters_L20 (ss : tST) (rr : tRW) (behindLabels : Int32) (k : Int32) (τ : tTL) : Nat := ((A_IL_length (gTL_steps τ)).toInt - k.toInt).toNat
def A_TL_tellLetters_L20 (ss : tST) (rr : tRW) (behindLabels : Int32) : Nat → Int32 → tTL → tTL
  | 0, _, τ => τ
  | n20 + 1, k, τ => if (A_IL_length (gTL_steps τ)) ≤ k then τ else (if (-2) < (A_IL_at (gTL_steps τ) k) then (bnd (A_LL_addNumber (gTL_letters τ) (A_IL_at (gTL_numbers τ) (A_IL_at (gTL_steps τ) k))) (fun T43 => if (A_TL_isSavedAt (uTL_letters τ T43) k) = 0 then (A_TL_tellLetters_L20 ss rr behindLabels n20 (k + 1) (uTL_letters τ T43)) else (bnd (A_LL_addMark T43) (fun T49 => A_TL_tellLetters_L20 ss rr behindLabels n20 (k + 1) (uTL_letters (uTL_letters τ T43) T49))))) else (bnd (A_LL_addNumber (gTL_letters τ) ((behindLabels + (-2)) - (A_IL_at (gTL_steps τ) k))) (fun T53 => if (A_TL_isSavedAt (uTL_letters τ T53) k) = 0 then (A_TL_tellLetters_L20 ss rr behindLabels n20 (k + 1) (uTL_letters τ T53)) else (bnd (A_LL_addMark T53) (fun T59 => A_TL_tellLetters_L20 ss rr behindLabels n20 (k + 1) (uTL_letters (uTL_letters τ T53) T59))))))
def K_TL_tellLetters_L20 (ss : tST) (rr : tRW) (behindLabels : Int32) : Nat → Int32 → tTL → Nat
  | 0, _, _ => 0
  | n20 + 1, k, τ => if (A_IL_length (gTL_steps τ)) ≤ k then 0 else (if (-2) < (A_IL_at (gTL_steps τ) k) then ((K_LL_addNumber (gTL_letters τ) (A_IL_at (gTL_numbers τ) (A_IL_at (gTL_steps τ) k))) + (bnd (A_LL_addNumber (gTL_letters τ) (A_IL_at (gTL_numbers τ) (A_IL_at (gTL_steps τ) k))) (fun T43 => if (A_TL_isSavedAt (uTL_letters τ T43) k) = 0 then (K_TL_tellLetters_L20 ss rr behindLabels n20 (k + 1) (uTL_letters τ T43)) else ((K_LL_addMark T43) + (bnd (A_LL_addMark T43) (fun T49 => K_TL_tellLetters_L20 ss rr behindLabels n20 (k + 1) (uTL_letters (uTL_letters τ T43) T49))))))) else ((K_LL_addNumber (gTL_letters τ) ((behindLabels + (-2)) - (A_IL_at (gTL_steps τ) k))) + (bnd (A_LL_addNumber (gTL_letters τ) ((behindLabels + (-2)) - (A_IL_at (gTL_steps τ) k))) (fun T53 => if (A_TL_isSavedAt (uTL_letters τ T53) k) = 0 then (K_TL_tellLetters_L20 ss rr behindLabels n20 (k + 1) (uTL_letters τ T53)) else ((K_LL_addMark T53) + (bnd (A_LL_addMark T53) (fun T59 => K_TL_tellLetters_L20 ss rr behindLabels n20 (k + 1) (uTL_letters (uTL_letters τ T53) T59))))))))
def A_TL_tellLetters (σ : tTL) (ss : tST) (rr : tRW) : tTL := A_TL_tellLetters_L20 ss rr (((A_ST_mandatories ss) + (A_IL_length (gTL_labels σ))) + 1) (M_TL_tellLetters_L20 ss rr (((A_ST_mandatories ss) + (A_IL_length (gTL_labels σ))) + 1) 0 σ + 1) 0 σ
def K_TL_tellLetters (σ : tTL) (ss : tST) (rr : tRW) : Nat := K_TL_tellLetters_L20 ss rr (((A_ST_mandatories ss) + (A_IL_length (gTL_labels σ))) + 1) (M_TL_tellLetters_L20 ss rr (((A_ST_mandatories ss) + (A_IL_length (gTL_labels σ))) + 1) 0 σ + 1) 0 σ
set_option maxHeartbeats 4000000 in
set_option maxRecDepth 100000 in
theorem c_TL_tellLetters (l : Launch) (G : pG) (h0 : Nat) (bS : Nat) (bR : Nat) (ad : Nat → Nat) (adL : Nat → Nat) (σ : tTL) (H : Heap) (w : va_W) (adS : Nat → Nat) (ss : tST) (vS : va_W) (hvS : va_P G.1 vwCl vS H) (hsS : pST G bS adS ss vS) (ap_ss : bk_ap w vS) (adR : Nat → Nat) (rr : tRW) (vR : va_W) (hvR : va_P G.1 vwCl vR H) (hrR : pRW G bR adR rr vR) (ap_rr : bk_ap w vR) (hP0 : va_P G.1 vwCl w H) (hD0 : va_D (fun _ => True) w) (hσ : pTL G h0 bS bR ad adL σ w) (res : tTL) (hr0 : A_TL_tellLetters σ ss rr = res) (Kt : Nat) (hk : K_TL_tellLetters σ ss rr = Kt) (hKb : Kt ≤ 16777216) : MWv l y_TL_tellLetters w_TL_tellLetters 4 127 Kt G [.ref h0] H w (pTL G h0 bS bR ad adL res) := by
  refine Met.ofW (cc := b_TL_tellLetters) (maxL := 4) (ret := none) (by decide) rfl ?_
  intro p e s m args below meth c s₁ B hml hv
  obtain ⟨rfl, rfl, hK⟩ := hv
  have hx := B.exec
  have hb := B.bytes
  have hr := B.returns
  have hts0 := atoms_spec (ws := w_TL_tellLetters) B.pre
  have hts := fun w (h : w ∈ lw_g) => hts0 w (List.mem_cons_of_mem _ h)
  have hown : s.vm.findClass RTL = some m.cls := findClass_of_methodNamed B.named
  have hlocks := B.notSynchronized
  have hA : ∀ q : Nat, s.heap.size ≤ q → va_A w s.heap.size q := fun _ h => Or.inr h
  have hro_ss := ro_A hvS ap_ss
  have hro_rr := ro_A hvR ap_rr
  have hB : bk G.1 vwCl (va_A w s.heap.size) [w] s.heap := bk_init hP0 hD0
  generalize va_A w s.heap.size = A at *
  have hS : va_S A s.heap s.heap [] := va_S.rf
  obtain ⟨w1, w3, w5, w7, w9, w11, w13, w15, w17, w19, rfl, h2, h4, h6, h8, h10, h12, h14, h16, h18, h20⟩ := hσ
  have hB := bk_many hB
  have hk : 0 + K_TL_tellLetters σ ss rr = Kt := (Nat.zero_add _).trans hk
  have hl := lv_entry ([.ref h0]) (n := 4) (Nat.le_of_ble_eq_true rfl)
  rw [lg_entry_eq]
  generalize (lg_sl ([.ref h0]) ++ List.replicate (4 - (lg_sl ([.ref h0])).length) Slot.unset).toArray = ls at hl ⊢
  have hl : lv_has ls 4 [(0, .ref h0)] := hl
  unfold A_TL_tellLetters at hr0
  unfold K_TL_tellLetters at hk
  refine lv_aload_n hx hb d_TL_tellLetters_0 rfl (lv_at hl 0 rfl) ?_
  refine va_get (D := G.1) (ci := 4) (v := .ref bS) (C := RTL) (T := TTL) (N := 14) hx hb hts inTL hown hK hB.1 0 rfl rfl 0 (by decide) (hts _ fl_TL_9) (fun _ h9 => h9) rfl d_TL_tellLetters_1 ?_
  refine rdV (G := G) (As := []) (rest := []) (C := RST) ⟨hx, hb, hml, hown, hts⟩ (c_ST_mandatories l G bS adS ss _ _ (ro_keep hS hvS hro_ss) hsS _ rfl) (cwV 0 hts (gd_V ml_TL_152 im_ST_mandatories sl_ST_mandatories ini_ST k_ST_mandatories) rfl rmK_c rmK_s (by decide +kernel) ⟨Nat.le_of_ble_eq_true rfl, Nat.le_of_ble_eq_true rfl⟩) hK (pST_recv hK (ro_keep hS hvS hro_ss) hsS) hS ⟨Nat.le.intro hk, Nat.le.intro hk⟩ rfl hl.1 (Nat.le_of_ble_eq_true rfl) d_TL_tellLetters_4 (fun locs hS => ?_)
  refine lv_aload_n hx hb d_TL_tellLetters_7 rfl (lv_at hl 0 rfl) ?_
  refine va_get (D := G.1) (ci := 4) (v := .ref (ad 2)) (C := RTL) (T := TTL) (N := 14) hx hb hts inTL hown hK hB.1 0 rfl rfl 4 (by decide) (hts _ fl_TL_29) (fun _ h9 => h9) rfl d_TL_tellLetters_8 ?_
  refine rdV (G := G) (As := []) (rest := [.int (A_ST_mandatories ss)]) (C := RIL) ⟨hx, hb, hml, hown, hts⟩ (c_IL_length l G (ad 2) (gTL_labels σ) _ _ (bk_gP (k := 3) hB.1 rfl) h6 _ rfl) (cwV 0 hts (gd_V ml_TL_71 im_IL_length sl_IL_length ini_IL k_IL_length) rfl rmK_c rmK_s (by decide +kernel) ⟨Nat.le_of_ble_eq_true rfl, Nat.le_of_ble_eq_true rfl⟩) hK (pIL_recv hK (bk_gP (k := 3) hB.1 rfl) h6) hS ⟨Nat.le.intro hk, Nat.le.intro hk⟩ rfl hl.1 (Nat.le_of_ble_eq_true rfl) d_TL_tellLetters_11 (fun locs hS => ?_)
  refine lv_iadd hx hb d_TL_tellLetters_14 ?_
  refine lv_iconst (v := 1) hx hb d_TL_tellLetters_15 (by decide) ?_
  refine lv_iadd hx hb d_TL_tellLetters_16 ?_
  refine lv_istore_n (lv' := [(1, .int (((A_ST_mandatories ss) + (A_IL_length (gTL_labels σ))) + 1)), (0, .ref h0)]) hx hb d_TL_tellLetters_17 rfl hl (by decide) rfl (fun ls hl => ?_)
  refine lv_iconst (v := 0) hx hb d_TL_tellLetters_18 (by decide) ?_
  refine lv_istore_n (lv' := [(2, .int 0), (1, .int (((A_ST_mandatories ss) + (A_IL_length (gTL_labels σ))) + 1)), (0, .ref h0)]) hx hb d_TL_tellLetters_19 rfl hl (by decide) rfl (fun ls hl => ?_)
  refine lp_W (I := fun n20 H locs kc ls => ∃ (k : Int32) (τ : tTL) (w : va_W), pTL G h0 bS bR ad adL τ w ∧ bk G.1 vwCl A [w] H ∧ va_S A s.heap H locs ∧ lv_has ls 4 [(0, .ref h0), (1, .int (((A_ST_mandatories ss) + (A_IL_length (gTL_labels σ))) + 1)), (2, .int k)] ∧ A_TL_tellLetters_L20 ss rr (((A_ST_mandatories ss) + (A_IL_length (gTL_labels σ))) + 1) n20 k τ = res ∧ kc + K_TL_tellLetters_L20 ss rr (((A_ST_mandatories ss) + (A_IL_length (gTL_labels σ))) + 1) n20 k τ = Kt ∧ M_TL_tellLetters_L20 ss rr (((A_ST_mandatories ss) + (A_IL_length (gTL_labels σ))) + 1) k τ < n20) ?_ ?_ (M_TL_tellLetters_L20 ss rr (((A_ST_mandatories ss) + (A_IL_length (gTL_labels σ))) + 1) 0 σ + 1) _ _ _ _ ⟨0, σ, _, ⟨w1, w3, w5, w7, w9, w11, w13, w15, w17, w19, rfl, h2, h4, h6, h8, h10, h12, h14, h16, h18, h20⟩, bk_one hB, hS, lv_sub hl [2, 1, 0] rfl, hr0, hk, Nat.lt_succ_self _⟩
  · intro n20 ih20 H locs kc ls ⟨k, τ, w, hτ, hB, hS, hl, hr0, hk, hm20⟩
    obtain ⟨w21, w23, w25, w27, w29, w31, w33, w35, w37, w39, rfl, h22, h24, h26, h28, h30, h32, h34, h36, h38, h40⟩ := hτ
    have hB := bk_many hB
    rw [A_TL_tellLetters_L20] at hr0
    rw [K_TL_tellLetters_L20] at hk
    refine lv_iload_n hx hb d_TL_tellLetters_20 rfl (lv_at hl 2 rfl) ?_
    refine lv_aload_n hx hb d_TL_tellLetters_21 rfl (lv_at hl 0 rfl) ?_
    refine va_get (D := G.1) (ci := 4) (v := .ref (ad 0)) (C := RTL) (T := TTL) (N := 14) hx hb hts inTL hown hK hB.1 0 rfl rfl 2 (by decide) (hts _ fl_TL_22) (fun _ h9 => h9) rfl d_TL_tellLetters_22 ?_
    refine rdV (G := G) (As := []) (rest := [.int k]) (C := RIL) ⟨hx, hb, hml, hown, hts⟩ (c_IL_length l G (ad 0) (gTL_steps τ) _ _ (bk_gP (k := 1) hB.1 rfl) h22 _ rfl) (cwV 0 hts (gd_V ml_TL_71 im_IL_length sl_IL_length ini_IL k_IL_length) rfl rmK_c rmK_s (by decide +kernel) ⟨Nat.le_of_ble_eq_true rfl, Nat.le_of_ble_eq_true rfl⟩) hK (pIL_recv hK (bk_gP (k := 1) hB.1 rfl) h22) hS ⟨Nat.le.intro hk, Nat.le.intro hk⟩ rfl hl.1 (Nat.le_of_ble_eq_true rfl) d_TL_tellLetters_25 (fun locs hS => ?_)
    refine lv_icmp_ge (tgt := 98) hx hb d_TL_tellLetters_28 (by decide) (fun c41 => ?_) (fun c41 => ?_)
    · have hr0 := ai_pos c41 hr0
      have hk := ki_pos c41 hk
      subst hr0
      refine W.widen (k := Kt) (n := Kt) (Nat.le.intro hk) (Nat.le.intro hk) ?_
      exact W.vret hx hb hr (fun t ht hW => ⟨⟨[[(h0, .inr (4, [.ref bS, .ref bR, .ref (ad 0), .ref (ad 1), .ref (ad 2), .ref (ad 3), .int (gTL_rowTold τ), .int (gTL_savedRows τ), .ref (ad 4), .ref (ad 5), .ref (ad 6), .ref (ad 7), .ref (ad 8), .ref (ad 9)]))], w21, w23, w25, w27, w29, w31, w33, w35, w37, w39].flatten, rfl, ⟨w21, w23, w25, w27, w29, w31, w33, w35, w37, w39, rfl, h22, h24, h26, h28, h30, h32, h34, h36, h38, h40⟩, by rw [ht]; exact hB.1, hB.2⟩, hS.F ht⟩) hS.2.2 d_TL_tellLetters_98
    · have hr0 := ai_neg c41 hr0
      have hk := ki_neg c41 hk
      refine lv_aload_n hx hb d_TL_tellLetters_31 rfl (lv_at hl 0 rfl) ?_
      refine va_get (D := G.1) (ci := 4) (v := .ref (ad 0)) (C := RTL) (T := TTL) (N := 14) hx hb hts inTL hown hK hB.1 0 rfl rfl 2 (by decide) (hts _ fl_TL_22) (fun _ h9 => h9) rfl d_TL_tellLetters_32 ?_
      refine lv_iload_n hx hb d_TL_tellLetters_35 rfl (lv_at hl 2 rfl) ?_
      refine rdV (G := G) (As := [.int k]) (rest := []) (C := RIL) ⟨hx, hb, hml, hown, hts⟩ (c_IL_at l G (ad 0) (gTL_steps τ) k _ _ (bk_gP (k := 1) hB.1 rfl) h22 _ rfl) (cwV 1 hts (gd_V ml_TL_78 im_IL_at sl_IL_at ini_IL k_IL_at) rfl rmK_c rmK_s (by decide +kernel) ⟨Nat.le_of_ble_eq_true rfl, Nat.le_of_ble_eq_true rfl⟩) hK (pIL_recv hK (bk_gP (k := 1) hB.1 rfl) h22) hS ⟨Nat.le.intro hk, Nat.le.intro hk⟩ rfl hl.1 (Nat.le_of_ble_eq_true rfl) d_TL_tellLetters_36 (fun locs hS => ?_)
      refine lv_istore_n (lv' := [(3, .int (A_IL_at (gTL_steps τ) k)), (0, .ref h0), (1, .int (((A_ST_mandatories ss) + (A_IL_length (gTL_labels σ))) + 1)), (2, .int k)]) hx hb d_TL_tellLetters_39 rfl hl (by decide) rfl (fun ls hl => ?_)
      refine lv_iload_n hx hb d_TL_tellLetters_40 rfl (lv_at hl 0 rfl) ?_
      refine lv_bipush (v := (-2)) hx hb d_TL_tellLetters_41 (by decide) ?_
      refine lv_icmp_gt (tgt := 62) hx hb d_TL_tellLetters_43 (by decide) (fun c42 => ?_) (fun c42 => ?_)
      · have hr0 := ai_pos c42 hr0
        have hk := ki_pos c42 hk
        refine lv_aload_n hx hb d_TL_tellLetters_62 rfl (lv_at hl 1 rfl) ?_
        refine va_get (D := G.1) (ci := 4) (v := .ref (ad 3)) (C := RTL) (T := TTL) (N := 14) hx hb hts inTL hown hK hB.1 0 rfl rfl 5 (by decide) (hts _ fl_TL_35) (fun _ h9 => h9) rfl d_TL_tellLetters_63 ?_
        refine lv_aload_n hx hb d_TL_tellLetters_66 rfl (lv_at hl 1 rfl) ?_
        refine va_get (D := G.1) (ci := 4) (v := .ref (ad 7)) (C := RTL) (T := TTL) (N := 14) hx hb hts inTL hown hK hB.1 0 rfl rfl 11 (by decide) (hts _ fl_TL_55) (fun _ h9 => h9) rfl d_TL_tellLetters_67 ?_
        refine lv_iload_n hx hb d_TL_tellLetters_70 rfl (lv_at hl 0 rfl) ?_
        refine rdV (G := G) (As := [.int (A_IL_at (gTL_steps τ) k)]) (rest := [.ref (ad 3)]) (C := RIL) ⟨hx, hb, hml, hown, hts⟩ (c_IL_at l G (ad 7) (gTL_numbers τ) (A_IL_at (gTL_steps τ) k) _ _ (bk_gP (k := 8) hB.1 rfl) h36 _ rfl) (cwV 1 hts (gd_V ml_TL_78 im_IL_at sl_IL_at ini_IL k_IL_at) rfl rmK_c rmK_s (by decide +kernel) ⟨Nat.le_of_ble_eq_true rfl, Nat.le_of_ble_eq_true rfl⟩) hK (pIL_recv hK (bk_gP (k := 8) hB.1 rfl) h36) hS ⟨Nat.le.intro hk, Nat.le.intro hk⟩ rfl hl.1 (Nat.le_of_ble_eq_true rfl) d_TL_tellLetters_71 (fun locs hS => ?_)
        obtain ⟨T43, hT44⟩ : ∃ z, A_LL_addNumber (gTL_letters τ) (A_IL_at (gTL_numbers τ) (A_IL_at (gTL_steps τ) k)) = z := ⟨_, rfl⟩
        refine wrV (G := G) (k := 4) (As := [.int (A_IL_at (gTL_numbers τ) (A_IL_at (gTL_steps τ) k))]) (rest := []) (C := RLL) ⟨hx, hb, hml, hown, hts⟩ (c_LL_addNumber l G (ad 3) adL (gTL_letters τ) (A_IL_at (gTL_numbers τ) (A_IL_at (gTL_steps τ) k)) _ _ (bk_gP (k := 4) hB.1 rfl) (bk_own (k := 4) hB rfl) h28 T43 hT44 _ rfl (bk_ub hk hKb)) (cwV 1 hts (gd_V ml_TL_155 im_LL_addNumber sl_LL_addNumber ini_LL k_LL_addNumber) rfl rmK_c rmK_s (by decide +kernel) ⟨Nat.le_of_ble_eq_true rfl, Nat.le_of_ble_eq_true rfl⟩) hK (pLL_recv hK (bk_gP (k := 4) hB.1 rfl) h28) hS hA hB rfl hk ⟨rfl, rfl⟩ rfl hl.1 (Nat.le_of_ble_eq_true rfl) d_TL_tellLetters_74 (fun u45 H locs kc hu46 hB hS hk => ?_)
        have hr0 := bnd_e hT44 hr0
        have hk := bnd_k hT44 hk
        have hB : bk G.1 vwCl A [[(h0, .inr (4, [.ref bS, .ref bR, .ref (ad 0), .ref (ad 1), .ref (ad 2), .ref (ad 3), .int (gTL_rowTold τ), .int (gTL_savedRows τ), .ref (ad 4), .ref (ad 5), .ref (ad 6), .ref (ad 7), .ref (ad 8), .ref (ad 9)]))], w21, w23, w25, u45, w29, w31, w33, w35, w37, w39] H := hB
        refine lv_aload_n hx hb d_TL_tellLetters_77 rfl (lv_at hl 1 rfl) ?_
        refine lv_iload_n hx hb d_TL_tellLetters_78 rfl (lv_at hl 3 rfl) ?_
        have hpk47 : pTL G h0 bS bR ad adL (uTL_letters τ T43) ([[(h0, .inr (4, [.ref bS, .ref bR, .ref (ad 0), .ref (ad 1), .ref (ad 2), .ref (ad 3), .int (gTL_rowTold τ), .int (gTL_savedRows τ), .ref (ad 4), .ref (ad 5), .ref (ad 6), .ref (ad 7), .ref (ad 8), .ref (ad 9)]))], w21, w23, w25, u45, w29, w31, w33, w35, w37, w39].flatten) := ⟨w21, w23, w25, u45, w29, w31, w33, w35, w37, w39, rfl, h22, h24, h26, hu46, h30, h32, h34, h36, h38, h40⟩
        refine rdV (G := G) (As := [.int k]) (rest := []) (C := RTL) ⟨hx, hb, hml, hown, hts⟩ (c_TL_isSavedAt l G h0 bS bR ad adL (uTL_letters τ T43) k _ _ hB.1 hpk47 _ rfl) (cwV 1 hts (gd_V ml_TL_136 im_TL_isSavedAt sl_TL_isSavedAt ini_TL k_TL_isSavedAt) rfl rmK_c rmK_s (by decide +kernel) ⟨Nat.le_of_ble_eq_true rfl, Nat.le_of_ble_eq_true rfl⟩) hK (pTL_recv hK hB.1 hpk47) hS ⟨Nat.le.intro hk, Nat.le.intro hk⟩ rfl hl.1 (Nat.le_of_ble_eq_true rfl) d_TL_tellLetters_79 (fun locs hS => ?_)
        refine lv_if_eq (tgt := 92) hx hb d_TL_tellLetters_82 (by decide) (fun c48 => ?_) (fun c48 => ?_)
        · have hr0 := ai_pos c48 hr0
          have hk := ki_pos c48 hk
          refine lv_iinc (v := k + 1) (lv' := [(2, .int (k + 1)), (3, .int (A_IL_at (gTL_steps τ) k)), (0, .ref h0), (1, .int (((A_ST_mandatories ss) + (A_IL_length (gTL_labels σ))) + 1))]) hx hb d_TL_tellLetters_92 hl (k := 3) rfl rfl (by decide) rfl (fun ls hl => ?_)
          refine lv_goto (tgt := 20) hx hb d_TL_tellLetters_95 (by decide) ?_
          exact ih20 _ _ _ _ ⟨(k + 1), (uTL_letters τ T43), _, ⟨w21, w23, w25, u45, w29, w31, w33, w35, w37, w39, rfl, h22, h24, h26, hu46, h30, h32, h34, h36, h38, h40⟩, bk_one hB, hS, lv_sub hl [2, 3, 0] rfl, hr0, hk, up_dec c41 hm20⟩
        · have hr0 := ai_neg c48 hr0
          have hk := ki_neg c48 hk
          refine lv_aload_n hx hb d_TL_tellLetters_85 rfl (lv_at hl 1 rfl) ?_
          refine va_get (D := G.1) (ci := 4) (v := .ref (ad 3)) (C := RTL) (T := TTL) (N := 14) hx hb hts inTL hown hK hB.1 0 rfl rfl 5 (by decide) (hts _ fl_TL_35) (fun _ h9 => h9) rfl d_TL_tellLetters_86 ?_
          obtain ⟨T49, hT50⟩ : ∃ z, A_LL_addMark T43 = z := ⟨_, rfl⟩
          refine wrV (G := G) (k := 4) (As := []) (rest := []) (C := RLL) ⟨hx, hb, hml, hown, hts⟩ (c_LL_addMark l G (ad 3) adL T43 _ _ (bk_gP (k := 4) hB.1 rfl) (bk_own (k := 4) hB rfl) hu46 T49 hT50 _ rfl (bk_ub hk hKb)) (cwV 0 hts (gd_V ml_TL_158 im_LL_addMark sl_LL_addMark ini_LL k_LL_addMark) rfl rmK_c rmK_s (by decide +kernel) ⟨Nat.le_of_ble_eq_true rfl, Nat.le_of_ble_eq_true rfl⟩) hK (pLL_recv hK (bk_gP (k := 4) hB.1 rfl) hu46) hS hA hB rfl hk ⟨rfl, rfl⟩ rfl hl.1 (Nat.le_of_ble_eq_true rfl) d_TL_tellLetters_89 (fun u51 H locs kc hu52 hB hS hk => ?_)
          have hr0 := bnd_e hT50 hr0
          have hk := bnd_k hT50 hk
          have hB : bk G.1 vwCl A [[(h0, .inr (4, [.ref bS, .ref bR, .ref (ad 0), .ref (ad 1), .ref (ad 2), .ref (ad 3), .int (gTL_rowTold τ), .int (gTL_savedRows τ), .ref (ad 4), .ref (ad 5), .ref (ad 6), .ref (ad 7), .ref (ad 8), .ref (ad 9)]))], w21, w23, w25, u51, w29, w31, w33, w35, w37, w39] H := hB
          refine lv_iinc (v := k + 1) (lv' := [(2, .int (k + 1)), (3, .int (A_IL_at (gTL_steps τ) k)), (0, .ref h0), (1, .int (((A_ST_mandatories ss) + (A_IL_length (gTL_labels σ))) + 1))]) hx hb d_TL_tellLetters_92 hl (k := 3) rfl rfl (by decide) rfl (fun ls hl => ?_)
          refine lv_goto (tgt := 20) hx hb d_TL_tellLetters_95 (by decide) ?_
          exact ih20 _ _ _ _ ⟨(k + 1), (uTL_letters (uTL_letters τ T43) T49), _, ⟨w21, w23, w25, u51, w29, w31, w33, w35, w37, w39, rfl, h22, h24, h26, hu52, h30, h32, h34, h36, h38, h40⟩, bk_one hB, hS, lv_sub hl [2, 3, 0] rfl, hr0, hk, up_dec c41 hm20⟩
      · have hr0 := ai_neg c42 hr0
        have hk := ki_neg c42 hk
        refine lv_aload_n hx hb d_TL_tellLetters_46 rfl (lv_at hl 1 rfl) ?_
        refine va_get (D := G.1) (ci := 4) (v := .ref (ad 3)) (C := RTL) (T := TTL) (N := 14) hx hb hts inTL hown hK hB.1 0 rfl rfl 5 (by decide) (hts _ fl_TL_35) (fun _ h9 => h9) rfl d_TL_tellLetters_47 ?_
        refine lv_iload_n hx hb d_TL_tellLetters_50 rfl (lv_at hl 2 rfl) ?_
        refine lv_bipush (v := (-2)) hx hb d_TL_tellLetters_51 (by decide) ?_
        refine lv_iadd hx hb d_TL_tellLetters_53 ?_
        refine lv_iload_n hx hb d_TL_tellLetters_54 rfl (lv_at hl 0 rfl) ?_
        refine lv_isub hx hb d_TL_tellLetters_55 ?_
        obtain ⟨T53, hT54⟩ : ∃ z, A_LL_addNumber (gTL_letters τ) (((((A_ST_mandatories ss) + (A_IL_length (gTL_labels σ))) + 1) + (-2)) - (A_IL_at (gTL_steps τ) k)) = z := ⟨_, rfl⟩
        refine wrV (G := G) (k := 4) (As := [.int (((((A_ST_mandatories ss) + (A_IL_length (gTL_labels σ))) + 1) + (-2)) - (A_IL_at (gTL_steps τ) k))]) (rest := []) (C := RLL) ⟨hx, hb, hml, hown, hts⟩ (c_LL_addNumber l G (ad 3) adL (gTL_letters τ) (((((A_ST_mandatories ss) + (A_IL_length (gTL_labels σ))) + 1) + (-2)) - (A_IL_at (gTL_steps τ) k)) _ _ (bk_gP (k := 4) hB.1 rfl) (bk_own (k := 4) hB rfl) h28 T53 hT54 _ rfl (bk_ub hk hKb)) (cwV 1 hts (gd_V ml_TL_155 im_LL_addNumber sl_LL_addNumber ini_LL k_LL_addNumber) rfl rmK_c rmK_s (by decide +kernel) ⟨Nat.le_of_ble_eq_true rfl, Nat.le_of_ble_eq_true rfl⟩) hK (pLL_recv hK (bk_gP (k := 4) hB.1 rfl) h28) hS hA hB rfl hk ⟨rfl, rfl⟩ rfl hl.1 (Nat.le_of_ble_eq_true rfl) d_TL_tellLetters_56 (fun u55 H locs kc hu56 hB hS hk => ?_)
        have hr0 := bnd_e hT54 hr0
        have hk := bnd_k hT54 hk
        have hB : bk G.1 vwCl A [[(h0, .inr (4, [.ref bS, .ref bR, .ref (ad 0), .ref (ad 1), .ref (ad 2), .ref (ad 3), .int (gTL_rowTold τ), .int (gTL_savedRows τ), .ref (ad 4), .ref (ad 5), .ref (ad 6), .ref (ad 7), .ref (ad 8), .ref (ad 9)]))], w21, w23, w25, u55, w29, w31, w33, w35, w37, w39] H := hB
        refine lv_goto (tgt := 77) hx hb d_TL_tellLetters_59 (by decide) ?_
        refine lv_aload_n hx hb d_TL_tellLetters_77 rfl (lv_at hl 1 rfl) ?_
        refine lv_iload_n hx hb d_TL_tellLetters_78 rfl (lv_at hl 3 rfl) ?_
        have hpk57 : pTL G h0 bS bR ad adL (uTL_letters τ T53) ([[(h0, .inr (4, [.ref bS, .ref bR, .ref (ad 0), .ref (ad 1), .ref (ad 2), .ref (ad 3), .int (gTL_rowTold τ), .int (gTL_savedRows τ), .ref (ad 4), .ref (ad 5), .ref (ad 6), .ref (ad 7), .ref (ad 8), .ref (ad 9)]))], w21, w23, w25, u55, w29, w31, w33, w35, w37, w39].flatten) := ⟨w21, w23, w25, u55, w29, w31, w33, w35, w37, w39, rfl, h22, h24, h26, hu56, h30, h32, h34, h36, h38, h40⟩
        refine rdV (G := G) (As := [.int k]) (rest := []) (C := RTL) ⟨hx, hb, hml, hown, hts⟩ (c_TL_isSavedAt l G h0 bS bR ad adL (uTL_letters τ T53) k _ _ hB.1 hpk57 _ rfl) (cwV 1 hts (gd_V ml_TL_136 im_TL_isSavedAt sl_TL_isSavedAt ini_TL k_TL_isSavedAt) rfl rmK_c rmK_s (by decide +kernel) ⟨Nat.le_of_ble_eq_true rfl, Nat.le_of_ble_eq_true rfl⟩) hK (pTL_recv hK hB.1 hpk57) hS ⟨Nat.le.intro hk, Nat.le.intro hk⟩ rfl hl.1 (Nat.le_of_ble_eq_true rfl) d_TL_tellLetters_79 (fun locs hS => ?_)
        refine lv_if_eq (tgt := 92) hx hb d_TL_tellLetters_82 (by decide) (fun c58 => ?_) (fun c58 => ?_)
        · have hr0 := ai_pos c58 hr0
          have hk := ki_pos c58 hk
          refine lv_iinc (v := k + 1) (lv' := [(2, .int (k + 1)), (3, .int (A_IL_at (gTL_steps τ) k)), (0, .ref h0), (1, .int (((A_ST_mandatories ss) + (A_IL_length (gTL_labels σ))) + 1))]) hx hb d_TL_tellLetters_92 hl (k := 3) rfl rfl (by decide) rfl (fun ls hl => ?_)
          refine lv_goto (tgt := 20) hx hb d_TL_tellLetters_95 (by decide) ?_
          exact ih20 _ _ _ _ ⟨(k + 1), (uTL_letters τ T53), _, ⟨w21, w23, w25, u55, w29, w31, w33, w35, w37, w39, rfl, h22, h24, h26, hu56, h30, h32, h34, h36, h38, h40⟩, bk_one hB, hS, lv_sub hl [2, 3, 0] rfl, hr0, hk, up_dec c41 hm20⟩
        · have hr0 := ai_neg c58 hr0
          have hk := ki_neg c58 hk
          refine lv_aload_n hx hb d_TL_tellLetters_85 rfl (lv_at hl 1 rfl) ?_
          refine va_get (D := G.1) (ci := 4) (v := .ref (ad 3)) (C := RTL) (T := TTL) (N := 14) hx hb hts inTL hown hK hB.1 0 rfl rfl 5 (by decide) (hts _ fl_TL_35) (fun _ h9 => h9) rfl d_TL_tellLetters_86 ?_
          obtain ⟨T59, hT60⟩ : ∃ z, A_LL_addMark T53 = z := ⟨_, rfl⟩
          refine wrV (G := G) (k := 4) (As := []) (rest := []) (C := RLL) ⟨hx, hb, hml, hown, hts⟩ (c_LL_addMark l G (ad 3) adL T53 _ _ (bk_gP (k := 4) hB.1 rfl) (bk_own (k := 4) hB rfl) hu56 T59 hT60 _ rfl (bk_ub hk hKb)) (cwV 0 hts (gd_V ml_TL_158 im_LL_addMark sl_LL_addMark ini_LL k_LL_addMark) rfl rmK_c rmK_s (by decide +kernel) ⟨Nat.le_of_ble_eq_true rfl, Nat.le_of_ble_eq_true rfl⟩) hK (pLL_recv hK (bk_gP (k := 4) hB.1 rfl) hu56) hS hA hB rfl hk ⟨rfl, rfl⟩ rfl hl.1 (Nat.le_of_ble_eq_true rfl) d_TL_tellLetters_89 (fun u61 H locs kc hu62 hB hS hk => ?_)
          have hr0 := bnd_e hT60 hr0
          have hk := bnd_k hT60 hk
          have hB : bk G.1 vwCl A [[(h0, .inr (4, [.ref bS, .ref bR, .ref (ad 0), .ref (ad 1), .ref (ad 2), .ref (ad 3), .int (gTL_rowTold τ), .int (gTL_savedRows τ), .ref (ad 4), .ref (ad 5), .ref (ad 6), .ref (ad 7), .ref (ad 8), .ref (ad 9)]))], w21, w23, w25, u61, w29, w31, w33, w35, w37, w39] H := hB
          refine lv_iinc (v := k + 1) (lv' := [(2, .int (k + 1)), (3, .int (A_IL_at (gTL_steps τ) k)), (0, .ref h0), (1, .int (((A_ST_mandatories ss) + (A_IL_length (gTL_labels σ))) + 1))]) hx hb d_TL_tellLetters_92 hl (k := 3) rfl rfl (by decide) rfl (fun ls hl => ?_)
          refine lv_goto (tgt := 20) hx hb d_TL_tellLetters_95 (by decide) ?_
          exact ih20 _ _ _ _ ⟨(k + 1), (uTL_letters (uTL_letters τ T53) T59), _, ⟨w21, w23, w25, u61, w29, w31, w33, w35, w37, w39, rfl, h22, h24, h26, hu62, h30, h32, h34, h36, h38, h40⟩, bk_one hB, hS, lv_sub hl [2, 3, 0] rfl, hr0, hk, up_dec c41 hm20⟩
  · rintro H locs kc ls ⟨_, _, _, -, -, -, -, -, -, hz⟩; exact Nat.not_lt_zero _ hz

def A_TL_tell (σ : tTL) (ss : tST) (rr : tRW) (r : Int32) : tTL := bnd (A_TL_forget σ) (fun T22 => bnd (A_TL_tellSteps (uTL_rowTold T22 r) ss rr) (fun T47 => bnd (A_TL_numberSavedRows T47) (fun T72 => bnd (A_TL_numberStatements T72 ss rr) (fun T97 => bnd (A_TL_tellLetters T97 ss rr) (fun T122 => T122)))))
def K_TL_tell (σ : tTL) (ss : tST) (rr : tRW) (r : Int32) : Nat := bnd (A_TL_forget σ) (fun T22 => (K_TL_tellSteps (uTL_rowTold T22 r) ss rr) + (bnd (A_TL_tellSteps (uTL_rowTold T22 r) ss rr) (fun T47 => bnd (A_TL_numberSavedRows T47) (fun T72 => (K_TL_numberStatements T72 ss rr) + (bnd (A_TL_numberStatements T72 ss rr) (fun T97 => (K_TL_tellLetters T97 ss rr) + (bnd (A_TL_tellLetters T97 ss rr) (fun T122 => 0))))))))
set_option maxHeartbeats 4000000 in
set_option maxRecDepth 100000 in
theorem c_TL_tell (l : Launch) (G : pG) (h0 : Nat) (bS : Nat) (bR : Nat) (ad : Nat → Nat) (adL : Nat → Nat) (σ : tTL) (r : Int32) (H : Heap) (w : va_W) (adS : Nat → Nat) (ss : tST) (vS : va_W) (hvS : va_P G.1 vwCl vS H) (hsS : pST G bS adS ss vS) (ap_ss : bk_ap w vS) (adR : Nat → Nat) (rr : tRW) (vR : va_W) (hvR : va_P G.1 vwCl vR H) (hrR : pRW G bR adR rr vR) (ap_rr : bk_ap w vR) (hP0 : va_P G.1 vwCl w H) (hD0 : va_D (fun _ => True) w) (hσ : pTL G h0 bS bR ad adL σ w) (res : tTL) (hr0 : A_TL_tell σ ss rr r = res) (Kt : Nat) (hk : K_TL_tell σ ss rr r = Kt) (hKb : Kt ≤ 16777216) : MWv l y_TL_tell w_TL_tell 6 170 Kt G [.ref h0, .int r] H w (pTL G h0 bS bR ad adL res) := by
  refine Met.ofW (cc := b_TL_tell) (maxL := 2) (ret := none) (by decide) rfl ?_
  intro p e s m args below meth c s₁ B hml hv
  obtain ⟨rfl, rfl, hK⟩ := hv
  have hx := B.exec
  have hb := B.bytes
  have hr := B.returns
  have hts0 := atoms_spec (ws := w_TL_tell) B.pre
  have hts := fun w (h : w ∈ lw_g) => hts0 w (List.mem_cons_of_mem _ h)
  have hown : s.vm.findClass RTL = some m.cls := findClass_of_methodNamed B.named
  have hlocks := B.notSynchronized
  have hA : ∀ q : Nat, s.heap.size ≤ q → va_A w s.heap.size q := fun _ h => Or.inr h
  have hro_ss := ro_A hvS ap_ss
  have hro_rr := ro_A hvR ap_rr
  have hB : bk G.1 vwCl (va_A w s.heap.size) [w] s.heap := bk_init hP0 hD0
  generalize va_A w s.heap.size = A at *
  have hS : va_S A s.heap s.heap [] := va_S.rf
  obtain ⟨w1, w3, w5, w7, w9, w11, w13, w15, w17, w19, rfl, h2, h4, h6, h8, h10, h12, h14, h16, h18, h20⟩ := hσ
  have hB := bk_many hB
  have hk : 0 + K_TL_tell σ ss rr r = Kt := (Nat.zero_add _).trans hk
  have hl := lv_entry ([.ref h0, .int r]) (n := 2) (Nat.le_of_ble_eq_true rfl)
  rw [lg_entry_eq]
  generalize (lg_sl ([.ref h0, .int r]) ++ List.replicate (2 - (lg_sl ([.ref h0, .int r])).length) Slot.unset).toArray = ls at hl ⊢
  have hl : lv_has ls 2 [(0, .ref h0), (1, .int r)] := hl
  unfold A_TL_tell at hr0
  unfold K_TL_tell at hk
  refine lv_aload_n hx hb d_TL_tell_0 rfl (lv_at hl 0 rfl) ?_
  have hB := bk_one hB
  have hpk21 : pTL G h0 bS bR ad adL σ ([[(h0, .inr (4, [.ref bS, .ref bR, .ref (ad 0), .ref (ad 1), .ref (ad 2), .ref (ad 3), .int (gTL_rowTold σ), .int (gTL_savedRows σ), .ref (ad 4), .ref (ad 5), .ref (ad 6), .ref (ad 7), .ref (ad 8), .ref (ad 9)]))], w1, w3, w5, w7, w9, w11, w13, w15, w17, w19].flatten) := ⟨w1, w3, w5, w7, w9, w11, w13, w15, w17, w19, rfl, h2, h4, h6, h8, h10, h12, h14, h16, h18, h20⟩
  obtain ⟨T22, hT23⟩ : ∃ z, A_TL_forget σ = z := ⟨_, rfl⟩
  refine wrV0 (G := G) (k := 0) (As := []) (rest := []) (C := RTL) ⟨hx, hb, hml, hown, hts⟩ (c_TL_forget l G h0 bS bR ad adL σ _ _ (bk_gP (k := 0) hB.1 rfl) (bk_own (k := 0) hB rfl) hpk21 T22 hT23) (cwV 0 hts (gd_V ml_TL_85 im_TL_forget sl_TL_forget ini_TL k_TL_forget) rfl rmK_c rmK_s (by decide +kernel) ⟨Nat.le_of_ble_eq_true rfl, Nat.le_of_ble_eq_true rfl⟩) hK (pTL_recv hK (bk_gP (k := 0) hB.1 rfl) hpk21) hS hA hB rfl hk ⟨rfl, rfl⟩ rfl hl.1 (Nat.le_of_ble_eq_true rfl) d_TL_tell_1 (fun u24 H locs hu25 hB hS => ?_)
  have hr0 := bnd_e hT23 hr0
  have hk := bnd_k hT23 hk
  have hB : bk G.1 vwCl A [u24] H := hB
  obtain ⟨w26, w28, w30, w32, w34, w36, w38, w40, w42, w44, rfl, h27, h29, h31, h33, h35, h37, h39, h41, h43, h45⟩ := hu25
  have hB : bk G.1 vwCl A [[(h0, .inr (4, [.ref bS, .ref bR, .ref (ad 0), .ref (ad 1), .ref (ad 2), .ref (ad 3), .int (gTL_rowTold T22), .int (gTL_savedRows T22), .ref (ad 4), .ref (ad 5), .ref (ad 6), .ref (ad 7), .ref (ad 8), .ref (ad 9)]))], w26, w28, w30, w32, w34, w36, w38, w40, w42, w44] H := bk_many hB
  refine lv_aload_n hx hb d_TL_tell_4 rfl (lv_at hl 0 rfl) ?_
  refine lv_iload_n hx hb d_TL_tell_5 rfl (lv_at hl 1 rfl) ?_
  refine va_put (D := G.1) (ci := 4) (v := .int r) (ty := .int) (C := RTL) (T := TTL) (N := 14) hx hb hts inTL tyTL tokTL nmTL hown hK hB.1 hB.2 hS 0 rfl rfl 6 (by decide) (hts _ fl_TL_39) (fun _ h9 => h9) rfl (by decide +kernel) rfl rfl (Nat.le_of_ble_eq_true rfl) d_TL_tell_6 (fun H locs hP hD hS => ?_)
  have hB : bk G.1 vwCl A [[(h0, .inr (4, [.ref bS, .ref bR, .ref (ad 0), .ref (ad 1), .ref (ad 2), .ref (ad 3), .int r, .int (gTL_savedRows T22), .ref (ad 4), .ref (ad 5), .ref (ad 6), .ref (ad 7), .ref (ad 8), .ref (ad 9)]))], w26, w28, w30, w32, w34, w36, w38, w40, w42, w44] H := ⟨hP, hD⟩
  refine lv_aload_n hx hb d_TL_tell_9 rfl (lv_at hl 0 rfl) ?_
  have hB := bk_one hB
  have hpk46 : pTL G h0 bS bR ad adL (uTL_rowTold T22 r) ([[(h0, .inr (4, [.ref bS, .ref bR, .ref (ad 0), .ref (ad 1), .ref (ad 2), .ref (ad 3), .int r, .int (gTL_savedRows T22), .ref (ad 4), .ref (ad 5), .ref (ad 6), .ref (ad 7), .ref (ad 8), .ref (ad 9)]))], w26, w28, w30, w32, w34, w36, w38, w40, w42, w44].flatten) := ⟨w26, w28, w30, w32, w34, w36, w38, w40, w42, w44, rfl, h27, h29, h31, h33, h35, h37, h39, h41, h43, h45⟩
  obtain ⟨T47, hT48⟩ : ∃ z, A_TL_tellSteps (uTL_rowTold T22 r) ss rr = z := ⟨_, rfl⟩
  refine wrV (G := G) (k := 0) (As := []) (rest := []) (C := RTL) ⟨hx, hb, hml, hown, hts⟩ (c_TL_tellSteps l G h0 bS bR ad adL (uTL_rowTold T22 r) _ _ adS ss _ (ro_keep hS hvS hro_ss) hsS (bk_apA (k := 0) hB rfl hro_ss) adR rr _ (ro_keep hS hvR hro_rr) hrR (bk_apA (k := 0) hB rfl hro_rr) (bk_gP (k := 0) hB.1 rfl) (bk_own (k := 0) hB rfl) hpk46 T47 hT48 _ rfl (bk_ub hk hKb)) (cwV 0 hts (gd_V ml_TL_86 im_TL_tellSteps sl_TL_tellSteps ini_TL k_TL_tellSteps) rfl rmK_c rmK_s (by decide +kernel) ⟨Nat.le_of_ble_eq_true rfl, Nat.le_of_ble_eq_true rfl⟩) hK (pTL_recv hK (bk_gP (k := 0) hB.1 rfl) hpk46) hS hA hB rfl hk ⟨rfl, rfl⟩ rfl hl.1 (Nat.le_of_ble_eq_true rfl) d_TL_tell_10 (fun u49 H locs kc hu50 hB hS hk => ?_)
  have hr0 := bnd_e hT48 hr0
  have hk := bnd_k hT48 hk
  have hB : bk G.1 vwCl A [u49] H := hB
  obtain ⟨w51, w53, w55, w57, w59, w61, w63, w65, w67, w69, rfl, h52, h54, h56, h58, h60, h62, h64, h66, h68, h70⟩ := hu50
  have hB : bk G.1 vwCl A [[(h0, .inr (4, [.ref bS, .ref bR, .ref (ad 0), .ref (ad 1), .ref (ad 2), .ref (ad 3), .int (gTL_rowTold T47), .int (gTL_savedRows T47), .ref (ad 4), .ref (ad 5), .ref (ad 6), .ref (ad 7), .ref (ad 8), .ref (ad 9)]))], w51, w53, w55, w57, w59, w61, w63, w65, w67, w69] H := bk_many hB
  refine lv_aload_n hx hb d_TL_tell_13 rfl (lv_at hl 0 rfl) ?_
  have hB := bk_one hB
  have hpk71 : pTL G h0 bS bR ad adL T47 ([[(h0, .inr (4, [.ref bS, .ref bR, .ref (ad 0), .ref (ad 1), .ref (ad 2), .ref (ad 3), .int (gTL_rowTold T47), .int (gTL_savedRows T47), .ref (ad 4), .ref (ad 5), .ref (ad 6), .ref (ad 7), .ref (ad 8), .ref (ad 9)]))], w51, w53, w55, w57, w59, w61, w63, w65, w67, w69].flatten) := ⟨w51, w53, w55, w57, w59, w61, w63, w65, w67, w69, rfl, h52, h54, h56, h58, h60, h62, h64, h66, h68, h70⟩
  obtain ⟨T72, hT73⟩ : ∃ z, A_TL_numberSavedRows T47 = z := ⟨_, rfl⟩
  refine wrV0 (G := G) (k := 0) (As := []) (rest := []) (C := RTL) ⟨hx, hb, hml, hown, hts⟩ (c_TL_numberSavedRows l G h0 bS bR ad adL T47 _ _ (bk_gP (k := 0) hB.1 rfl) (bk_own (k := 0) hB rfl) hpk71 T72 hT73) (cwV 0 hts (gd_V ml_TL_89 im_TL_numberSavedRows sl_TL_numberSavedRows ini_TL k_TL_numberSavedRows) rfl rmK_c rmK_s (by decide +kernel) ⟨Nat.le_of_ble_eq_true rfl, Nat.le_of_ble_eq_true rfl⟩) hK (pTL_recv hK (bk_gP (k := 0) hB.1 rfl) hpk71) hS hA hB rfl hk ⟨rfl, rfl⟩ rfl hl.1 (Nat.le_of_ble_eq_true rfl) d_TL_tell_14 (fun u74 H locs hu75 hB hS => ?_)
  have hr0 := bnd_e hT73 hr0
  have hk := bnd_k hT73 hk
  have hB : bk G.1 vwCl A [u74] H := hB
  obtain ⟨w76, w78, w80, w82, w84, w86, w88, w90, w92, w94, rfl, h77, h79, h81, h83, h85, h87, h89, h91, h93, h95⟩ := hu75
  have hB : bk G.1 vwCl A [[(h0, .inr (4, [.ref bS, .ref bR, .ref (ad 0), .ref (ad 1), .ref (ad 2), .ref (ad 3), .int (gTL_rowTold T72), .int (gTL_savedRows T72), .ref (ad 4), .ref (ad 5), .ref (ad 6), .ref (ad 7), .ref (ad 8), .ref (ad 9)]))], w76, w78, w80, w82, w84, w86, w88, w90, w92, w94] H := bk_many hB
  refine lv_aload_n hx hb d_TL_tell_17 rfl (lv_at hl 0 rfl) ?_
  have hB := bk_one hB
  have hpk96 : pTL G h0 bS bR ad adL T72 ([[(h0, .inr (4, [.ref bS, .ref bR, .ref (ad 0), .ref (ad 1), .ref (ad 2), .ref (ad 3), .int (gTL_rowTold T72), .int (gTL_savedRows T72), .ref (ad 4), .ref (ad 5), .ref (ad 6), .ref (ad 7), .ref (ad 8), .ref (ad 9)]))], w76, w78, w80, w82, w84, w86, w88, w90, w92, w94].flatten) := ⟨w76, w78, w80, w82, w84, w86, w88, w90, w92, w94, rfl, h77, h79, h81, h83, h85, h87, h89, h91, h93, h95⟩
  obtain ⟨T97, hT98⟩ : ∃ z, A_TL_numberStatements T72 ss rr = z := ⟨_, rfl⟩
  refine wrV (G := G) (k := 0) (As := []) (rest := []) (C := RTL) ⟨hx, hb, hml, hown, hts⟩ (c_TL_numberStatements l G h0 bS bR ad adL T72 _ _ adS ss _ (ro_keep hS hvS hro_ss) hsS (bk_apA (k := 0) hB rfl hro_ss) adR rr _ (ro_keep hS hvR hro_rr) hrR (bk_apA (k := 0) hB rfl hro_rr) (bk_gP (k := 0) hB.1 rfl) (bk_own (k := 0) hB rfl) hpk96 T97 hT98 _ rfl (bk_ub hk hKb)) (cwV 0 hts (gd_V ml_TL_92 im_TL_numberStatements sl_TL_numberStatements ini_TL k_TL_numberStatements) rfl rmK_c rmK_s (by decide +kernel) ⟨Nat.le_of_ble_eq_true rfl, Nat.le_of_ble_eq_true rfl⟩) hK (pTL_recv hK (bk_gP (k := 0) hB.1 rfl) hpk96) hS hA hB rfl hk ⟨rfl, rfl⟩ rfl hl.1 (Nat.le_of_ble_eq_true rfl) d_TL_tell_18 (fun u99 H locs kc hu100 hB hS hk => ?_)
  have hr0 := bnd_e hT98 hr0
  have hk := bnd_k hT98 hk
  have hB : bk G.1 vwCl A [u99] H := hB
  obtain ⟨w101, w103, w105, w107, w109, w111, w113, w115, w117, w119, rfl, h102, h104, h106, h108, h110, h112, h114, h116, h118, h120⟩ := hu100
  have hB : bk G.1 vwCl A [[(h0, .inr (4, [.ref bS, .ref bR, .ref (ad 0), .ref (ad 1), .ref (ad 2), .ref (ad 3), .int (gTL_rowTold T97), .int (gTL_savedRows T97), .ref (ad 4), .ref (ad 5), .ref (ad 6), .ref (ad 7), .ref (ad 8), .ref (ad 9)]))], w101, w103, w105, w107, w109, w111, w113, w115, w117, w119] H := bk_many hB
  refine lv_aload_n hx hb d_TL_tell_21 rfl (lv_at hl 0 rfl) ?_
  have hB := bk_one hB
  have hpk121 : pTL G h0 bS bR ad adL T97 ([[(h0, .inr (4, [.ref bS, .ref bR, .ref (ad 0), .ref (ad 1), .ref (ad 2), .ref (ad 3), .int (gTL_rowTold T97), .int (gTL_savedRows T97), .ref (ad 4), .ref (ad 5), .ref (ad 6), .ref (ad 7), .ref (ad 8), .ref (ad 9)]))], w101, w103, w105, w107, w109, w111, w113, w115, w117, w119].flatten) := ⟨w101, w103, w105, w107, w109, w111, w113, w115, w117, w119, rfl, h102, h104, h106, h108, h110, h112, h114, h116, h118, h120⟩
  obtain ⟨T122, hT123⟩ : ∃ z, A_TL_tellLetters T97 ss rr = z := ⟨_, rfl⟩
  refine wrV (G := G) (k := 0) (As := []) (rest := []) (C := RTL) ⟨hx, hb, hml, hown, hts⟩ (c_TL_tellLetters l G h0 bS bR ad adL T97 _ _ adS ss _ (ro_keep hS hvS hro_ss) hsS (bk_apA (k := 0) hB rfl hro_ss) adR rr _ (ro_keep hS hvR hro_rr) hrR (bk_apA (k := 0) hB rfl hro_rr) (bk_gP (k := 0) hB.1 rfl) (bk_own (k := 0) hB rfl) hpk121 T122 hT123 _ rfl (bk_ub hk hKb)) (cwV 0 hts (gd_V ml_TL_95 im_TL_tellLetters sl_TL_tellLetters ini_TL k_TL_tellLetters) rfl rmK_c rmK_s (by decide +kernel) ⟨Nat.le_of_ble_eq_true rfl, Nat.le_of_ble_eq_true rfl⟩) hK (pTL_recv hK (bk_gP (k := 0) hB.1 rfl) hpk121) hS hA hB rfl hk ⟨rfl, rfl⟩ rfl hl.1 (Nat.le_of_ble_eq_true rfl) d_TL_tell_22 (fun u124 H locs kc hu125 hB hS hk => ?_)
  have hr0 := bnd_e hT123 hr0
  have hk := bnd_k hT123 hk
  have hB : bk G.1 vwCl A [u124] H := hB
  obtain ⟨w126, w128, w130, w132, w134, w136, w138, w140, w142, w144, rfl, h127, h129, h131, h133, h135, h137, h139, h141, h143, h145⟩ := hu125
  have hB : bk G.1 vwCl A [[(h0, .inr (4, [.ref bS, .ref bR, .ref (ad 0), .ref (ad 1), .ref (ad 2), .ref (ad 3), .int (gTL_rowTold T122), .int (gTL_savedRows T122), .ref (ad 4), .ref (ad 5), .ref (ad 6), .ref (ad 7), .ref (ad 8), .ref (ad 9)]))], w126, w128, w130, w132, w134, w136, w138, w140, w142, w144] H := bk_many hB
  subst hr0
  refine W.widen (k := Kt) (n := Kt) (Nat.le.intro hk) (Nat.le.intro hk) ?_
  exact W.vret hx hb hr (fun t ht hW => ⟨⟨[[(h0, .inr (4, [.ref bS, .ref bR, .ref (ad 0), .ref (ad 1), .ref (ad 2), .ref (ad 3), .int (gTL_rowTold T122), .int (gTL_savedRows T122), .ref (ad 4), .ref (ad 5), .ref (ad 6), .ref (ad 7), .ref (ad 8), .ref (ad 9)]))], w126, w128, w130, w132, w134, w136, w138, w140, w142, w144].flatten, rfl, ⟨w126, w128, w130, w132, w134, w136, w138, w140, w142, w144, rfl, h127, h129, h131, h133, h135, h137, h139, h141, h143, h145⟩, by rw [ht]; exact hB.1, hB.2⟩, hS.F ht⟩) hS.2.2 d_TL_tell_25
end
section
def M_TL_makesItsRow_L28 (ss : tST) (rr : tRW) (k : Int32) (τ : tTL) : Nat := ((A_IL_length (gTL_steps τ)).toInt - k.toInt).toNat
def A_TL_makesItsRow_L28 (ss : tST) (rr : tRW) : Nat → Int32 → tTL → Int32 × tTL
  | 0, _, τ => (0, τ)
  | n28 + 1, k, τ => if (A_IL_length (gTL_steps τ)) ≤ k then (if (A_IL_length (gTL_remade τ)) = 1 then (if (A_IL_at (gTL_remade τ) 0) = (A_RW_kindOf rr (gTL_rowTold τ)) then (1, τ) else (0, τ)) else (0, τ)) else (if 0 ≤ ((A_IL_length (gTL_remade τ)) - (A_TL_rowsTakenAt τ ss rr k)) then (if (A_TL_kindMadeAt τ ss rr k ((A_IL_length (gTL_remade τ)) - (A_TL_rowsTakenAt τ ss rr k))) = (-1) then (0, τ) else (if (A_TL_isSavedAt (uTL_remade (uTL_remade τ (A_IL_cut (gTL_remade τ) ((A_IL_length (gTL_remade τ)) - (A_TL_rowsTakenAt τ ss rr k)))) (A_IL_add (A_IL_cut (gTL_remade τ) ((A_IL_length (gTL_remade τ)) - (A_TL_rowsTakenAt τ ss rr k))) (A_TL_kindMadeAt τ ss rr k ((A_IL_length (gTL_remade τ)) - (A_TL_rowsTakenAt τ ss rr k))))) k) = 0 then (A_TL_makesItsRow_L28 ss rr n28 (k + 1) (uTL_remade (uTL_remade τ (A_IL_cut (gTL_remade τ) ((A_IL_length (gTL_remade τ)) - (A_TL_rowsTakenAt τ ss rr k)))) (A_IL_add (A_IL_cut (gTL_remade τ) ((A_IL_length (gTL_remade τ)) - (A_TL_rowsTakenAt τ ss rr k))) (A_TL_kindMadeAt τ ss rr k ((A_IL_length (gTL_remade τ)) - (A_TL_rowsTakenAt τ ss rr k)))))) else (A_TL_makesItsRow_L28 ss rr n28 (k + 1) (uTL_savedKinds (uTL_remade (uTL_remade τ (A_IL_cut (gTL_remade τ) ((A_IL_length (gTL_remade τ)) - (A_TL_rowsTakenAt τ ss rr k)))) (A_IL_add (A_IL_cut (gTL_remade τ) ((A_IL_length (gTL_remade τ)) - (A_TL_rowsTakenAt τ ss rr k))) (A_TL_kindMadeAt τ ss rr k ((A_IL_length (gTL_remade τ)) - (A_TL_rowsTakenAt τ ss rr k))))) (A_IL_add (gTL_savedKinds τ) (A_TL_kindMadeAt τ ss rr k ((A_IL_length (gTL_remade τ)) - (A_TL_rowsTakenAt τ ss rr k)))))))) else (0, τ))
def K_TL_makesItsRow_L28 (ss : tST) (rr : tRW) : Nat → Int32 → tTL → Nat
  | 0, _, _ => 0
  | n28 + 1, k, τ => if (A_IL_length (gTL_steps τ)) ≤ k then (if (A_IL_length (gTL_remade τ)) = 1 then (if (A_IL_at (gTL_remade τ) 0) = (A_RW_kindOf rr (gTL_rowTold τ)) then 0 else 0) else 0) else (if 0 ≤ ((A_IL_length (gTL_remade τ)) - (A_TL_rowsTakenAt τ ss rr k)) then (if (A_TL_kindMadeAt τ ss rr k ((A_IL_length (gTL_remade τ)) - (A_TL_rowsTakenAt τ ss rr k))) = (-1) then 0 else ((K_IL_add (A_IL_cut (gTL_remade τ) ((A_IL_length (gTL_remade τ)) - (A_TL_rowsTakenAt τ ss rr k))) (A_TL_kindMadeAt τ ss rr k ((A_IL_length (gTL_remade τ)) - (A_TL_rowsTakenAt τ ss rr k)))) + (if (A_TL_isSavedAt (uTL_remade (uTL_remade τ (A_IL_cut (gTL_remade τ) ((A_IL_length (gTL_remade τ)) - (A_TL_rowsTakenAt τ ss rr k)))) (A_IL_add (A_IL_cut (gTL_remade τ) ((A_IL_length (gTL_remade τ)) - (A_TL_rowsTakenAt τ ss rr k))) (A_TL_kindMadeAt τ ss rr k ((A_IL_length (gTL_remade τ)) - (A_TL_rowsTakenAt τ ss rr k))))) k) = 0 then (K_TL_makesItsRow_L28 ss rr n28 (k + 1) (uTL_remade (uTL_remade τ (A_IL_cut (gTL_remade τ) ((A_IL_length (gTL_remade τ)) - (A_TL_rowsTakenAt τ ss rr k)))) (A_IL_add (A_IL_cut (gTL_remade τ) ((A_IL_length (gTL_remade τ)) - (A_TL_rowsTakenAt τ ss rr k))) (A_TL_kindMadeAt τ ss rr k ((A_IL_length (gTL_remade τ)) - (A_TL_rowsTakenAt τ ss rr k)))))) else ((K_IL_add (gTL_savedKinds τ) (A_TL_kindMadeAt τ ss rr k ((A_IL_length (gTL_remade τ)) - (A_TL_rowsTakenAt τ ss rr k)))) + (K_TL_makesItsRow_L28 ss rr n28 (k + 1) (uTL_savedKinds (uTL_remade (uTL_remade τ (A_IL_cut (gTL_remade τ) ((A_IL_length (gTL_remade τ)) - (A_TL_rowsTakenAt τ ss rr k)))) (A_IL_add (A_IL_cut (gTL_remade τ) ((A_IL_length (gTL_remade τ)) - (A_TL_rowsTakenAt τ ss rr k))) (A_TL_kindMadeAt τ ss rr k ((A_IL_length (gTL_remade τ)) - (A_TL_rowsTakenAt τ ss rr k))))) (A_IL_add (gTL_savedKinds τ) (A_TL_kindMadeAt τ ss rr k ((A_IL_length (gTL_remade τ)) - (A_TL_rowsTakenAt τ ss rr k)))))))))) else 0)
def A_TL_makesItsRow (σ : tTL) (ss : tST) (rr : tRW) : Int32 × tTL := if (gTL_rowTold σ) = (-1) then (1, σ) else (A_TL_makesItsRow_L28 ss rr (M_TL_makesItsRow_L28 ss rr 0 (uTL_savedKinds (uTL_remade σ (A_IL_cut (gTL_remade σ) 0)) (A_IL_cut (gTL_savedKinds σ) 0)) + 1) 0 (uTL_savedKinds (uTL_remade σ (A_IL_cut (gTL_remade σ) 0)) (A_IL_cut (gTL_savedKinds σ) 0)))
def K_TL_makesItsRow (σ : tTL) (ss : tST) (rr : tRW) : Nat := if (gTL_rowTold σ) = (-1) then 0 else (K_TL_makesItsRow_L28 ss rr (M_TL_makesItsRow_L28 ss rr 0 (uTL_savedKinds (uTL_remade σ (A_IL_cut (gTL_remade σ) 0)) (A_IL_cut (gTL_savedKinds σ) 0)) + 1) 0 (uTL_savedKinds (uTL_remade σ (A_IL_cut (gTL_remade σ) 0)) (A_IL_cut (gTL_savedKinds σ) 0)))
set_option maxHeartbeats 4000000 in
set_option maxRecDepth 100000 in
theorem c_TL_makesItsRow (l : Launch) (G : pG) (h0 : Nat) (bS : Nat) (bR : Nat) (ad : Nat → Nat) (adL : Nat → Nat) (σ : tTL) (H : Heap) (w : va_W) (adS : Nat → Nat) (ss : tST) (vS : va_W) (hvS : va_P G.1 vwCl vS H) (hsS : pST G bS adS ss vS) (ap_ss : bk_ap w vS) (adR : Nat → Nat) (rr : tRW) (vR : va_W) (hvR : va_P G.1 vwCl vR H) (hrR : pRW G bR adR rr vR) (ap_rr : bk_ap w vR) (hP0 : va_P G.1 vwCl w H) (hD0 : va_D (fun _ => True) w) (hσ : pTL G h0 bS bR ad adL σ w) (res : Int32 × tTL) (hr0 : A_TL_makesItsRow σ ss rr = res) (Kt : Nat) (hk : K_TL_makesItsRow σ ss rr = Kt) (hKb : Kt ≤ 16777216) : MWi l y_TL_makesItsRow w_TL_makesItsRow 5 116 Kt G [.ref h0] H w res.1 (pTL G h0 bS bR ad adL res.2) := by
  refine Met.ofW (cc := b_TL_makesItsRow) (maxL := 4) (ret := (some .boolean)) (by decide) rfl ?_
  intro p e s m args below meth c s₁ B hml hv
  obtain ⟨rfl, rfl, hK⟩ := hv
  have hx := B.exec
  have hb := B.bytes
  have hr := B.returns
  have hts0 := atoms_spec (ws := w_TL_makesItsRow) B.pre
  have hts := fun w (h : w ∈ lw_g) => hts0 w (List.mem_cons_of_mem _ h)
  have hown : s.vm.findClass RTL = some m.cls := findClass_of_methodNamed B.named
  have hlocks := B.notSynchronized
  have hA : ∀ q : Nat, s.heap.size ≤ q → va_A w s.heap.size q := fun _ h => Or.inr h
  have hro_ss := ro_A hvS ap_ss
  have hro_rr := ro_A hvR ap_rr
  have hB : bk G.1 vwCl (va_A w s.heap.size) [w] s.heap := bk_init hP0 hD0
  generalize va_A w s.heap.size = A at *
  have hS : va_S A s.heap s.heap [] := va_S.rf
  obtain ⟨w1, w3, w5, w7, w9, w11, w13, w15, w17, w19, rfl, h2, h4, h6, h8, h10, h12, h14, h16, h18, h20⟩ := hσ
  have hB := bk_many hB
  have hk : 0 + K_TL_makesItsRow σ ss rr = Kt := (Nat.zero_add _).trans hk
  have hl := lv_entry ([.ref h0]) (n := 4) (Nat.le_of_ble_eq_true rfl)
  rw [lg_entry_eq]
  generalize (lg_sl ([.ref h0]) ++ List.replicate (4 - (lg_sl ([.ref h0])).length) Slot.unset).toArray = ls at hl ⊢
  have hl : lv_has ls 4 [(0, .ref h0)] := hl
  unfold A_TL_makesItsRow at hr0
  unfold K_TL_makesItsRow at hk
  refine lv_aload_n hx hb d_TL_makesItsRow_0 rfl (lv_at hl 0 rfl) ?_
  refine va_get (D := G.1) (ci := 4) (v := .int (gTL_rowTold σ)) (C := RTL) (T := TTL) (N := 14) hx hb hts inTL hown hK hB.1 0 rfl rfl 6 (by decide) (hts _ fl_TL_39) (fun _ h9 => h9) rfl d_TL_makesItsRow_1 ?_
  refine lv_iconst (v := (-1)) hx hb d_TL_makesItsRow_4 (by decide) ?_
  refine lv_icmp_ne (tgt := 10) hx hb d_TL_makesItsRow_5 (by decide) (fun c21 => ?_) (fun c21 => ?_)
  · have hr0 := ai_neg c21 hr0
    have hk := ki_neg c21 hk
    refine lv_aload_n hx hb d_TL_makesItsRow_10 rfl (lv_at hl 0 rfl) ?_
    refine va_get (D := G.1) (ci := 4) (v := .ref (ad 8)) (C := RTL) (T := TTL) (N := 14) hx hb hts inTL hown hK hB.1 0 rfl rfl 12 (by decide) (hts _ fl_TL_58) (fun _ h9 => h9) rfl d_TL_makesItsRow_11 ?_
    refine lv_iconst (v := 0) hx hb d_TL_makesItsRow_14 (by decide) ?_
    refine wrV0 (G := G) (k := 9) (As := [.int 0]) (rest := []) (C := RIL) ⟨hx, hb, hml, hown, hts⟩ (c_IL_cut l G (ad 8) (gTL_remade σ) 0 _ _ (bk_gP (k := 9) hB.1 rfl) (bk_own (k := 9) hB rfl) h18 _ rfl) (cwV 1 hts (gd_V ml_TL_64 im_IL_cut sl_IL_cut ini_IL k_IL_cut) rfl rmK_c rmK_s (by decide +kernel) ⟨Nat.le_of_ble_eq_true rfl, Nat.le_of_ble_eq_true rfl⟩) hK (pIL_recv hK (bk_gP (k := 9) hB.1 rfl) h18) hS hA hB rfl hk ⟨rfl, rfl⟩ rfl hl.1 (Nat.le_of_ble_eq_true rfl) d_TL_makesItsRow_15 (fun u22 H locs hu23 hB hS => ?_)
    have hB : bk G.1 vwCl A [[(h0, .inr (4, [.ref bS, .ref bR, .ref (ad 0), .ref (ad 1), .ref (ad 2), .ref (ad 3), .int (gTL_rowTold σ), .int (gTL_savedRows σ), .ref (ad 4), .ref (ad 5), .ref (ad 6), .ref (ad 7), .ref (ad 8), .ref (ad 9)]))], w1, w3, w5, w7, w9, w11, w13, w15, u22, w19] H := hB
    refine lv_aload_n hx hb d_TL_makesItsRow_18 rfl (lv_at hl 0 rfl) ?_
    refine va_get (D := G.1) (ci := 4) (v := .ref (ad 9)) (C := RTL) (T := TTL) (N := 14) hx hb hts inTL hown hK hB.1 0 rfl rfl 13 (by decide) (hts _ fl_TL_61) (fun _ h9 => h9) rfl d_TL_makesItsRow_19 ?_
    refine lv_iconst (v := 0) hx hb d_TL_makesItsRow_22 (by decide) ?_
    refine wrV0 (G := G) (k := 10) (As := [.int 0]) (rest := []) (C := RIL) ⟨hx, hb, hml, hown, hts⟩ (c_IL_cut l G (ad 9) (gTL_savedKinds σ) 0 _ _ (bk_gP (k := 10) hB.1 rfl) (bk_own (k := 10) hB rfl) h20 _ rfl) (cwV 1 hts (gd_V ml_TL_64 im_IL_cut sl_IL_cut ini_IL k_IL_cut) rfl rmK_c rmK_s (by decide +kernel) ⟨Nat.le_of_ble_eq_true rfl, Nat.le_of_ble_eq_true rfl⟩) hK (pIL_recv hK (bk_gP (k := 10) hB.1 rfl) h20) hS hA hB rfl hk ⟨rfl, rfl⟩ rfl hl.1 (Nat.le_of_ble_eq_true rfl) d_TL_makesItsRow_23 (fun u24 H locs hu25 hB hS => ?_)
    have hB : bk G.1 vwCl A [[(h0, .inr (4, [.ref bS, .ref bR, .ref (ad 0), .ref (ad 1), .ref (ad 2), .ref (ad 3), .int (gTL_rowTold σ), .int (gTL_savedRows σ), .ref (ad 4), .ref (ad 5), .ref (ad 6), .ref (ad 7), .ref (ad 8), .ref (ad 9)]))], w1, w3, w5, w7, w9, w11, w13, w15, u22, u24] H := hB
    refine lv_iconst (v := 0) hx hb d_TL_makesItsRow_26 (by decide) ?_
    refine lv_istore_n (lv' := [(1, .int 0), (0, .ref h0)]) hx hb d_TL_makesItsRow_27 rfl hl (by decide) rfl (fun ls hl => ?_)
    refine lp_W (I := fun n28 H locs kc ls => ∃ (k : Int32) (τ : tTL) (w : va_W), pTL G h0 bS bR ad adL τ w ∧ bk G.1 vwCl A [w] H ∧ va_S A s.heap H locs ∧ lv_has ls 4 [(0, .ref h0), (1, .int k)] ∧ A_TL_makesItsRow_L28 ss rr n28 k τ = res ∧ kc + K_TL_makesItsRow_L28 ss rr n28 k τ = Kt ∧ M_TL_makesItsRow_L28 ss rr k τ < n28) ?_ ?_ (M_TL_makesItsRow_L28 ss rr 0 (uTL_savedKinds (uTL_remade σ (A_IL_cut (gTL_remade σ) 0)) (A_IL_cut (gTL_savedKinds σ) 0)) + 1) _ _ _ _ ⟨0, (uTL_savedKinds (uTL_remade σ (A_IL_cut (gTL_remade σ) 0)) (A_IL_cut (gTL_savedKinds σ) 0)), _, ⟨w1, w3, w5, w7, w9, w11, w13, w15, u22, u24, rfl, h2, h4, h6, h8, h10, h12, h14, h16, hu23, hu25⟩, bk_one hB, hS, lv_sub hl [1, 0] rfl, hr0, hk, Nat.lt_succ_self _⟩
    · intro n28 ih28 H locs kc ls ⟨k, τ, w, hτ, hB, hS, hl, hr0, hk, hm28⟩
      obtain ⟨w26, w28, w30, w32, w34, w36, w38, w40, w42, w44, rfl, h27, h29, h31, h33, h35, h37, h39, h41, h43, h45⟩ := hτ
      have hB := bk_many hB
      rw [A_TL_makesItsRow_L28] at hr0
      rw [K_TL_makesItsRow_L28] at hk
      refine lv_iload_n hx hb d_TL_makesItsRow_28 rfl (lv_at hl 1 rfl) ?_
      refine lv_aload_n hx hb d_TL_makesItsRow_29 rfl (lv_at hl 0 rfl) ?_
      refine va_get (D := G.1) (ci := 4) (v := .ref (ad 0)) (C := RTL) (T := TTL) (N := 14) hx hb hts inTL hown hK hB.1 0 rfl rfl 2 (by decide) (hts _ fl_TL_22) (fun _ h9 => h9) rfl d_TL_makesItsRow_30 ?_
      refine rdV (G := G) (As := []) (rest := [.int k]) (C := RIL) ⟨hx, hb, hml, hown, hts⟩ (c_IL_length l G (ad 0) (gTL_steps τ) _ _ (bk_gP (k := 1) hB.1 rfl) h27 _ rfl) (cwV 0 hts (gd_V ml_TL_71 im_IL_length sl_IL_length ini_IL k_IL_length) rfl rmK_c rmK_s (by decide +kernel) ⟨Nat.le_of_ble_eq_true rfl, Nat.le_of_ble_eq_true rfl⟩) hK (pIL_recv hK (bk_gP (k := 1) hB.1 rfl) h27) hS ⟨Nat.le.intro hk, Nat.le.intro hk⟩ rfl hl.1 (Nat.le_of_ble_eq_true rfl) d_TL_makesItsRow_33 (fun locs hS => ?_)
      refine lv_icmp_ge (tgt := 113) hx hb d_TL_makesItsRow_36 (by decide) (fun c46 => ?_) (fun c46 => ?_)
      · have hr0 := ai_pos c46 hr0
        have hk := ki_pos c46 hk
        refine lv_aload_n hx hb d_TL_makesItsRow_113 rfl (lv_at hl 0 rfl) ?_
        refine va_get (D := G.1) (ci := 4) (v := .ref (ad 8)) (C := RTL) (T := TTL) (N := 14) hx hb hts inTL hown hK hB.1 0 rfl rfl 12 (by decide) (hts _ fl_TL_58) (fun _ h9 => h9) rfl d_TL_makesItsRow_114 ?_
        refine rdV (G := G) (As := []) (rest := []) (C := RIL) ⟨hx, hb, hml, hown, hts⟩ (c_IL_length l G (ad 8) (gTL_remade τ) _ _ (bk_gP (k := 9) hB.1 rfl) h43 _ rfl) (cwV 0 hts (gd_V ml_TL_71 im_IL_length sl_IL_length ini_IL k_IL_length) rfl rmK_c rmK_s (by decide +kernel) ⟨Nat.le_of_ble_eq_true rfl, Nat.le_of_ble_eq_true rfl⟩) hK (pIL_recv hK (bk_gP (k := 9) hB.1 rfl) h43) hS ⟨Nat.le.intro hk, Nat.le.intro hk⟩ rfl hl.1 (Nat.le_of_ble_eq_true rfl) d_TL_makesItsRow_117 (fun locs hS => ?_)
        refine lv_iconst (v := 1) hx hb d_TL_makesItsRow_120 (by decide) ?_
        refine lv_icmp_ne (tgt := 150) hx hb d_TL_makesItsRow_121 (by decide) (fun c47 => ?_) (fun c47 => ?_)
        · have hr0 := ai_neg c47 hr0
          have hk := ki_neg c47 hk
          refine lv_iconst (v := 0) hx hb d_TL_makesItsRow_150 (by decide) ?_
          subst hr0
          refine W.widen (k := Kt) (n := Kt) (Nat.le.intro hk) (Nat.le.intro hk) ?_
          exact W.zret (v := 0) hx hb hr (by decide) (fun t ht hW => ⟨⟨0, [[(h0, .inr (4, [.ref bS, .ref bR, .ref (ad 0), .ref (ad 1), .ref (ad 2), .ref (ad 3), .int (gTL_rowTold τ), .int (gTL_savedRows τ), .ref (ad 4), .ref (ad 5), .ref (ad 6), .ref (ad 7), .ref (ad 8), .ref (ad 9)]))], w26, w28, w30, w32, w34, w36, w38, w40, w42, w44].flatten, rfl, ⟨rfl, ⟨w26, w28, w30, w32, w34, w36, w38, w40, w42, w44, rfl, h27, h29, h31, h33, h35, h37, h39, h41, h43, h45⟩⟩, by rw [ht]; exact hB.1, hB.2⟩, hS.F ht⟩) hS.2.2 d_TL_makesItsRow_151
        · have hr0 := ai_pos c47 hr0
          have hk := ki_pos c47 hk
          refine lv_aload_n hx hb d_TL_makesItsRow_124 rfl (lv_at hl 0 rfl) ?_
          refine va_get (D := G.1) (ci := 4) (v := .ref (ad 8)) (C := RTL) (T := TTL) (N := 14) hx hb hts inTL hown hK hB.1 0 rfl rfl 12 (by decide) (hts _ fl_TL_58) (fun _ h9 => h9) rfl d_TL_makesItsRow_125 ?_
          refine lv_iconst (v := 0) hx hb d_TL_makesItsRow_128 (by decide) ?_
          refine rdV (G := G) (As := [.int 0]) (rest := []) (C := RIL) ⟨hx, hb, hml, hown, hts⟩ (c_IL_at l G (ad 8) (gTL_remade τ) 0 _ _ (bk_gP (k := 9) hB.1 rfl) h43 _ rfl) (cwV 1 hts (gd_V ml_TL_78 im_IL_at sl_IL_at ini_IL k_IL_at) rfl rmK_c rmK_s (by decide +kernel) ⟨Nat.le_of_ble_eq_true rfl, Nat.le_of_ble_eq_true rfl⟩) hK (pIL_recv hK (bk_gP (k := 9) hB.1 rfl) h43) hS ⟨Nat.le.intro hk, Nat.le.intro hk⟩ rfl hl.1 (Nat.le_of_ble_eq_true rfl) d_TL_makesItsRow_129 (fun locs hS => ?_)
          refine lv_aload_n hx hb d_TL_makesItsRow_132 rfl (lv_at hl 0 rfl) ?_
          refine va_get (D := G.1) (ci := 4) (v := .ref bR) (C := RTL) (T := TTL) (N := 14) hx hb hts inTL hown hK hB.1 0 rfl rfl 1 (by decide) (hts _ fl_TL_15) (fun _ h9 => h9) rfl d_TL_makesItsRow_133 ?_
          refine lv_aload_n hx hb d_TL_makesItsRow_136 rfl (lv_at hl 0 rfl) ?_
          refine va_get (D := G.1) (ci := 4) (v := .int (gTL_rowTold τ)) (C := RTL) (T := TTL) (N := 14) hx hb hts inTL hown hK hB.1 0 rfl rfl 6 (by decide) (hts _ fl_TL_39) (fun _ h9 => h9) rfl d_TL_makesItsRow_137 ?_
          refine rdV (G := G) (As := [.int (gTL_rowTold τ)]) (rest := [.int (A_IL_at (gTL_remade τ) 0)]) (C := RRW) ⟨hx, hb, hml, hown, hts⟩ (c_RW_kindOf l G bR adR rr (gTL_rowTold τ) _ _ (ro_keep hS hvR hro_rr) hrR _ rfl) (cwV 1 hts (gd_V ml_TL_124 im_RW_kindOf sl_RW_kindOf ini_RW k_RW_kindOf) rfl rmK_c rmK_s (by decide +kernel) ⟨Nat.le_of_ble_eq_true rfl, Nat.le_of_ble_eq_true rfl⟩) hK (pRW_recv hK (ro_keep hS hvR hro_rr) hrR) hS ⟨Nat.le.intro hk, Nat.le.intro hk⟩ rfl hl.1 (Nat.le_of_ble_eq_true rfl) d_TL_makesItsRow_140 (fun locs hS => ?_)
          refine lv_icmp_ne (tgt := 150) hx hb d_TL_makesItsRow_143 (by decide) (fun c48 => ?_) (fun c48 => ?_)
          · have hr0 := ai_neg c48 hr0
            have hk := ki_neg c48 hk
            refine lv_iconst (v := 0) hx hb d_TL_makesItsRow_150 (by decide) ?_
            subst hr0
            refine W.widen (k := Kt) (n := Kt) (Nat.le.intro hk) (Nat.le.intro hk) ?_
            exact W.zret (v := 0) hx hb hr (by decide) (fun t ht hW => ⟨⟨0, [[(h0, .inr (4, [.ref bS, .ref bR, .ref (ad 0), .ref (ad 1), .ref (ad 2), .ref (ad 3), .int (gTL_rowTold τ), .int (gTL_savedRows τ), .ref (ad 4), .ref (ad 5), .ref (ad 6), .ref (ad 7), .ref (ad 8), .ref (ad 9)]))], w26, w28, w30, w32, w34, w36, w38, w40, w42, w44].flatten, rfl, ⟨rfl, ⟨w26, w28, w30, w32, w34, w36, w38, w40, w42, w44, rfl, h27, h29, h31, h33, h35, h37, h39, h41, h43, h45⟩⟩, by rw [ht]; exact hB.1, hB.2⟩, hS.F ht⟩) hS.2.2 d_TL_makesItsRow_151
          · have hr0 := ai_pos c48 hr0
            have hk := ki_pos c48 hk
            refine lv_iconst (v := 1) hx hb d_TL_makesItsRow_146 (by decide) ?_
            refine lv_goto (tgt := 151) hx hb d_TL_makesItsRow_147 (by decide) ?_
            subst hr0
            refine W.widen (k := Kt) (n := Kt) (Nat.le.intro hk) (Nat.le.intro hk) ?_
            exact W.zret (v := 1) hx hb hr (by decide) (fun t ht hW => ⟨⟨1, [[(h0, .inr (4, [.ref bS, .ref bR, .ref (ad 0), .ref (ad 1), .ref (ad 2), .ref (ad 3), .int (gTL_rowTold τ), .int (gTL_savedRows τ), .ref (ad 4), .ref (ad 5), .ref (ad 6), .ref (ad 7), .ref (ad 8), .ref (ad 9)]))], w26, w28, w30, w32, w34, w36, w38, w40, w42, w44].flatten, rfl, ⟨rfl, ⟨w26, w28, w30, w32, w34, w36, w38, w40, w42, w44, rfl, h27, h29, h31, h33, h35, h37, h39, h41, h43, h45⟩⟩, by rw [ht]; exact hB.1, hB.2⟩, hS.F ht⟩) hS.2.2 d_TL_makesItsRow_151
      · have hr0 := ai_neg c46 hr0
        have hk := ki_neg c46 hk
        refine lv_aload_n hx hb d_TL_makesItsRow_39 rfl (lv_at hl 0 rfl) ?_
        refine va_get (D := G.1) (ci := 4) (v := .ref (ad 8)) (C := RTL) (T := TTL) (N := 14) hx hb hts inTL hown hK hB.1 0 rfl rfl 12 (by decide) (hts _ fl_TL_58) (fun _ h9 => h9) rfl d_TL_makesItsRow_40 ?_
        refine rdV (G := G) (As := []) (rest := []) (C := RIL) ⟨hx, hb, hml, hown, hts⟩ (c_IL_length l G (ad 8) (gTL_remade τ) _ _ (bk_gP (k := 9) hB.1 rfl) h43 _ rfl) (cwV 0 hts (gd_V ml_TL_71 im_IL_length sl_IL_length ini_IL k_IL_length) rfl rmK_c rmK_s (by decide +kernel) ⟨Nat.le_of_ble_eq_true rfl, Nat.le_of_ble_eq_true rfl⟩) hK (pIL_recv hK (bk_gP (k := 9) hB.1 rfl) h43) hS ⟨Nat.le.intro hk, Nat.le.intro hk⟩ rfl hl.1 (Nat.le_of_ble_eq_true rfl) d_TL_makesItsRow_43 (fun locs hS => ?_)
        refine lv_aload_n hx hb d_TL_makesItsRow_46 rfl (lv_at hl 0 rfl) ?_
        refine lv_iload_n hx hb d_TL_makesItsRow_47 rfl (lv_at hl 1 rfl) ?_
        have hpk49 : pTL G h0 bS bR ad adL τ ([[(h0, .inr (4, [.ref bS, .ref bR, .ref (ad 0), .ref (ad 1), .ref (ad 2), .ref (ad 3), .int (gTL_rowTold τ), .int (gTL_savedRows τ), .ref (ad 4), .ref (ad 5), .ref (ad 6), .ref (ad 7), .ref (ad 8), .ref (ad 9)]))], w26, w28, w30, w32, w34, w36, w38, w40, w42, w44].flatten) := ⟨w26, w28, w30, w32, w34, w36, w38, w40, w42, w44, rfl, h27, h29, h31, h33, h35, h37, h39, h41, h43, h45⟩
        refine rdV (G := G) (As := [.int k]) (rest := [.int (A_IL_length (gTL_remade τ))]) (C := RTL) ⟨hx, hb, hml, hown, hts⟩ (c_TL_rowsTakenAt l G h0 bS bR ad adL τ k _ _ adS ss _ (ro_keep hS hvS hro_ss) hsS adR rr _ (ro_keep hS hvR hro_rr) hrR hB.1 hpk49 _ rfl) (cwV 1 hts (gd_V ml_TL_161 im_TL_rowsTakenAt sl_TL_rowsTakenAt ini_TL k_TL_rowsTakenAt) rfl rmK_c rmK_s (by decide +kernel) ⟨Nat.le_of_ble_eq_true rfl, Nat.le_of_ble_eq_true rfl⟩) hK (pTL_recv hK hB.1 hpk49) hS ⟨Nat.le.intro hk, Nat.le.intro hk⟩ rfl hl.1 (Nat.le_of_ble_eq_true rfl) d_TL_makesItsRow_48 (fun locs hS => ?_)
        refine lv_isub hx hb d_TL_makesItsRow_51 ?_
        refine lv_istore_n (lv' := [(2, .int ((A_IL_length (gTL_remade τ)) - (A_TL_rowsTakenAt τ ss rr k))), (0, .ref h0), (1, .int k)]) hx hb d_TL_makesItsRow_52 rfl hl (by decide) rfl (fun ls hl => ?_)
        refine lv_iload_n hx hb d_TL_makesItsRow_53 rfl (lv_at hl 0 rfl) ?_
        refine lv_if_ge (tgt := 61) hx hb d_TL_makesItsRow_54 (by decide) (fun c50 => ?_) (fun c50 => ?_)
        · have hr0 := ai_pos c50 hr0
          have hk := ki_pos c50 hk
          refine lv_aload_n hx hb d_TL_makesItsRow_61 rfl (lv_at hl 1 rfl) ?_
          refine lv_iload_n hx hb d_TL_makesItsRow_62 rfl (lv_at hl 2 rfl) ?_
          refine lv_iload_n hx hb d_TL_makesItsRow_63 rfl (lv_at hl 0 rfl) ?_
          have hpk51 : pTL G h0 bS bR ad adL τ ([[(h0, .inr (4, [.ref bS, .ref bR, .ref (ad 0), .ref (ad 1), .ref (ad 2), .ref (ad 3), .int (gTL_rowTold τ), .int (gTL_savedRows τ), .ref (ad 4), .ref (ad 5), .ref (ad 6), .ref (ad 7), .ref (ad 8), .ref (ad 9)]))], w26, w28, w30, w32, w34, w36, w38, w40, w42, w44].flatten) := ⟨w26, w28, w30, w32, w34, w36, w38, w40, w42, w44, rfl, h27, h29, h31, h33, h35, h37, h39, h41, h43, h45⟩
          refine rdV (G := G) (As := [.int k, .int ((A_IL_length (gTL_remade τ)) - (A_TL_rowsTakenAt τ ss rr k))]) (rest := []) (C := RTL) ⟨hx, hb, hml, hown, hts⟩ (c_TL_kindMadeAt l G h0 bS bR ad adL τ k ((A_IL_length (gTL_remade τ)) - (A_TL_rowsTakenAt τ ss rr k)) _ _ adS ss _ (ro_keep hS hvS hro_ss) hsS adR rr _ (ro_keep hS hvR hro_rr) hrR hB.1 hpk51 _ rfl) (cwV 2 hts (gd_V ml_TL_164 im_TL_kindMadeAt sl_TL_kindMadeAt ini_TL k_TL_kindMadeAt) rfl rmK_c rmK_s (by decide +kernel) ⟨Nat.le_of_ble_eq_true rfl, Nat.le_of_ble_eq_true rfl⟩) hK (pTL_recv hK hB.1 hpk51) hS ⟨Nat.le.intro hk, Nat.le.intro hk⟩ rfl hl.1 (Nat.le_of_ble_eq_true rfl) d_TL_makesItsRow_64 (fun locs hS => ?_)
          refine lv_istore_n (lv' := [(3, .int (A_TL_kindMadeAt τ ss rr k ((A_IL_length (gTL_remade τ)) - (A_TL_rowsTakenAt τ ss rr k)))), (2, .int ((A_IL_length (gTL_remade τ)) - (A_TL_rowsTakenAt τ ss rr k))), (0, .ref h0), (1, .int k)]) hx hb d_TL_makesItsRow_67 rfl hl (by decide) rfl (fun ls hl => ?_)
          refine lv_iload_n hx hb d_TL_makesItsRow_68 rfl (lv_at hl 0 rfl) ?_
          refine lv_iconst (v := (-1)) hx hb d_TL_makesItsRow_69 (by decide) ?_
          refine lv_icmp_ne (tgt := 75) hx hb d_TL_makesItsRow_70 (by decide) (fun c52 => ?_) (fun c52 => ?_)
          · have hr0 := ai_neg c52 hr0
            have hk := ki_neg c52 hk
            refine lv_aload_n hx hb d_TL_makesItsRow_75 rfl (lv_at hl 2 rfl) ?_
            refine va_get (D := G.1) (ci := 4) (v := .ref (ad 8)) (C := RTL) (T := TTL) (N := 14) hx hb hts inTL hown hK hB.1 0 rfl rfl 12 (by decide) (hts _ fl_TL_58) (fun _ h9 => h9) rfl d_TL_makesItsRow_76 ?_
            refine lv_iload_n hx hb d_TL_makesItsRow_79 rfl (lv_at hl 1 rfl) ?_
            refine wrV0 (G := G) (k := 9) (As := [.int ((A_IL_length (gTL_remade τ)) - (A_TL_rowsTakenAt τ ss rr k))]) (rest := []) (C := RIL) ⟨hx, hb, hml, hown, hts⟩ (c_IL_cut l G (ad 8) (gTL_remade τ) ((A_IL_length (gTL_remade τ)) - (A_TL_rowsTakenAt τ ss rr k)) _ _ (bk_gP (k := 9) hB.1 rfl) (bk_own (k := 9) hB rfl) h43 _ rfl) (cwV 1 hts (gd_V ml_TL_64 im_IL_cut sl_IL_cut ini_IL k_IL_cut) rfl rmK_c rmK_s (by decide +kernel) ⟨Nat.le_of_ble_eq_true rfl, Nat.le_of_ble_eq_true rfl⟩) hK (pIL_recv hK (bk_gP (k := 9) hB.1 rfl) h43) hS hA hB rfl hk ⟨rfl, rfl⟩ rfl hl.1 (Nat.le_of_ble_eq_true rfl) d_TL_makesItsRow_80 (fun u53 H locs hu54 hB hS => ?_)
            have hB : bk G.1 vwCl A [[(h0, .inr (4, [.ref bS, .ref bR, .ref (ad 0), .ref (ad 1), .ref (ad 2), .ref (ad 3), .int (gTL_rowTold τ), .int (gTL_savedRows τ), .ref (ad 4), .ref (ad 5), .ref (ad 6), .ref (ad 7), .ref (ad 8), .ref (ad 9)]))], w26, w28, w30, w32, w34, w36, w38, w40, u53, w44] H := hB
            refine lv_aload_n hx hb d_TL_makesItsRow_83 rfl (lv_at hl 2 rfl) ?_
            refine va_get (D := G.1) (ci := 4) (v := .ref (ad 8)) (C := RTL) (T := TTL) (N := 14) hx hb hts inTL hown hK hB.1 0 rfl rfl 12 (by decide) (hts _ fl_TL_58) (fun _ h9 => h9) rfl d_TL_makesItsRow_84 ?_
            refine lv_iload_n hx hb d_TL_makesItsRow_87 rfl (lv_at hl 0 rfl) ?_
            refine wrV (G := G) (k := 9) (As := [.int (A_TL_kindMadeAt τ ss rr k ((A_IL_length (gTL_remade τ)) - (A_TL_rowsTakenAt τ ss rr k)))]) (rest := []) (C := RIL) ⟨hx, hb, hml, hown, hts⟩ (c_IL_add l G (ad 8) (A_IL_cut (gTL_remade τ) ((A_IL_length (gTL_remade τ)) - (A_TL_rowsTakenAt τ ss rr k))) (A_TL_kindMadeAt τ ss rr k ((A_IL_length (gTL_remade τ)) - (A_TL_rowsTakenAt τ ss rr k))) _ _ (bk_gP (k := 9) hB.1 rfl) (bk_own (k := 9) hB rfl) hu54 _ rfl _ rfl (bk_ub hk hKb)) (cwV 1 hts (gd_V ml_TL_133 im_IL_add sl_IL_add ini_IL k_IL_add) rfl rmK_c rmK_s (by decide +kernel) ⟨Nat.le_of_ble_eq_true rfl, Nat.le_of_ble_eq_true rfl⟩) hK (pIL_recv hK (bk_gP (k := 9) hB.1 rfl) hu54) hS hA hB rfl hk ⟨rfl, rfl⟩ rfl hl.1 (Nat.le_of_ble_eq_true rfl) d_TL_makesItsRow_88 (fun u55 H locs kc hu56 hB hS hk => ?_)
            have hB : bk G.1 vwCl A [[(h0, .inr (4, [.ref bS, .ref bR, .ref (ad 0), .ref (ad 1), .ref (ad 2), .ref (ad 3), .int (gTL_rowTold τ), .int (gTL_savedRows τ), .ref (ad 4), .ref (ad 5), .ref (ad 6), .ref (ad 7), .ref (ad 8), .ref (ad 9)]))], w26, w28, w30, w32, w34, w36, w38, w40, u55, w44] H := hB
            refine lv_aload_n hx hb d_TL_makesItsRow_91 rfl (lv_at hl 2 rfl) ?_
            refine lv_iload_n hx hb d_TL_makesItsRow_92 rfl (lv_at hl 3 rfl) ?_
            have hpk57 : pTL G h0 bS bR ad adL (uTL_remade (uTL_remade τ (A_IL_cut (gTL_remade τ) ((A_IL_length (gTL_remade τ)) - (A_TL_rowsTakenAt τ ss rr k)))) (A_IL_add (A_IL_cut (gTL_remade τ) ((A_IL_length (gTL_remade τ)) - (A_TL_rowsTakenAt τ ss rr k))) (A_TL_kindMadeAt τ ss rr k ((A_IL_length (gTL_remade τ)) - (A_TL_rowsTakenAt τ ss rr k))))) ([[(h0, .inr (4, [.ref bS, .ref bR, .ref (ad 0), .ref (ad 1), .ref (ad 2), .ref (ad 3), .int (gTL_rowTold τ), .int (gTL_savedRows τ), .ref (ad 4), .ref (ad 5), .ref (ad 6), .ref (ad 7), .ref (ad 8), .ref (ad 9)]))], w26, w28, w30, w32, w34, w36, w38, w40, u55, w44].flatten) := ⟨w26, w28, w30, w32, w34, w36, w38, w40, u55, w44, rfl, h27, h29, h31, h33, h35, h37, h39, h41, hu56, h45⟩
            refine rdV (G := G) (As := [.int k]) (rest := []) (C := RTL) ⟨hx, hb, hml, hown, hts⟩ (c_TL_isSavedAt l G h0 bS bR ad adL (uTL_remade (uTL_remade τ (A_IL_cut (gTL_remade τ) ((A_IL_length (gTL_remade τ)) - (A_TL_rowsTakenAt τ ss rr k)))) (A_IL_add (A_IL_cut (gTL_remade τ) ((A_IL_length (gTL_remade τ)) - (A_TL_rowsTakenAt τ ss rr k))) (A_TL_kindMadeAt τ ss rr k ((A_IL_length (gTL_remade τ)) - (A_TL_rowsTakenAt τ ss rr k))))) k _ _ hB.1 hpk57 _ rfl) (cwV 1 hts (gd_V ml_TL_136 im_TL_isSavedAt sl_TL_isSavedAt ini_TL k_TL_isSavedAt) rfl rmK_c rmK_s (by decide +kernel) ⟨Nat.le_of_ble_eq_true rfl, Nat.le_of_ble_eq_true rfl⟩) hK (pTL_recv hK hB.1 hpk57) hS ⟨Nat.le.intro hk, Nat.le.intro hk⟩ rfl hl.1 (Nat.le_of_ble_eq_true rfl) d_TL_makesItsRow_93 (fun locs hS => ?_)
            refine lv_if_eq (tgt := 107) hx hb d_TL_makesItsRow_96 (by decide) (fun c58 => ?_) (fun c58 => ?_)
            · have hr0 := ai_pos c58 hr0
              have hk := ki_pos c58 hk
              refine lv_iinc (v := k + 1) (lv' := [(1, .int (k + 1)), (3, .int (A_TL_kindMadeAt τ ss rr k ((A_IL_length (gTL_remade τ)) - (A_TL_rowsTakenAt τ ss rr k)))), (2, .int ((A_IL_length (gTL_remade τ)) - (A_TL_rowsTakenAt τ ss rr k))), (0, .ref h0)]) hx hb d_TL_makesItsRow_107 hl (k := 3) rfl rfl (by decide) rfl (fun ls hl => ?_)
              refine lv_goto (tgt := 28) hx hb d_TL_makesItsRow_110 (by decide) ?_
              exact ih28 _ _ _ _ ⟨(k + 1), (uTL_remade (uTL_remade τ (A_IL_cut (gTL_remade τ) ((A_IL_length (gTL_remade τ)) - (A_TL_rowsTakenAt τ ss rr k)))) (A_IL_add (A_IL_cut (gTL_remade τ) ((A_IL_length (gTL_remade τ)) - (A_TL_rowsTakenAt τ ss rr k))) (A_TL_kindMadeAt τ ss rr k ((A_IL_length (gTL_remade τ)) - (A_TL_rowsTakenAt τ ss rr k))))), _, ⟨w26, w28, w30, w32, w34, w36, w38, w40, u55, w44, rfl, h27, h29, h31, h33, h35, h37, h39, h41, hu56, h45⟩, bk_one hB, hS, lv_sub hl [3, 0] rfl, hr0, hk, up_dec c46 hm28⟩
            · have hr0 := ai_neg c58 hr0
              have hk := ki_neg c58 hk
              refine lv_aload_n hx hb d_TL_makesItsRow_99 rfl (lv_at hl 2 rfl) ?_
              refine va_get (D := G.1) (ci := 4) (v := .ref (ad 9)) (C := RTL) (T := TTL) (N := 14) hx hb hts inTL hown hK hB.1 0 rfl rfl 13 (by decide) (hts _ fl_TL_61) (fun _ h9 => h9) rfl d_TL_makesItsRow_100 ?_
              refine lv_iload_n hx hb d_TL_makesItsRow_103 rfl (lv_at hl 0 rfl) ?_
              refine wrV (G := G) (k := 10) (As := [.int (A_TL_kindMadeAt τ ss rr k ((A_IL_length (gTL_remade τ)) - (A_TL_rowsTakenAt τ ss rr k)))]) (rest := []) (C := RIL) ⟨hx, hb, hml, hown, hts⟩ (c_IL_add l G (ad 9) (gTL_savedKinds τ) (A_TL_kindMadeAt τ ss rr k ((A_IL_length (gTL_remade τ)) - (A_TL_rowsTakenAt τ ss rr k))) _ _ (bk_gP (k := 10) hB.1 rfl) (bk_own (k := 10) hB rfl) h45 _ rfl _ rfl (bk_ub hk hKb)) (cwV 1 hts (gd_V ml_TL_133 im_IL_add sl_IL_add ini_IL k_IL_add) rfl rmK_c rmK_s (by decide +kernel) ⟨Nat.le_of_ble_eq_true rfl, Nat.le_of_ble_eq_true rfl⟩) hK (pIL_recv hK (bk_gP (k := 10) hB.1 rfl) h45) hS hA hB rfl hk ⟨rfl, rfl⟩ rfl hl.1 (Nat.le_of_ble_eq_true rfl) d_TL_makesItsRow_104 (fun u59 H locs kc hu60 hB hS hk => ?_)
              have hB : bk G.1 vwCl A [[(h0, .inr (4, [.ref bS, .ref bR, .ref (ad 0), .ref (ad 1), .ref (ad 2), .ref (ad 3), .int (gTL_rowTold τ), .int (gTL_savedRows τ), .ref (ad 4), .ref (ad 5), .ref (ad 6), .ref (ad 7), .ref (ad 8), .ref (ad 9)]))], w26, w28, w30, w32, w34, w36, w38, w40, u55, u59] H := hB
              refine lv_iinc (v := k + 1) (lv' := [(1, .int (k + 1)), (3, .int (A_TL_kindMadeAt τ ss rr k ((A_IL_length (gTL_remade τ)) - (A_TL_rowsTakenAt τ ss rr k)))), (2, .int ((A_IL_length (gTL_remade τ)) - (A_TL_rowsTakenAt τ ss rr k))), (0, .ref h0)]) hx hb d_TL_makesItsRow_107 hl (k := 3) rfl rfl (by decide) rfl (fun ls hl => ?_)
              refine lv_goto (tgt := 28) hx hb d_TL_makesItsRow_110 (by decide) ?_
              exact ih28 _ _ _ _ ⟨(k + 1), (uTL_savedKinds (uTL_remade (uTL_remade τ (A_IL_cut (gTL_remade τ) ((A_IL_length (gTL_remade τ)) - (A_TL_rowsTakenAt τ ss rr k)))) (A_IL_add (A_IL_cut (gTL_remade τ) ((A_IL_length (gTL_remade τ)) - (A_TL_rowsTakenAt τ ss rr k))) (A_TL_kindMadeAt τ ss rr k ((A_IL_length (gTL_remade τ)) - (A_TL_rowsTakenAt τ ss rr k))))) (A_IL_add (gTL_savedKinds τ) (A_TL_kindMadeAt τ ss rr k ((A_IL_length (gTL_remade τ)) - (A_TL_rowsTakenAt τ ss rr k))))), _, ⟨w26, w28, w30, w32, w34, w36, w38, w40, u55, u59, rfl, h27, h29, h31, h33, h35, h37, h39, h41, hu56, hu60⟩, bk_one hB, hS, lv_sub hl [3, 0] rfl, hr0, hk, up_dec c46 hm28⟩
          · have hr0 := ai_pos c52 hr0
            have hk := ki_pos c52 hk
            refine lv_iconst (v := 0) hx hb d_TL_makesItsRow_73 (by decide) ?_
            subst hr0
            refine W.widen (k := Kt) (n := Kt) (Nat.le.intro hk) (Nat.le.intro hk) ?_
            exact W.zret (v := 0) hx hb hr (by decide) (fun t ht hW => ⟨⟨0, [[(h0, .inr (4, [.ref bS, .ref bR, .ref (ad 0), .ref (ad 1), .ref (ad 2), .ref (ad 3), .int (gTL_rowTold τ), .int (gTL_savedRows τ), .ref (ad 4), .ref (ad 5), .ref (ad 6), .ref (ad 7), .ref (ad 8), .ref (ad 9)]))], w26, w28, w30, w32, w34, w36, w38, w40, w42, w44].flatten, rfl, ⟨rfl, ⟨w26, w28, w30, w32, w34, w36, w38, w40, w42, w44, rfl, h27, h29, h31, h33, h35, h37, h39, h41, h43, h45⟩⟩, by rw [ht]; exact hB.1, hB.2⟩, hS.F ht⟩) hS.2.2 d_TL_makesItsRow_74
        · have hr0 := ai_neg c50 hr0
          have hk := ki_neg c50 hk
          refine lv_iconst (v := (-1)) hx hb d_TL_makesItsRow_57 (by decide) ?_
          refine lv_goto (tgt := 67) hx hb d_TL_makesItsRow_58 (by decide) ?_
          refine lv_istore_n (lv' := [(3, .int (-1)), (2, .int ((A_IL_length (gTL_remade τ)) - (A_TL_rowsTakenAt τ ss rr k))), (0, .ref h0), (1, .int k)]) hx hb d_TL_makesItsRow_67 rfl hl (by decide) rfl (fun ls hl => ?_)
          refine lv_iload_n hx hb d_TL_makesItsRow_68 rfl (lv_at hl 0 rfl) ?_
          refine lv_iconst (v := (-1)) hx hb d_TL_makesItsRow_69 (by decide) ?_
          refine lv_icmp_ne (tgt := 75) hx hb d_TL_makesItsRow_70 (by decide) (fun c61 => ?_) (fun c61 => ?_)
          · exact absurd (by decide) c61
          · refine lv_iconst (v := 0) hx hb d_TL_makesItsRow_73 (by decide) ?_
            subst hr0
            refine W.widen (k := Kt) (n := Kt) (Nat.le.intro hk) (Nat.le.intro hk) ?_
            exact W.zret (v := 0) hx hb hr (by decide) (fun t ht hW => ⟨⟨0, [[(h0, .inr (4, [.ref bS, .ref bR, .ref (ad 0), .ref (ad 1), .ref (ad 2), .ref (ad 3), .int (gTL_rowTold τ), .int (gTL_savedRows τ), .ref (ad 4), .ref (ad 5), .ref (ad 6), .ref (ad 7), .ref (ad 8), .ref (ad 9)]))], w26, w28, w30, w32, w34, w36, w38, w40, w42, w44].flatten, rfl, ⟨rfl, ⟨w26, w28, w30, w32, w34, w36, w38, w40, w42, w44, rfl, h27, h29, h31, h33, h35, h37, h39, h41, h43, h45⟩⟩, by rw [ht]; exact hB.1, hB.2⟩, hS.F ht⟩) hS.2.2 d_TL_makesItsRow_74
    · rintro H locs kc ls ⟨_, _, _, -, -, -, -, -, -, hz⟩; exact Nat.not_lt_zero _ hz
  · have hr0 := ai_pos c21 hr0
    have hk := ki_pos c21 hk
    refine lv_iconst (v := 1) hx hb d_TL_makesItsRow_8 (by decide) ?_
    subst hr0
    refine W.widen (k := Kt) (n := Kt) (Nat.le.intro hk) (Nat.le.intro hk) ?_
    exact W.zret (v := 1) hx hb hr (by decide) (fun t ht hW => ⟨⟨1, [[(h0, .inr (4, [.ref bS, .ref bR, .ref (ad 0), .ref (ad 1), .ref (ad 2), .ref (ad 3), .int (gTL_rowTold σ), .int (gTL_savedRows σ), .ref (ad 4), .ref (ad 5), .ref (ad 6), .ref (ad 7), .ref (ad 8), .ref (ad 9)]))], w1, w3, w5, w7, w9, w11, w13, w15, w17, w19].flatten, rfl, ⟨rfl, ⟨w1, w3, w5, w7, w9, w11, w13, w15, w17, w19, rfl, h2, h4, h6, h8, h10, h12, h14, h16, h18, h20⟩⟩, by rw [ht]; exact hB.1, hB.2⟩, hS.F ht⟩) hS.2.2 d_TL_makesItsRow_9
end
section
theorem d_PP_init_0 : decode b_PP_init 0 = .ok (.aload_n 0, 1) := by decide +kernel
theorem d_PP_init_1 : decode b_PP_init 1 = .ok (.invokespecial 1, 3) := by decide +kernel
theorem d_PP_init_4 : decode b_PP_init 4 = .ok (.aload_n 0, 1) := by decide +kernel
theorem d_PP_init_5 : decode b_PP_init 5 = .ok (.new 7, 3) := by decide +kernel
theorem d_PP_init_8 : decode b_PP_init 8 = .ok (.dup, 1) := by decide +kernel
theorem d_PP_init_9 : decode b_PP_init 9 = .ok (.invokespecial 9, 3) := by decide +kernel
theorem d_PP_init_12 : decode b_PP_init 12 = .ok (.putfield 10, 3) := by decide +kernel
theorem d_PP_init_15 : decode b_PP_init 15 = .ok (.aload_n 0, 1) := by decide +kernel
theorem d_PP_init_16 : decode b_PP_init 16 = .ok (.new 16, 3) := by decide +kernel
theorem d_PP_init_19 : decode b_PP_init 19 = .ok (.dup, 1) := by decide +kernel
theorem d_PP_init_20 : decode b_PP_init 20 = .ok (.invokespecial 18, 3) := by decide +kernel
theorem d_PP_init_23 : decode b_PP_init 23 = .ok (.putfield 19, 3) := by decide +kernel
theorem d_PP_init_26 : decode b_PP_init 26 = .ok (.aload_n 0, 1) := by decide +kernel
theorem d_PP_init_27 : decode b_PP_init 27 = .ok (.new 23, 3) := by decide +kernel
theorem d_PP_init_30 : decode b_PP_init 30 = .ok (.dup, 1) := by decide +kernel
theorem d_PP_init_31 : decode b_PP_init 31 = .ok (.aload_n 0, 1) := by decide +kernel
theorem d_PP_init_32 : decode b_PP_init 32 = .ok (.getfield 10, 3) := by decide +kernel
theorem d_PP_init_35 : decode b_PP_init 35 = .ok (.aload_n 0, 1) := by decide +kernel
theorem d_PP_init_36 : decode b_PP_init 36 = .ok (.getfield 19, 3) := by decide +kernel
theorem d_PP_init_39 : decode b_PP_init 39 = .ok (.invokespecial 25, 3) := by decide +kernel
theorem d_PP_init_42 : decode b_PP_init 42 = .ok (.putfield 28, 3) := by decide +kernel
theorem d_PP_init_45 : decode b_PP_init 45 = .ok (.aload_n 0, 1) := by decide +kernel
theorem d_PP_init_46 : decode b_PP_init 46 = .ok (.new 32, 3) := by decide +kernel
theorem d_PP_init_49 : decode b_PP_init 49 = .ok (.dup, 1) := by decide +kernel
theorem d_PP_init_50 : decode b_PP_init 50 = .ok (.invokespecial 34, 3) := by decide +kernel
theorem d_PP_init_53 : decode b_PP_init 53 = .ok (.putfield 35, 3) := by decide +kernel
theorem d_PP_init_56 : decode b_PP_init 56 = .ok (.aload_n 0, 1) := by decide +kernel
theorem d_PP_init_57 : decode b_PP_init 57 = .ok (.iconst 0, 1) := by decide +kernel
theorem d_PP_init_58 : decode b_PP_init 58 = .ok (.putfield 39, 3) := by decide +kernel
theorem d_PP_init_61 : decode b_PP_init 61 = .ok (.return_, 1) := by decide +kernel
theorem d_PP_statement_0 : decode b_PP_statement 0 = .ok (.iload_n 1, 1) := by decide +kernel
theorem d_PP_statement_1 : decode b_PP_statement 1 = .ok (.ifCond .lt 22, 3) := by decide +kernel
theorem d_PP_statement_4 : decode b_PP_statement 4 = .ok (.iload_n 1, 1) := by decide +kernel
theorem d_PP_statement_5 : decode b_PP_statement 5 = .ok (.bipush 60, 2) := by decide +kernel
theorem d_PP_statement_7 : decode b_PP_statement 7 = .ok (.if_icmp .gt 16, 3) := by decide +kernel
theorem d_PP_statement_10 : decode b_PP_statement 10 = .ok (.aload_n 0, 1) := by decide +kernel
theorem d_PP_statement_11 : decode b_PP_statement 11 = .ok (.getfield 10, 3) := by decide +kernel
theorem d_PP_statement_14 : decode b_PP_statement 14 = .ok (.invokevirtual 43, 3) := by decide +kernel
theorem d_PP_statement_17 : decode b_PP_statement 17 = .ok (.sipush 1500, 3) := by decide +kernel
theorem d_PP_statement_20 : decode b_PP_statement 20 = .ok (.if_icmp .lt 5, 3) := by decide +kernel
theorem d_PP_statement_23 : decode b_PP_statement 23 = .ok (.iconst (-1), 1) := by decide +kernel
theorem d_PP_statement_24 : decode b_PP_statement 24 = .ok (.ireturn, 1) := by decide +kernel
theorem d_PP_statement_25 : decode b_PP_statement 25 = .ok (.aload_n 0, 1) := by decide +kernel
theorem d_PP_statement_26 : decode b_PP_statement 26 = .ok (.getfield 10, 3) := by decide +kernel
theorem d_PP_statement_29 : decode b_PP_statement 29 = .ok (.iload_n 1, 1) := by decide +kernel
theorem d_PP_statement_30 : decode b_PP_statement 30 = .ok (.invokevirtual 47, 3) := by decide +kernel
theorem d_PP_statement_33 : decode b_PP_statement 33 = .ok (.ireturn, 1) := by decide +kernel
theorem d_PP_mandatory_0 : decode b_PP_mandatory 0 = .ok (.aload_n 0, 1) := by decide +kernel
theorem d_PP_mandatory_1 : decode b_PP_mandatory 1 = .ok (.getfield 10, 3) := by decide +kernel
theorem d_PP_mandatory_4 : decode b_PP_mandatory 4 = .ok (.iload_n 1, 1) := by decide +kernel
theorem d_PP_mandatory_5 : decode b_PP_mandatory 5 = .ok (.invokevirtual 51, 3) := by decide +kernel
theorem d_PP_mandatory_8 : decode b_PP_mandatory 8 = .ok (.ifCond .eq 14, 3) := by decide +kernel
theorem d_PP_mandatory_11 : decode b_PP_mandatory 11 = .ok (.aload_n 0, 1) := by decide +kernel
theorem d_PP_mandatory_12 : decode b_PP_mandatory 12 = .ok (.getfield 10, 3) := by decide +kernel
theorem d_PP_mandatory_15 : decode b_PP_mandatory 15 = .ok (.iload_n 1, 1) := by decide +kernel
theorem d_PP_mandatory_16 : decode b_PP_mandatory 16 = .ok (.invokevirtual 55, 3) := by decide +kernel
theorem d_PP_mandatory_19 : decode b_PP_mandatory 19 = .ok (.ifCond .eq 5, 3) := by decide +kernel
theorem d_PP_mandatory_22 : decode b_PP_mandatory 22 = .ok (.iconst (-1), 1) := by decide +kernel
theorem d_PP_mandatory_23 : decode b_PP_mandatory 23 = .ok (.ireturn, 1) := by decide +kernel
theorem d_PP_mandatory_24 : decode b_PP_mandatory 24 = .ok (.aload_n 0, 1) := by decide +kernel
theorem d_PP_mandatory_25 : decode b_PP_mandatory 25 = .ok (.getfield 10, 3) := by decide +kernel
theorem d_PP_mandatory_28 : decode b_PP_mandatory 28 = .ok (.iload_n 1, 1) := by decide +kernel
theorem d_PP_mandatory_29 : decode b_PP_mandatory 29 = .ok (.invokevirtual 58, 3) := by decide +kernel
theorem d_PP_mandatory_32 : decode b_PP_mandatory 32 = .ok (.ifCond .ne 15, 3) := by decide +kernel
theorem d_PP_mandatory_35 : decode b_PP_mandatory 35 = .ok (.aload_n 0, 1) := by decide +kernel
theorem d_PP_mandatory_36 : decode b_PP_mandatory 36 = .ok (.getfield 10, 3) := by decide +kernel
theorem d_PP_mandatory_39 : decode b_PP_mandatory 39 = .ok (.invokevirtual 61, 3) := by decide +kernel
theorem d_PP_mandatory_42 : decode b_PP_mandatory 42 = .ok (.bipush 60, 2) := by decide +kernel
theorem d_PP_mandatory_44 : decode b_PP_mandatory 44 = .ok (.if_icmp .lt 5, 3) := by decide +kernel
theorem d_PP_mandatory_47 : decode b_PP_mandatory 47 = .ok (.iconst (-1), 1) := by decide +kernel
theorem d_PP_mandatory_48 : decode b_PP_mandatory 48 = .ok (.ireturn, 1) := by decide +kernel
theorem d_PP_mandatory_49 : decode b_PP_mandatory 49 = .ok (.aload_n 0, 1) := by decide +kernel
theorem d_PP_mandatory_50 : decode b_PP_mandatory 50 = .ok (.getfield 10, 3) := by decide +kernel
theorem d_PP_mandatory_53 : decode b_PP_mandatory 53 = .ok (.iload_n 1, 1) := by decide +kernel
theorem d_PP_mandatory_54 : decode b_PP_mandatory 54 = .ok (.invokevirtual 64, 3) := by decide +kernel
theorem d_PP_mandatory_57 : decode b_PP_mandatory 57 = .ok (.ireturn, 1) := by decide +kernel
theorem d_PP_make_0 : decode b_PP_make 0 = .ok (.aload_n 0, 1) := by decide +kernel
theorem d_PP_make_1 : decode b_PP_make 1 = .ok (.getfield 10, 3) := by decide +kernel
theorem d_PP_make_4 : decode b_PP_make 4 = .ok (.iload_n 1, 1) := by decide +kernel
theorem d_PP_make_5 : decode b_PP_make 5 = .ok (.invokevirtual 51, 3) := by decide +kernel
theorem d_PP_make_8 : decode b_PP_make 8 = .ok (.ifCond .ne 5, 3) := by decide +kernel
theorem d_PP_make_11 : decode b_PP_make 11 = .ok (.iconst (-1), 1) := by decide +kernel
theorem d_PP_make_12 : decode b_PP_make 12 = .ok (.ireturn, 1) := by decide +kernel
theorem d_PP_make_13 : decode b_PP_make 13 = .ok (.aload_n 0, 1) := by decide +kernel
theorem d_PP_make_14 : decode b_PP_make 14 = .ok (.getfield 35, 3) := by decide +kernel
theorem d_PP_make_17 : decode b_PP_make 17 = .ok (.invokevirtual 67, 3) := by decide +kernel
theorem d_PP_make_20 : decode b_PP_make 20 = .ok (.aload_n 0, 1) := by decide +kernel
theorem d_PP_make_21 : decode b_PP_make 21 = .ok (.getfield 10, 3) := by decide +kernel
theorem d_PP_make_24 : decode b_PP_make 24 = .ok (.iload_n 1, 1) := by decide +kernel
theorem d_PP_make_25 : decode b_PP_make 25 = .ok (.invokevirtual 55, 3) := by decide +kernel
theorem d_PP_make_28 : decode b_PP_make 28 = .ok (.isub, 1) := by decide +kernel
theorem d_PP_make_29 : decode b_PP_make 29 = .ok (.istore_n 2, 1) := by decide +kernel
theorem d_PP_make_30 : decode b_PP_make 30 = .ok (.iload_n 2, 1) := by decide +kernel
theorem d_PP_make_31 : decode b_PP_make 31 = .ok (.ifCond .lt 24, 3) := by decide +kernel
theorem d_PP_make_34 : decode b_PP_make 34 = .ok (.aload_n 0, 1) := by decide +kernel
theorem d_PP_make_35 : decode b_PP_make 35 = .ok (.getfield 19, 3) := by decide +kernel
theorem d_PP_make_38 : decode b_PP_make 38 = .ok (.invokevirtual 70, 3) := by decide +kernel
theorem d_PP_make_41 : decode b_PP_make 41 = .ok (.sipush 4000, 3) := by decide +kernel
theorem d_PP_make_44 : decode b_PP_make 44 = .ok (.if_icmp .ge 11, 3) := by decide +kernel
theorem d_PP_make_47 : decode b_PP_make 47 = .ok (.aload_n 0, 1) := by decide +kernel
theorem d_PP_make_48 : decode b_PP_make 48 = .ok (.iload_n 2, 1) := by decide +kernel
theorem d_PP_make_49 : decode b_PP_make 49 = .ok (.invokevirtual 71, 3) := by decide +kernel
theorem d_PP_make_52 : decode b_PP_make 52 = .ok (.ifCond .ne 5, 3) := by decide +kernel
theorem d_PP_make_55 : decode b_PP_make 55 = .ok (.iconst (-1), 1) := by decide +kernel
theorem d_PP_make_56 : decode b_PP_make 56 = .ok (.ireturn, 1) := by decide +kernel
theorem d_PP_make_57 : decode b_PP_make 57 = .ok (.aload_n 0, 1) := by decide +kernel
theorem d_PP_make_58 : decode b_PP_make 58 = .ok (.getfield 19, 3) := by decide +kernel
theorem d_PP_make_61 : decode b_PP_make 61 = .ok (.iload_n 1, 1) := by decide +kernel
theorem d_PP_make_62 : decode b_PP_make 62 = .ok (.aload_n 0, 1) := by decide +kernel
theorem d_PP_make_63 : decode b_PP_make 63 = .ok (.getfield 35, 3) := by decide +kernel
theorem d_PP_make_66 : decode b_PP_make 66 = .ok (.iload_n 2, 1) := by decide +kernel
theorem d_PP_make_67 : decode b_PP_make 67 = .ok (.invokevirtual 74, 3) := by decide +kernel
theorem d_PP_make_70 : decode b_PP_make 70 = .ok (.istore_n 3, 1) := by decide +kernel
theorem d_PP_make_71 : decode b_PP_make 71 = .ok (.aload_n 0, 1) := by decide +kernel
theorem d_PP_make_72 : decode b_PP_make 72 = .ok (.getfield 35, 3) := by decide +kernel
theorem d_PP_make_75 : decode b_PP_make 75 = .ok (.iload_n 2, 1) := by decide +kernel
theorem d_PP_make_76 : decode b_PP_make 76 = .ok (.invokevirtual 77, 3) := by decide +kernel
theorem d_PP_make_79 : decode b_PP_make 79 = .ok (.aload_n 0, 1) := by decide +kernel
theorem d_PP_make_80 : decode b_PP_make 80 = .ok (.iload_n 3, 1) := by decide +kernel
theorem d_PP_make_81 : decode b_PP_make 81 = .ok (.invokevirtual 81, 3) := by decide +kernel
theorem d_PP_make_84 : decode b_PP_make 84 = .ok (.iload_n 3, 1) := by decide +kernel
theorem d_PP_make_85 : decode b_PP_make 85 = .ok (.ireturn, 1) := by decide +kernel
theorem d_PP_again_0 : decode b_PP_again 0 = .ok (.aload_n 0, 1) := by decide +kernel
theorem d_PP_again_1 : decode b_PP_again 1 = .ok (.getfield 19, 3) := by decide +kernel
theorem d_PP_again_4 : decode b_PP_again 4 = .ok (.iload_n 1, 1) := by decide +kernel
theorem d_PP_again_5 : decode b_PP_again 5 = .ok (.invokevirtual 84, 3) := by decide +kernel
theorem d_PP_again_8 : decode b_PP_again 8 = .ok (.ifCond .eq 17, 3) := by decide +kernel
theorem d_PP_again_11 : decode b_PP_again 11 = .ok (.aload_n 0, 1) := by decide +kernel
theorem d_PP_again_12 : decode b_PP_again 12 = .ok (.aload_n 0, 1) := by decide +kernel
theorem d_PP_again_13 : decode b_PP_again 13 = .ok (.getfield 35, 3) := by decide +kernel
theorem d_PP_again_16 : decode b_PP_again 16 = .ok (.invokevirtual 67, 3) := by decide +kernel
theorem d_PP_again_19 : decode b_PP_again 19 = .ok (.invokevirtual 71, 3) := by decide +kernel
theorem d_PP_again_22 : decode b_PP_again 22 = .ok (.ifCond .ne 5, 3) := by decide +kernel
theorem d_PP_again_25 : decode b_PP_again 25 = .ok (.iconst (-1), 1) := by decide +kernel
theorem d_PP_again_26 : decode b_PP_again 26 = .ok (.ireturn, 1) := by decide +kernel
theorem d_PP_again_27 : decode b_PP_again 27 = .ok (.aload_n 0, 1) := by decide +kernel
theorem d_PP_again_28 : decode b_PP_again 28 = .ok (.iload_n 1, 1) := by decide +kernel
theorem d_PP_again_29 : decode b_PP_again 29 = .ok (.invokevirtual 81, 3) := by decide +kernel
theorem d_PP_again_32 : decode b_PP_again 32 = .ok (.aload_n 0, 1) := by decide +kernel
theorem d_PP_again_33 : decode b_PP_again 33 = .ok (.getfield 35, 3) := by decide +kernel
theorem d_PP_again_36 : decode b_PP_again 36 = .ok (.invokevirtual 67, 3) := by decide +kernel
theorem d_PP_again_39 : decode b_PP_again 39 = .ok (.ireturn, 1) := by decide +kernel
theorem d_PP_clear_0 : decode b_PP_clear 0 = .ok (.aload_n 0, 1) := by decide +kernel
theorem d_PP_clear_1 : decode b_PP_clear 1 = .ok (.getfield 19, 3) := by decide +kernel
theorem d_PP_clear_4 : decode b_PP_clear 4 = .ok (.invokevirtual 70, 3) := by decide +kernel
theorem d_PP_clear_7 : decode b_PP_clear 7 = .ok (.istore_n 1, 1) := by decide +kernel
theorem d_PP_clear_8 : decode b_PP_clear 8 = .ok (.aload_n 0, 1) := by decide +kernel
theorem d_PP_clear_9 : decode b_PP_clear 9 = .ok (.getfield 19, 3) := by decide +kernel
theorem d_PP_clear_12 : decode b_PP_clear 12 = .ok (.invokevirtual 85, 3) := by decide +kernel
theorem d_PP_clear_15 : decode b_PP_clear 15 = .ok (.aload_n 0, 1) := by decide +kernel
theorem d_PP_clear_16 : decode b_PP_clear 16 = .ok (.getfield 28, 3) := by decide +kernel
theorem d_PP_clear_19 : decode b_PP_clear 19 = .ok (.invokevirtual 88, 3) := by decide +kernel
theorem d_PP_clear_22 : decode b_PP_clear 22 = .ok (.aload_n 0, 1) := by decide +kernel
theorem d_PP_clear_23 : decode b_PP_clear 23 = .ok (.getfield 35, 3) := by decide +kernel
theorem d_PP_clear_26 : decode b_PP_clear 26 = .ok (.iconst 0, 1) := by decide +kernel
theorem d_PP_clear_27 : decode b_PP_clear 27 = .ok (.invokevirtual 77, 3) := by decide +kernel
theorem d_PP_clear_30 : decode b_PP_clear 30 = .ok (.aload_n 0, 1) := by decide +kernel
theorem d_PP_clear_31 : decode b_PP_clear 31 = .ok (.iconst 0, 1) := by decide +kernel
theorem d_PP_clear_32 : decode b_PP_clear 32 = .ok (.putfield 39, 3) := by decide +kernel
theorem d_PP_clear_35 : decode b_PP_clear 35 = .ok (.iload_n 1, 1) := by decide +kernel
theorem d_PP_clear_36 : decode b_PP_clear 36 = .ok (.ireturn, 1) := by decide +kernel
theorem d_PP_count_0 : decode b_PP_count 0 = .ok (.iload_n 1, 1) := by decide +kernel
theorem d_PP_count_1 : decode b_PP_count 1 = .ok (.tableswitch 84 0 5 #[39, 47, 55, 63, 71, 76], 39) := by decide +kernel
theorem d_PP_count_40 : decode b_PP_count 40 = .ok (.aload_n 0, 1) := by decide +kernel
theorem d_PP_count_41 : decode b_PP_count 41 = .ok (.getfield 10, 3) := by decide +kernel
theorem d_PP_count_44 : decode b_PP_count 44 = .ok (.invokevirtual 43, 3) := by decide +kernel
theorem d_PP_count_47 : decode b_PP_count 47 = .ok (.ireturn, 1) := by decide +kernel
theorem d_PP_count_48 : decode b_PP_count 48 = .ok (.aload_n 0, 1) := by decide +kernel
theorem d_PP_count_49 : decode b_PP_count 49 = .ok (.getfield 10, 3) := by decide +kernel
theorem d_PP_count_52 : decode b_PP_count 52 = .ok (.invokevirtual 61, 3) := by decide +kernel
theorem d_PP_count_55 : decode b_PP_count 55 = .ok (.ireturn, 1) := by decide +kernel
theorem d_PP_count_56 : decode b_PP_count 56 = .ok (.aload_n 0, 1) := by decide +kernel
theorem d_PP_count_57 : decode b_PP_count 57 = .ok (.getfield 19, 3) := by decide +kernel
theorem d_PP_count_60 : decode b_PP_count 60 = .ok (.invokevirtual 70, 3) := by decide +kernel
theorem d_PP_count_63 : decode b_PP_count 63 = .ok (.ireturn, 1) := by decide +kernel
theorem d_PP_count_64 : decode b_PP_count 64 = .ok (.aload_n 0, 1) := by decide +kernel
theorem d_PP_count_65 : decode b_PP_count 65 = .ok (.getfield 35, 3) := by decide +kernel
theorem d_PP_count_68 : decode b_PP_count 68 = .ok (.invokevirtual 67, 3) := by decide +kernel
theorem d_PP_count_71 : decode b_PP_count 71 = .ok (.ireturn, 1) := by decide +kernel
theorem d_PP_count_72 : decode b_PP_count 72 = .ok (.aload_n 0, 1) := by decide +kernel
theorem d_PP_count_73 : decode b_PP_count 73 = .ok (.getfield 39, 3) := by decide +kernel
theorem d_PP_count_76 : decode b_PP_count 76 = .ok (.ireturn, 1) := by decide +kernel
theorem d_PP_count_77 : decode b_PP_count 77 = .ok (.aload_n 0, 1) := by decide +kernel
theorem d_PP_count_78 : decode b_PP_count 78 = .ok (.getfield 19, 3) := by decide +kernel
theorem d_PP_count_81 : decode b_PP_count 81 = .ok (.invokevirtual 89, 3) := by decide +kernel
theorem d_PP_count_84 : decode b_PP_count 84 = .ok (.ireturn, 1) := by decide +kernel
theorem d_PP_count_85 : decode b_PP_count 85 = .ok (.iconst (-1), 1) := by decide +kernel
theorem d_PP_count_86 : decode b_PP_count 86 = .ok (.ireturn, 1) := by decide +kernel
theorem d_PP_row_0 : decode b_PP_row 0 = .ok (.aload_n 0, 1) := by decide +kernel
theorem d_PP_row_1 : decode b_PP_row 1 = .ok (.getfield 19, 3) := by decide +kernel
theorem d_PP_row_4 : decode b_PP_row 4 = .ok (.iload_n 1, 1) := by decide +kernel
theorem d_PP_row_5 : decode b_PP_row 5 = .ok (.invokevirtual 92, 3) := by decide +kernel
theorem d_PP_row_8 : decode b_PP_row 8 = .ok (.ireturn, 1) := by decide +kernel
theorem d_PP_frm_0 : decode b_PP_frm 0 = .ok (.aload_n 0, 1) := by decide +kernel
theorem d_PP_frm_1 : decode b_PP_frm 1 = .ok (.getfield 19, 3) := by decide +kernel
theorem d_PP_frm_4 : decode b_PP_frm 4 = .ok (.iload_n 1, 1) := by decide +kernel
theorem d_PP_frm_5 : decode b_PP_frm 5 = .ok (.iload_n 2, 1) := by decide +kernel
theorem d_PP_frm_6 : decode b_PP_frm 6 = .ok (.invokevirtual 95, 3) := by decide +kernel
theorem d_PP_frm_9 : decode b_PP_frm 9 = .ok (.ireturn, 1) := by decide +kernel
theorem d_PP_same_0 : decode b_PP_same 0 = .ok (.aload_n 0, 1) := by decide +kernel
theorem d_PP_same_1 : decode b_PP_same 1 = .ok (.getfield 19, 3) := by decide +kernel
theorem d_PP_same_4 : decode b_PP_same 4 = .ok (.iload_n 1, 1) := by decide +kernel
theorem d_PP_same_5 : decode b_PP_same 5 = .ok (.invokevirtual 84, 3) := by decide +kernel
theorem d_PP_same_8 : decode b_PP_same 8 = .ok (.ifCond .eq 14, 3) := by decide +kernel
theorem d_PP_same_11 : decode b_PP_same 11 = .ok (.aload_n 0, 1) := by decide +kernel
theorem d_PP_same_12 : decode b_PP_same 12 = .ok (.getfield 19, 3) := by decide +kernel
theorem d_PP_same_15 : decode b_PP_same 15 = .ok (.iload_n 2, 1) := by decide +kernel
theorem d_PP_same_16 : decode b_PP_same 16 = .ok (.invokevirtual 84, 3) := by decide +kernel
theorem d_PP_same_19 : decode b_PP_same 19 = .ok (.ifCond .ne 5, 3) := by decide +kernel
theorem d_PP_same_22 : decode b_PP_same 22 = .ok (.iconst (-1), 1) := by decide +kernel
theorem d_PP_same_23 : decode b_PP_same 23 = .ok (.ireturn, 1) := by decide +kernel
theorem d_PP_same_24 : decode b_PP_same 24 = .ok (.aload_n 0, 1) := by decide +kernel
theorem d_PP_same_25 : decode b_PP_same 25 = .ok (.getfield 19, 3) := by decide +kernel
theorem d_PP_same_28 : decode b_PP_same 28 = .ok (.iload_n 1, 1) := by decide +kernel
theorem d_PP_same_29 : decode b_PP_same 29 = .ok (.invokevirtual 99, 3) := by decide +kernel
theorem d_PP_same_32 : decode b_PP_same 32 = .ok (.aload_n 0, 1) := by decide +kernel
theorem d_PP_same_33 : decode b_PP_same 33 = .ok (.getfield 19, 3) := by decide +kernel
theorem d_PP_same_36 : decode b_PP_same 36 = .ok (.iload_n 2, 1) := by decide +kernel
theorem d_PP_same_37 : decode b_PP_same 37 = .ok (.invokevirtual 99, 3) := by decide +kernel
theorem d_PP_same_40 : decode b_PP_same 40 = .ok (.if_icmp .ne 7, 3) := by decide +kernel
theorem d_PP_same_43 : decode b_PP_same 43 = .ok (.iconst 1, 1) := by decide +kernel
theorem d_PP_same_44 : decode b_PP_same 44 = .ok (.goto 4, 3) := by decide +kernel
theorem d_PP_same_47 : decode b_PP_same 47 = .ok (.iconst 0, 1) := by decide +kernel
theorem d_PP_same_48 : decode b_PP_same 48 = .ok (.ireturn, 1) := by decide +kernel
theorem d_PP_pack_0 : decode b_PP_pack 0 = .ok (.aload_n 0, 1) := by decide +kernel
theorem d_PP_pack_1 : decode b_PP_pack 1 = .ok (.getfield 35, 3) := by decide +kernel
theorem d_PP_pack_4 : decode b_PP_pack 4 = .ok (.invokevirtual 67, 3) := by decide +kernel
theorem d_PP_pack_7 : decode b_PP_pack 7 = .ok (.iconst 1, 1) := by decide +kernel
theorem d_PP_pack_8 : decode b_PP_pack 8 = .ok (.if_icmp .eq 5, 3) := by decide +kernel
theorem d_PP_pack_11 : decode b_PP_pack 11 = .ok (.iconst (-1), 1) := by decide +kernel
theorem d_PP_pack_12 : decode b_PP_pack 12 = .ok (.ireturn, 1) := by decide +kernel
theorem d_PP_pack_13 : decode b_PP_pack 13 = .ok (.aload_n 0, 1) := by decide +kernel
theorem d_PP_pack_14 : decode b_PP_pack 14 = .ok (.getfield 28, 3) := by decide +kernel
theorem d_PP_pack_17 : decode b_PP_pack 17 = .ok (.aload_n 0, 1) := by decide +kernel
theorem d_PP_pack_18 : decode b_PP_pack 18 = .ok (.getfield 35, 3) := by decide +kernel
theorem d_PP_pack_21 : decode b_PP_pack 21 = .ok (.iconst 0, 1) := by decide +kernel
theorem d_PP_pack_22 : decode b_PP_pack 22 = .ok (.invokevirtual 102, 3) := by decide +kernel
theorem d_PP_pack_25 : decode b_PP_pack 25 = .ok (.invokevirtual 105, 3) := by decide +kernel
theorem d_PP_pack_28 : decode b_PP_pack 28 = .ok (.aload_n 0, 1) := by decide +kernel
theorem d_PP_pack_29 : decode b_PP_pack 29 = .ok (.getfield 28, 3) := by decide +kernel
theorem d_PP_pack_32 : decode b_PP_pack 32 = .ok (.invokevirtual 108, 3) := by decide +kernel
theorem d_PP_pack_35 : decode b_PP_pack 35 = .ok (.ireturn, 1) := by decide +kernel
theorem d_PP_step_0 : decode b_PP_step 0 = .ok (.aload_n 0, 1) := by decide +kernel
theorem d_PP_step_1 : decode b_PP_step 1 = .ok (.getfield 28, 3) := by decide +kernel
theorem d_PP_step_4 : decode b_PP_step 4 = .ok (.iload_n 1, 1) := by decide +kernel
theorem d_PP_step_5 : decode b_PP_step 5 = .ok (.invokevirtual 111, 3) := by decide +kernel
theorem d_PP_step_8 : decode b_PP_step 8 = .ok (.ireturn, 1) := by decide +kernel
theorem d_PP_saves_0 : decode b_PP_saves 0 = .ok (.iload_n 1, 1) := by decide +kernel
theorem d_PP_saves_1 : decode b_PP_saves 1 = .ok (.ifCond .lt 14, 3) := by decide +kernel
theorem d_PP_saves_4 : decode b_PP_saves 4 = .ok (.iload_n 1, 1) := by decide +kernel
theorem d_PP_saves_5 : decode b_PP_saves 5 = .ok (.aload_n 0, 1) := by decide +kernel
theorem d_PP_saves_6 : decode b_PP_saves 6 = .ok (.getfield 28, 3) := by decide +kernel
theorem d_PP_saves_9 : decode b_PP_saves 9 = .ok (.invokevirtual 108, 3) := by decide +kernel
theorem d_PP_saves_12 : decode b_PP_saves 12 = .ok (.if_icmp .lt 5, 3) := by decide +kernel
theorem d_PP_saves_15 : decode b_PP_saves 15 = .ok (.iconst (-1), 1) := by decide +kernel
theorem d_PP_saves_16 : decode b_PP_saves 16 = .ok (.ireturn, 1) := by decide +kernel
theorem d_PP_saves_17 : decode b_PP_saves 17 = .ok (.aload_n 0, 1) := by decide +kernel
theorem d_PP_saves_18 : decode b_PP_saves 18 = .ok (.getfield 28, 3) := by decide +kernel
theorem d_PP_saves_21 : decode b_PP_saves 21 = .ok (.iload_n 1, 1) := by decide +kernel
theorem d_PP_saves_22 : decode b_PP_saves 22 = .ok (.invokevirtual 114, 3) := by decide +kernel
theorem d_PP_saves_25 : decode b_PP_saves 25 = .ok (.ifCond .eq 7, 3) := by decide +kernel
theorem d_PP_saves_28 : decode b_PP_saves 28 = .ok (.iconst 1, 1) := by decide +kernel
theorem d_PP_saves_29 : decode b_PP_saves 29 = .ok (.goto 4, 3) := by decide +kernel
theorem d_PP_saves_32 : decode b_PP_saves 32 = .ok (.iconst 0, 1) := by decide +kernel
theorem d_PP_saves_33 : decode b_PP_saves 33 = .ok (.ireturn, 1) := by decide +kernel
theorem d_PP_label_0 : decode b_PP_label 0 = .ok (.aload_n 0, 1) := by decide +kernel
theorem d_PP_label_1 : decode b_PP_label 1 = .ok (.getfield 28, 3) := by decide +kernel
theorem d_PP_label_4 : decode b_PP_label 4 = .ok (.iload_n 1, 1) := by decide +kernel
theorem d_PP_label_5 : decode b_PP_label 5 = .ok (.invokevirtual 117, 3) := by decide +kernel
theorem d_PP_label_8 : decode b_PP_label 8 = .ok (.ireturn, 1) := by decide +kernel
theorem d_PP_packed_0 : decode b_PP_packed 0 = .ok (.iload_n 1, 1) := by decide +kernel
theorem d_PP_packed_1 : decode b_PP_packed 1 = .ok (.tableswitch 51 0 2 #[27, 35, 43], 27) := by decide +kernel
theorem d_PP_packed_28 : decode b_PP_packed 28 = .ok (.aload_n 0, 1) := by decide +kernel
theorem d_PP_packed_29 : decode b_PP_packed 29 = .ok (.getfield 28, 3) := by decide +kernel
theorem d_PP_packed_32 : decode b_PP_packed 32 = .ok (.invokevirtual 120, 3) := by decide +kernel
theorem d_PP_packed_35 : decode b_PP_packed 35 = .ok (.ireturn, 1) := by decide +kernel
theorem d_PP_packed_36 : decode b_PP_packed 36 = .ok (.aload_n 0, 1) := by decide +kernel
theorem d_PP_packed_37 : decode b_PP_packed 37 = .ok (.getfield 28, 3) := by decide +kernel
theorem d_PP_packed_40 : decode b_PP_packed 40 = .ok (.invokevirtual 123, 3) := by decide +kernel
theorem d_PP_packed_43 : decode b_PP_packed 43 = .ok (.ireturn, 1) := by decide +kernel
theorem d_PP_packed_44 : decode b_PP_packed 44 = .ok (.aload_n 0, 1) := by decide +kernel
theorem d_PP_packed_45 : decode b_PP_packed 45 = .ok (.getfield 28, 3) := by decide +kernel
theorem d_PP_packed_48 : decode b_PP_packed 48 = .ok (.invokevirtual 126, 3) := by decide +kernel
theorem d_PP_packed_51 : decode b_PP_packed 51 = .ok (.ireturn, 1) := by decide +kernel
theorem d_PP_packed_52 : decode b_PP_packed 52 = .ok (.iconst (-1), 1) := by decide +kernel
theorem d_PP_packed_53 : decode b_PP_packed 53 = .ok (.ireturn, 1) := by decide +kernel
theorem d_PP_letter_0 : decode b_PP_letter 0 = .ok (.aload_n 0, 1) := by decide +kernel
theorem d_PP_letter_1 : decode b_PP_letter 1 = .ok (.getfield 28, 3) := by decide +kernel
theorem d_PP_letter_4 : decode b_PP_letter 4 = .ok (.iload_n 1, 1) := by decide +kernel
theorem d_PP_letter_5 : decode b_PP_letter 5 = .ok (.invokevirtual 129, 3) := by decide +kernel
theorem d_PP_letter_8 : decode b_PP_letter 8 = .ok (.ireturn, 1) := by decide +kernel
theorem d_PP_size_0 : decode b_PP_size 0 = .ok (.aload_n 0, 1) := by decide +kernel
theorem d_PP_size_1 : decode b_PP_size 1 = .ok (.getfield 19, 3) := by decide +kernel
theorem d_PP_size_4 : decode b_PP_size 4 = .ok (.iload_n 1, 1) := by decide +kernel
theorem d_PP_size_5 : decode b_PP_size 5 = .ok (.invokevirtual 84, 3) := by decide +kernel
theorem d_PP_size_8 : decode b_PP_size 8 = .ok (.ifCond .ne 7, 3) := by decide +kernel
theorem d_PP_size_11 : decode b_PP_size 11 = .ok (.ldc2_w 132, 3) := by decide +kernel
theorem d_PP_size_14 : decode b_PP_size 14 = .ok (.lreturn, 1) := by decide +kernel
theorem d_PP_size_15 : decode b_PP_size 15 = .ok (.aload_n 0, 1) := by decide +kernel
theorem d_PP_size_16 : decode b_PP_size 16 = .ok (.getfield 19, 3) := by decide +kernel
theorem d_PP_size_19 : decode b_PP_size 19 = .ok (.iload_n 1, 1) := by decide +kernel
theorem d_PP_size_20 : decode b_PP_size 20 = .ok (.invokevirtual 134, 3) := by decide +kernel
theorem d_PP_size_23 : decode b_PP_size 23 = .ok (.lstore_n 2, 1) := by decide +kernel
theorem d_PP_size_24 : decode b_PP_size 24 = .ok (.lload_n 2, 1) := by decide +kernel
theorem d_PP_size_25 : decode b_PP_size 25 = .ok (.ldc2_w 138, 3) := by decide +kernel
theorem d_PP_size_28 : decode b_PP_size 28 = .ok (.lcmp, 1) := by decide +kernel
theorem d_PP_size_29 : decode b_PP_size 29 = .ok (.ifCond .le 9, 3) := by decide +kernel
theorem d_PP_size_32 : decode b_PP_size 32 = .ok (.ldc2_w 140, 3) := by decide +kernel
theorem d_PP_size_35 : decode b_PP_size 35 = .ok (.goto 4, 3) := by decide +kernel
theorem d_PP_size_38 : decode b_PP_size 38 = .ok (.lload_n 2, 1) := by decide +kernel
theorem d_PP_size_39 : decode b_PP_size 39 = .ok (.lreturn, 1) := by decide +kernel
theorem d_PP_full_0 : decode b_PP_full 0 = .ok (.aload_n 0, 1) := by decide +kernel
theorem d_PP_full_1 : decode b_PP_full 1 = .ok (.getfield 19, 3) := by decide +kernel
theorem d_PP_full_4 : decode b_PP_full 4 = .ok (.iload_n 1, 1) := by decide +kernel
theorem d_PP_full_5 : decode b_PP_full 5 = .ok (.invokevirtual 134, 3) := by decide +kernel
theorem d_PP_full_8 : decode b_PP_full 8 = .ok (.lstore_n 3, 1) := by decide +kernel
theorem d_PP_full_9 : decode b_PP_full 9 = .ok (.lload_n 3, 1) := by decide +kernel
theorem d_PP_full_10 : decode b_PP_full 10 = .ok (.ldc2_w 142, 3) := by decide +kernel
theorem d_PP_full_13 : decode b_PP_full 13 = .ok (.lcmp, 1) := by decide +kernel
theorem d_PP_full_14 : decode b_PP_full 14 = .ok (.ifCond .gt 14, 3) := by decide +kernel
theorem d_PP_full_17 : decode b_PP_full 17 = .ok (.iload_n 2, 1) := by decide +kernel
theorem d_PP_full_18 : decode b_PP_full 18 = .ok (.ifCond .lt 10, 3) := by decide +kernel
theorem d_PP_full_21 : decode b_PP_full 21 = .ok (.iload_n 2, 1) := by decide +kernel
theorem d_PP_full_22 : decode b_PP_full 22 = .ok (.i2l, 1) := by decide +kernel
theorem d_PP_full_23 : decode b_PP_full 23 = .ok (.lload_n 3, 1) := by decide +kernel
theorem d_PP_full_24 : decode b_PP_full 24 = .ok (.lcmp, 1) := by decide +kernel
theorem d_PP_full_25 : decode b_PP_full 25 = .ok (.ifCond .lt 5, 3) := by decide +kernel
theorem d_PP_full_28 : decode b_PP_full 28 = .ok (.iconst (-1), 1) := by decide +kernel
theorem d_PP_full_29 : decode b_PP_full 29 = .ok (.ireturn, 1) := by decide +kernel
theorem d_PP_full_30 : decode b_PP_full 30 = .ok (.aload_n 0, 1) := by decide +kernel
theorem d_PP_full_31 : decode b_PP_full 31 = .ok (.getfield 19, 3) := by decide +kernel
theorem d_PP_full_34 : decode b_PP_full 34 = .ok (.iload_n 1, 1) := by decide +kernel
theorem d_PP_full_35 : decode b_PP_full 35 = .ok (.iload_n 2, 1) := by decide +kernel
theorem d_PP_full_36 : decode b_PP_full 36 = .ok (.invokevirtual 144, 3) := by decide +kernel
theorem d_PP_full_39 : decode b_PP_full 39 = .ok (.ireturn, 1) := by decide +kernel
theorem d_PP_check_0 : decode b_PP_check 0 = .ok (.aload_n 0, 1) := by decide +kernel
theorem d_PP_check_1 : decode b_PP_check 1 = .ok (.getfield 28, 3) := by decide +kernel
theorem d_PP_check_4 : decode b_PP_check 4 = .ok (.invokevirtual 147, 3) := by decide +kernel
theorem d_PP_check_7 : decode b_PP_check 7 = .ok (.ifCond .eq 7, 3) := by decide +kernel
theorem d_PP_check_10 : decode b_PP_check 10 = .ok (.iconst 1, 1) := by decide +kernel
theorem d_PP_check_11 : decode b_PP_check 11 = .ok (.goto 4, 3) := by decide +kernel
theorem d_PP_check_14 : decode b_PP_check 14 = .ok (.iconst 0, 1) := by decide +kernel
theorem d_PP_check_15 : decode b_PP_check 15 = .ok (.ireturn, 1) := by decide +kernel
theorem d_PP_mayPutOn_0 : decode b_PP_mayPutOn 0 = .ok (.iload_n 1, 1) := by decide +kernel
theorem d_PP_mayPutOn_1 : decode b_PP_mayPutOn 1 = .ok (.sipush 200, 3) := by decide +kernel
theorem d_PP_mayPutOn_4 : decode b_PP_mayPutOn 4 = .ok (.if_icmp .ge 17, 3) := by decide +kernel
theorem d_PP_mayPutOn_7 : decode b_PP_mayPutOn 7 = .ok (.aload_n 0, 1) := by decide +kernel
theorem d_PP_mayPutOn_8 : decode b_PP_mayPutOn 8 = .ok (.getfield 39, 3) := by decide +kernel
theorem d_PP_mayPutOn_11 : decode b_PP_mayPutOn 11 = .ok (.sipush 20000, 3) := by decide +kernel
theorem d_PP_mayPutOn_14 : decode b_PP_mayPutOn 14 = .ok (.if_icmp .ge 7, 3) := by decide +kernel
theorem d_PP_mayPutOn_17 : decode b_PP_mayPutOn 17 = .ok (.iconst 1, 1) := by decide +kernel
theorem d_PP_mayPutOn_18 : decode b_PP_mayPutOn 18 = .ok (.goto 4, 3) := by decide +kernel
theorem d_PP_mayPutOn_21 : decode b_PP_mayPutOn 21 = .ok (.iconst 0, 1) := by decide +kernel
theorem d_PP_mayPutOn_22 : decode b_PP_mayPutOn 22 = .ok (.ireturn, 1) := by decide +kernel
theorem d_PP_putOn_0 : decode b_PP_putOn 0 = .ok (.aload_n 0, 1) := by decide +kernel
theorem d_PP_putOn_1 : decode b_PP_putOn 1 = .ok (.getfield 35, 3) := by decide +kernel
theorem d_PP_putOn_4 : decode b_PP_putOn 4 = .ok (.iload_n 1, 1) := by decide +kernel
theorem d_PP_putOn_5 : decode b_PP_putOn 5 = .ok (.invokevirtual 151, 3) := by decide +kernel
theorem d_PP_putOn_8 : decode b_PP_putOn 8 = .ok (.aload_n 0, 1) := by decide +kernel
theorem d_PP_putOn_9 : decode b_PP_putOn 9 = .ok (.dup, 1) := by decide +kernel
theorem d_PP_putOn_10 : decode b_PP_putOn 10 = .ok (.getfield 39, 3) := by decide +kernel
theorem d_PP_putOn_13 : decode b_PP_putOn 13 = .ok (.iconst 1, 1) := by decide +kernel
theorem d_PP_putOn_14 : decode b_PP_putOn 14 = .ok (.iadd, 1) := by decide +kernel
theorem d_PP_putOn_15 : decode b_PP_putOn 15 = .ok (.putfield 39, 3) := by decide +kernel
theorem d_PP_putOn_18 : decode b_PP_putOn 18 = .ok (.return_, 1) := by decide +kernel
end
section
abbrev tPP : Type := tST × tRW × tTL × tIL × Int32
abbrev gPP_statements (σ : tPP) : tST := σ.1
abbrev gPP_rows (σ : tPP) : tRW := σ.2.1
abbrev gPP_telling (σ : tPP) : tTL := σ.2.2.1
abbrev gPP_pile (σ : tPP) : tIL := σ.2.2.2.1
abbrev gPP_puts (σ : tPP) : Int32 := σ.2.2.2.2
def uPP_statements (σ : tPP) (v : tST) : tPP := (v, gPP_rows σ, gPP_telling σ, gPP_pile σ, gPP_puts σ)
def uPP_rows (σ : tPP) (v : tRW) : tPP := (gPP_statements σ, v, gPP_telling σ, gPP_pile σ, gPP_puts σ)
def uPP_telling (σ : tPP) (v : tTL) : tPP := (gPP_statements σ, gPP_rows σ, v, gPP_pile σ, gPP_puts σ)
def uPP_pile (σ : tPP) (v : tIL) : tPP := (gPP_statements σ, gPP_rows σ, gPP_telling σ, v, gPP_puts σ)
def uPP_puts (σ : tPP) (v : Int32) : tPP := (gPP_statements σ, gPP_rows σ, gPP_telling σ, gPP_pile σ, v)
def pPP (G : pG) (h0 : Nat) (ad : Nat → Nat) (adS : Nat → Nat) (adR : Nat → Nat) (adT : Nat → Nat) (adL : Nat → Nat) (σ : tPP) (w : va_W) : Prop := ∃ (w0 w1 w2 w3 : va_W), w = [[(h0, .inr (5, [.ref (ad 0), .ref (ad 1), .ref (ad 2), .ref (ad 3), .int (gPP_puts σ)]))], w0, w1, w2, w3].flatten ∧ pST G (ad 0) adS (gPP_statements σ) w0 ∧ pRW G (ad 1) adR (gPP_rows σ) w1 ∧ pTL G (ad 2) (ad 0) (ad 1) adT adL (gPP_telling σ) w2 ∧ pIL G (ad 3) (gPP_pile σ) w3
theorem pPP_recv {G : pG} {s : State} {H : Heap} {h0 : Nat} {ad : Nat → Nat} {adS : Nat → Nat} {adR : Nat → Nat} {adT : Nat → Nat} {adL : Nat → Nat} {σ : tPP} {w : va_W} (hK : va_K G.1 vwCl (tyG G) s) (hP : va_P G.1 vwCl w H) (h : pPP G h0 ad adS adR adT adL σ w) : ∃ cell : Cell, H[h0]? = some cell ∧ cell.vm.isStatics = false ∧ s.vm.findClass RPP = some cell.cls := by
  obtain ⟨w0, w1, w2, w3, rfl, -, -, -, -⟩ := h
  exact va_recv (q0 := 0) (ci := 5) hK hP rfl rfl

def A_PP_mayPutOn (σ : tPP) (under : Int32) : Int32 := if 200 ≤ under then 0 else (if 20000 ≤ (gPP_puts σ) then 0 else 1)
set_option maxHeartbeats 4000000 in
set_option maxRecDepth 100000 in
theorem c_PP_mayPutOn (l : Launch) (G : pG) (h0 : Nat) (ad : Nat → Nat) (adS : Nat → Nat) (adR : Nat → Nat) (adT : Nat → Nat) (adL : Nat → Nat) (σ : tPP) (under : Int32) (H : Heap) (w : va_W) (hP0 : va_P G.1 vwCl w H) (hσ : pPP G h0 ad adS adR adT adL σ w) (res : Int32) (hr0 : A_PP_mayPutOn σ under = res) : MRi l y_PP_mayPutOn w_PP_mayPutOn 0 0 G [.ref h0, .int under] H res := by
  refine Met.ofW (cc := b_PP_mayPutOn) (maxL := 2) (ret := (some .boolean)) (by decide) rfl ?_
  intro p e s m args below meth c s₁ B hml hv
  obtain ⟨rfl, rfl, hK⟩ := hv
  have hx := B.exec
  have hb := B.bytes
  have hr := B.returns
  have hts0 := atoms_spec (ws := w_PP_mayPutOn) B.pre
  have hts := fun w (h : w ∈ lw_g) => hts0 w (List.mem_cons_of_mem _ h)
  have hown : s.vm.findClass RPP = some m.cls := findClass_of_methodNamed B.named
  have hlocks := B.notSynchronized
  have hσ0 := hσ
  obtain ⟨w1, w3, w5, w7, rfl, h2, h4, h6, h8⟩ := hσ
  have hP := hP0
  obtain ⟨A, hAe⟩ : ∃ A : Nat → Prop, A = fun _ => False := ⟨_, rfl⟩
  rw [← hAe]
  have hS : va_S A s.heap s.heap [] := va_S.rf
  have hl := lv_entry ([.ref h0, .int under]) (n := 2) (Nat.le_of_ble_eq_true rfl)
  rw [lg_entry_eq]
  generalize (lg_sl ([.ref h0, .int under]) ++ List.replicate (2 - (lg_sl ([.ref h0, .int under])).length) Slot.unset).toArray = ls at hl ⊢
  have hl : lv_has ls 2 [(0, .ref h0), (1, .int under)] := hl
  unfold A_PP_mayPutOn at hr0
  refine lv_iload_n hx hb d_PP_mayPutOn_0 rfl (lv_at hl 1 rfl) ?_
  refine lv_sipush (v := 200) hx hb d_PP_mayPutOn_1 (by decide) ?_
  refine lv_icmp_ge (tgt := 21) hx hb d_PP_mayPutOn_4 (by decide) (fun c9 => ?_) (fun c9 => ?_)
  · have hr0 := ai_pos c9 hr0
    refine lv_iconst (v := 0) hx hb d_PP_mayPutOn_21 (by decide) ?_
    exact W.zret (v := 0) hx hb hr (by decide) (fun t ht hW => ⟨⟨0, (), rfl, hr0, ht⟩, hS.F ht⟩) hS.2.2 d_PP_mayPutOn_22
  · have hr0 := ai_neg c9 hr0
    refine lv_aload_n hx hb d_PP_mayPutOn_7 rfl (lv_at hl 0 rfl) ?_
    refine va_get (D := G.1) (ci := 5) (v := .int (gPP_puts σ)) (C := RPP) (T := TPP) (N := 5) hx hb hts inPP hown hK hP 0 rfl rfl 4 (by decide) (hts _ fl_PP_39) (fun _ h9 => h9) rfl d_PP_mayPutOn_8 ?_
    refine lv_sipush (v := 20000) hx hb d_PP_mayPutOn_11 (by decide) ?_
    refine lv_icmp_ge (tgt := 21) hx hb d_PP_mayPutOn_14 (by decide) (fun c10 => ?_) (fun c10 => ?_)
    · have hr0 := ai_pos c10 hr0
      refine lv_iconst (v := 0) hx hb d_PP_mayPutOn_21 (by decide) ?_
      exact W.zret (v := 0) hx hb hr (by decide) (fun t ht hW => ⟨⟨0, (), rfl, hr0, ht⟩, hS.F ht⟩) hS.2.2 d_PP_mayPutOn_22
    · have hr0 := ai_neg c10 hr0
      refine lv_iconst (v := 1) hx hb d_PP_mayPutOn_17 (by decide) ?_
      refine lv_goto (tgt := 22) hx hb d_PP_mayPutOn_18 (by decide) ?_
      exact W.zret (v := 1) hx hb hr (by decide) (fun t ht hW => ⟨⟨1, (), rfl, hr0, ht⟩, hS.F ht⟩) hS.2.2 d_PP_mayPutOn_22

def A_PP_putOn (σ : tPP) (r : Int32) : tPP := uPP_puts (uPP_pile σ (A_IL_add (gPP_pile σ) r)) ((gPP_puts σ) + 1)
def K_PP_putOn (σ : tPP) (r : Int32) : Nat := (K_IL_add (gPP_pile σ) r) + 0
set_option maxHeartbeats 4000000 in
set_option maxRecDepth 100000 in
theorem c_PP_putOn (l : Launch) (G : pG) (h0 : Nat) (ad : Nat → Nat) (adS : Nat → Nat) (adR : Nat → Nat) (adT : Nat → Nat) (adL : Nat → Nat) (σ : tPP) (r : Int32) (H : Heap) (w : va_W) (hP0 : va_P G.1 vwCl w H) (hD0 : va_D (fun _ => True) w) (hσ : pPP G h0 ad adS adR adT adL σ w) (res : tPP) (hr0 : A_PP_putOn σ r = res) (Kt : Nat) (hk : K_PP_putOn σ r = Kt) (hKb : Kt ≤ 16777216) : MWv l y_PP_putOn w_PP_putOn 3 103 Kt G [.ref h0, .int r] H w (pPP G h0 ad adS adR adT adL res) := by
  refine Met.ofW (cc := b_PP_putOn) (maxL := 2) (ret := none) (by decide) rfl ?_
  intro p e s m args below meth c s₁ B hml hv
  obtain ⟨rfl, rfl, hK⟩ := hv
  have hx := B.exec
  have hb := B.bytes
  have hr := B.returns
  have hts0 := atoms_spec (ws := w_PP_putOn) B.pre
  have hts := fun w (h : w ∈ lw_g) => hts0 w (List.mem_cons_of_mem _ h)
  have hown : s.vm.findClass RPP = some m.cls := findClass_of_methodNamed B.named
  have hlocks := B.notSynchronized
  have hA : ∀ q : Nat, s.heap.size ≤ q → va_A w s.heap.size q := fun _ h => Or.inr h
  have hB : bk G.1 vwCl (va_A w s.heap.size) [w] s.heap := bk_init hP0 hD0
  generalize va_A w s.heap.size = A at *
  have hS : va_S A s.heap s.heap [] := va_S.rf
  obtain ⟨w1, w3, w5, w7, rfl, h2, h4, h6, h8⟩ := hσ
  have hB := bk_many hB
  have hk : 0 + K_PP_putOn σ r = Kt := (Nat.zero_add _).trans hk
  have hl := lv_entry ([.ref h0, .int r]) (n := 2) (Nat.le_of_ble_eq_true rfl)
  rw [lg_entry_eq]
  generalize (lg_sl ([.ref h0, .int r]) ++ List.replicate (2 - (lg_sl ([.ref h0, .int r])).length) Slot.unset).toArray = ls at hl ⊢
  have hl : lv_has ls 2 [(0, .ref h0), (1, .int r)] := hl
  unfold A_PP_putOn at hr0
  unfold K_PP_putOn at hk
  refine lv_aload_n hx hb d_PP_putOn_0 rfl (lv_at hl 0 rfl) ?_
  refine va_get (D := G.1) (ci := 5) (v := .ref (ad 3)) (C := RPP) (T := TPP) (N := 5) hx hb hts inPP hown hK hB.1 0 rfl rfl 3 (by decide) (hts _ fl_PP_35) (fun _ h9 => h9) rfl d_PP_putOn_1 ?_
  refine lv_iload_n hx hb d_PP_putOn_4 rfl (lv_at hl 1 rfl) ?_
  refine wrV (G := G) (k := 4) (As := [.int r]) (rest := []) (C := RIL) ⟨hx, hb, hml, hown, hts⟩ (c_IL_add l G (ad 3) (gPP_pile σ) r _ _ (bk_gP (k := 4) hB.1 rfl) (bk_own (k := 4) hB rfl) h8 _ rfl _ rfl (bk_ub hk hKb)) (cwV 1 hts (gd_V ml_PP_151 im_IL_add sl_IL_add ini_IL k_IL_add) rfl rmK_c rmK_s (by decide +kernel) ⟨Nat.le_of_ble_eq_true rfl, Nat.le_of_ble_eq_true rfl⟩) hK (pIL_recv hK (bk_gP (k := 4) hB.1 rfl) h8) hS hA hB rfl hk ⟨rfl, rfl⟩ rfl hl.1 (Nat.le_of_ble_eq_true rfl) d_PP_putOn_5 (fun u9 H locs kc hu10 hB hS hk => ?_)
  have hB : bk G.1 vwCl A [[(h0, .inr (5, [.ref (ad 0), .ref (ad 1), .ref (ad 2), .ref (ad 3), .int (gPP_puts σ)]))], w1, w3, w5, u9] H := hB
  refine lv_aload_n hx hb d_PP_putOn_8 rfl (lv_at hl 0 rfl) ?_
  refine lv_dup hx hb d_PP_putOn_9 rfl ?_
  refine va_get (D := G.1) (ci := 5) (v := .int (gPP_puts σ)) (C := RPP) (T := TPP) (N := 5) hx hb hts inPP hown hK hB.1 0 rfl rfl 4 (by decide) (hts _ fl_PP_39) (fun _ h9 => h9) rfl d_PP_putOn_10 ?_
  refine lv_iconst (v := 1) hx hb d_PP_putOn_13 (by decide) ?_
  refine lv_iadd hx hb d_PP_putOn_14 ?_
  refine va_put (D := G.1) (ci := 5) (v := .int ((gPP_puts σ) + 1)) (ty := .int) (C := RPP) (T := TPP) (N := 5) hx hb hts inPP tyPP tokPP nmPP hown hK hB.1 hB.2 hS 0 rfl rfl 4 (by decide) (hts _ fl_PP_39) (fun _ h9 => h9) rfl (by decide +kernel) rfl rfl (Nat.le_of_ble_eq_true rfl) d_PP_putOn_15 (fun H locs hP hD hS => ?_)
  have hB : bk G.1 vwCl A [[(h0, .inr (5, [.ref (ad 0), .ref (ad 1), .ref (ad 2), .ref (ad 3), .int ((gPP_puts σ) + 1)]))], w1, w3, w5, u9] H := ⟨hP, hD⟩
  subst hr0
  refine W.widen (k := Kt) (n := Kt) (Nat.le.intro hk) (Nat.le.intro hk) ?_
  exact W.vret hx hb hr (fun t ht hW => ⟨⟨[[(h0, .inr (5, [.ref (ad 0), .ref (ad 1), .ref (ad 2), .ref (ad 3), .int ((gPP_puts σ) + 1)]))], w1, w3, w5, u9].flatten, rfl, ⟨w1, w3, w5, u9, rfl, h2, h4, h6, hu10⟩, by rw [ht]; exact hB.1, hB.2⟩, hS.F ht⟩) hS.2.2 d_PP_putOn_18

def A_PP_row (σ : tPP) (r : Int32) : Int32 := A_RW_statementOf (gPP_rows σ) r
set_option maxHeartbeats 4000000 in
set_option maxRecDepth 100000 in
theorem c_PP_row (l : Launch) (G : pG) (h0 : Nat) (ad : Nat → Nat) (adS : Nat → Nat) (adR : Nat → Nat) (adT : Nat → Nat) (adL : Nat → Nat) (σ : tPP) (r : Int32) (H : Heap) (w : va_W) (hP0 : va_P G.1 vwCl w H) (hσ : pPP G h0 ad adS adR adT adL σ w) (res : Int32) (hr0 : A_PP_row σ r = res) : MRi l y_PP_row w_PP_row 2 42 G [.ref h0, .int r] H res := by
  refine Met.ofW (cc := b_PP_row) (maxL := 2) (ret := (some .int)) (by decide) rfl ?_
  intro p e s m args below meth c s₁ B hml hv
  obtain ⟨rfl, rfl, hK⟩ := hv
  have hx := B.exec
  have hb := B.bytes
  have hr := B.returns
  have hts0 := atoms_spec (ws := w_PP_row) B.pre
  have hts := fun w (h : w ∈ lw_g) => hts0 w (List.mem_cons_of_mem _ h)
  have hown : s.vm.findClass RPP = some m.cls := findClass_of_methodNamed B.named
  have hlocks := B.notSynchronized
  have hσ0 := hσ
  obtain ⟨w1, w3, w5, w7, rfl, h2, h4, h6, h8⟩ := hσ
  have hP := hP0
  obtain ⟨A, hAe⟩ : ∃ A : Nat → Prop, A = fun _ => False := ⟨_, rfl⟩
  rw [← hAe]
  have hS : va_S A s.heap s.heap [] := va_S.rf
  have hl := lv_entry ([.ref h0, .int r]) (n := 2) (Nat.le_of_ble_eq_true rfl)
  rw [lg_entry_eq]
  generalize (lg_sl ([.ref h0, .int r]) ++ List.replicate (2 - (lg_sl ([.ref h0, .int r])).length) Slot.unset).toArray = ls at hl ⊢
  have hl : lv_has ls 2 [(0, .ref h0), (1, .int r)] := hl
  unfold A_PP_row at hr0
  refine lv_aload_n hx hb d_PP_row_0 rfl (lv_at hl 0 rfl) ?_
  refine va_get (D := G.1) (ci := 5) (v := .ref (ad 1)) (C := RPP) (T := TPP) (N := 5) hx hb hts inPP hown hK hP 0 rfl rfl 1 (by decide) (hts _ fl_PP_19) (fun _ h9 => h9) rfl d_PP_row_1 ?_
  refine lv_iload_n hx hb d_PP_row_4 rfl (lv_at hl 1 rfl) ?_
  refine rdV (G := G) (As := [.int r]) (rest := []) (C := RRW) ⟨hx, hb, hml, hown, hts⟩ (c_RW_statementOf l G (ad 1) adR (gPP_rows σ) r _ _ (bk_gP (k := 2) hP rfl) h4 _ rfl) (cwV 1 hts (gd_V ml_PP_92 im_RW_statementOf sl_RW_statementOf ini_RW k_RW_statementOf) rfl rmK_c rmK_s (by decide +kernel) ⟨Nat.le_of_ble_eq_true rfl, Nat.le_of_ble_eq_true rfl⟩) hK (pRW_recv hK (bk_gP (k := 2) hP rfl) h4) hS ⟨Nat.le_refl _, Nat.le_refl _⟩ rfl hl.1 (Nat.le_of_ble_eq_true rfl) d_PP_row_5 (fun locs hS => ?_)
  exact W.iret (v := (A_RW_statementOf (gPP_rows σ) r)) hx hb hr (fun t ht hW => ⟨⟨(A_RW_statementOf (gPP_rows σ) r), (), rfl, hr0, ht⟩, hS.F ht⟩) hS.2.2 d_PP_row_8

def A_PP_frm (σ : tPP) (r : Int32) (k : Int32) : Int32 := A_RW_part (gPP_rows σ) r k
set_option maxHeartbeats 4000000 in
set_option maxRecDepth 100000 in
theorem c_PP_frm (l : Launch) (G : pG) (h0 : Nat) (ad : Nat → Nat) (adS : Nat → Nat) (adR : Nat → Nat) (adT : Nat → Nat) (adL : Nat → Nat) (σ : tPP) (r : Int32) (k : Int32) (H : Heap) (w : va_W) (hP0 : va_P G.1 vwCl w H) (hσ : pPP G h0 ad adS adR adT adL σ w) (res : Int32) (hr0 : A_PP_frm σ r k = res) : MRi l y_PP_frm w_PP_frm 4 84 G [.ref h0, .int r, .int k] H res := by
  refine Met.ofW (cc := b_PP_frm) (maxL := 3) (ret := (some .int)) (by decide) rfl ?_
  intro p e s m args below meth c s₁ B hml hv
  obtain ⟨rfl, rfl, hK⟩ := hv
  have hx := B.exec
  have hb := B.bytes
  have hr := B.returns
  have hts0 := atoms_spec (ws := w_PP_frm) B.pre
  have hts := fun w (h : w ∈ lw_g) => hts0 w (List.mem_cons_of_mem _ h)
  have hown : s.vm.findClass RPP = some m.cls := findClass_of_methodNamed B.named
  have hlocks := B.notSynchronized
  have hσ0 := hσ
  obtain ⟨w1, w3, w5, w7, rfl, h2, h4, h6, h8⟩ := hσ
  have hP := hP0
  obtain ⟨A, hAe⟩ : ∃ A : Nat → Prop, A = fun _ => False := ⟨_, rfl⟩
  rw [← hAe]
  have hS : va_S A s.heap s.heap [] := va_S.rf
  have hl := lv_entry ([.ref h0, .int r, .int k]) (n := 3) (Nat.le_of_ble_eq_true rfl)
  rw [lg_entry_eq]
  generalize (lg_sl ([.ref h0, .int r, .int k]) ++ List.replicate (3 - (lg_sl ([.ref h0, .int r, .int k])).length) Slot.unset).toArray = ls at hl ⊢
  have hl : lv_has ls 3 [(0, .ref h0), (1, .int r), (2, .int k)] := hl
  unfold A_PP_frm at hr0
  refine lv_aload_n hx hb d_PP_frm_0 rfl (lv_at hl 0 rfl) ?_
  refine va_get (D := G.1) (ci := 5) (v := .ref (ad 1)) (C := RPP) (T := TPP) (N := 5) hx hb hts inPP hown hK hP 0 rfl rfl 1 (by decide) (hts _ fl_PP_19) (fun _ h9 => h9) rfl d_PP_frm_1 ?_
  refine lv_iload_n hx hb d_PP_frm_4 rfl (lv_at hl 1 rfl) ?_
  refine lv_iload_n hx hb d_PP_frm_5 rfl (lv_at hl 2 rfl) ?_
  refine rdV (G := G) (As := [.int r, .int k]) (rest := []) (C := RRW) ⟨hx, hb, hml, hown, hts⟩ (c_RW_part l G (ad 1) adR (gPP_rows σ) r k _ _ (bk_gP (k := 2) hP rfl) h4 _ rfl) (cwV 2 hts (gd_V ml_PP_95 im_RW_part sl_RW_part ini_RW k_RW_part) rfl rmK_c rmK_s (by decide +kernel) ⟨Nat.le_of_ble_eq_true rfl, Nat.le_of_ble_eq_true rfl⟩) hK (pRW_recv hK (bk_gP (k := 2) hP rfl) h4) hS ⟨Nat.le_refl _, Nat.le_refl _⟩ rfl hl.1 (Nat.le_of_ble_eq_true rfl) d_PP_frm_6 (fun locs hS => ?_)
  exact W.iret (v := (A_RW_part (gPP_rows σ) r k)) hx hb hr (fun t ht hW => ⟨⟨(A_RW_part (gPP_rows σ) r k), (), rfl, hr0, ht⟩, hS.F ht⟩) hS.2.2 d_PP_frm_9

def A_PP_same (σ : tPP) (r : Int32) (s2 : Int32) : Int32 := if (A_RW_has (gPP_rows σ) r) = 0 then (-1) else (if (A_RW_has (gPP_rows σ) s2) = 0 then (-1) else (if (A_RW_kindOf (gPP_rows σ) r) = (A_RW_kindOf (gPP_rows σ) s2) then 1 else 0))
set_option maxHeartbeats 4000000 in
set_option maxRecDepth 100000 in
theorem c_PP_same (l : Launch) (G : pG) (h0 : Nat) (ad : Nat → Nat) (adS : Nat → Nat) (adR : Nat → Nat) (adT : Nat → Nat) (adL : Nat → Nat) (σ : tPP) (r : Int32) (s2 : Int32) (H : Heap) (w : va_W) (hP0 : va_P G.1 vwCl w H) (hσ : pPP G h0 ad adS adR adT adL σ w) (res : Int32) (hr0 : A_PP_same σ r s2 = res) : MRi l y_PP_same w_PP_same 2 42 G [.ref h0, .int r, .int s2] H res := by
  refine Met.ofW (cc := b_PP_same) (maxL := 3) (ret := (some .int)) (by decide) rfl ?_
  intro p e s m args below meth c s₁ B hml hv
  obtain ⟨rfl, rfl, hK⟩ := hv
  have hx := B.exec
  have hb := B.bytes
  have hr := B.returns
  have hts0 := atoms_spec (ws := w_PP_same) B.pre
  have hts := fun w (h : w ∈ lw_g) => hts0 w (List.mem_cons_of_mem _ h)
  have hown : s.vm.findClass RPP = some m.cls := findClass_of_methodNamed B.named
  have hlocks := B.notSynchronized
  have hσ0 := hσ
  obtain ⟨w1, w3, w5, w7, rfl, h2, h4, h6, h8⟩ := hσ
  have hP := hP0
  obtain ⟨A, hAe⟩ : ∃ A : Nat → Prop, A = fun _ => False := ⟨_, rfl⟩
  rw [← hAe]
  have hS : va_S A s.heap s.heap [] := va_S.rf
  have hl := lv_entry ([.ref h0, .int r, .int s2]) (n := 3) (Nat.le_of_ble_eq_true rfl)
  rw [lg_entry_eq]
  generalize (lg_sl ([.ref h0, .int r, .int s2]) ++ List.replicate (3 - (lg_sl ([.ref h0, .int r, .int s2])).length) Slot.unset).toArray = ls at hl ⊢
  have hl : lv_has ls 3 [(0, .ref h0), (1, .int r), (2, .int s2)] := hl
  unfold A_PP_same at hr0
  refine lv_aload_n hx hb d_PP_same_0 rfl (lv_at hl 0 rfl) ?_
  refine va_get (D := G.1) (ci := 5) (v := .ref (ad 1)) (C := RPP) (T := TPP) (N := 5) hx hb hts inPP hown hK hP 0 rfl rfl 1 (by decide) (hts _ fl_PP_19) (fun _ h9 => h9) rfl d_PP_same_1 ?_
  refine lv_iload_n hx hb d_PP_same_4 rfl (lv_at hl 1 rfl) ?_
  refine rdV (G := G) (As := [.int r]) (rest := []) (C := RRW) ⟨hx, hb, hml, hown, hts⟩ (c_RW_has l G (ad 1) adR (gPP_rows σ) r _ _ (bk_gP (k := 2) hP rfl) h4 _ rfl) (cwV 1 hts (gd_V ml_PP_84 im_RW_has sl_RW_has ini_RW k_RW_has) rfl rmK_c rmK_s (by decide +kernel) ⟨Nat.le_of_ble_eq_true rfl, Nat.le_of_ble_eq_true rfl⟩) hK (pRW_recv hK (bk_gP (k := 2) hP rfl) h4) hS ⟨Nat.le_refl _, Nat.le_refl _⟩ rfl hl.1 (Nat.le_of_ble_eq_true rfl) d_PP_same_5 (fun locs hS => ?_)
  refine lv_if_eq (tgt := 22) hx hb d_PP_same_8 (by decide) (fun c9 => ?_) (fun c9 => ?_)
  · have hr0 := ai_pos c9 hr0
    refine lv_iconst (v := (-1)) hx hb d_PP_same_22 (by decide) ?_
    exact W.iret (v := (-1)) hx hb hr (fun t ht hW => ⟨⟨(-1), (), rfl, hr0, ht⟩, hS.F ht⟩) hS.2.2 d_PP_same_23
  · have hr0 := ai_neg c9 hr0
    refine lv_aload_n hx hb d_PP_same_11 rfl (lv_at hl 0 rfl) ?_
    refine va_get (D := G.1) (ci := 5) (v := .ref (ad 1)) (C := RPP) (T := TPP) (N := 5) hx hb hts inPP hown hK hP 0 rfl rfl 1 (by decide) (hts _ fl_PP_19) (fun _ h9 => h9) rfl d_PP_same_12 ?_
    refine lv_iload_n hx hb d_PP_same_15 rfl (lv_at hl 2 rfl) ?_
    refine rdV (G := G) (As := [.int s2]) (rest := []) (C := RRW) ⟨hx, hb, hml, hown, hts⟩ (c_RW_has l G (ad 1) adR (gPP_rows σ) s2 _ _ (bk_gP (k := 2) hP rfl) h4 _ rfl) (cwV 1 hts (gd_V ml_PP_84 im_RW_has sl_RW_has ini_RW k_RW_has) rfl rmK_c rmK_s (by decide +kernel) ⟨Nat.le_of_ble_eq_true rfl, Nat.le_of_ble_eq_true rfl⟩) hK (pRW_recv hK (bk_gP (k := 2) hP rfl) h4) hS ⟨Nat.le_refl _, Nat.le_refl _⟩ rfl hl.1 (Nat.le_of_ble_eq_true rfl) d_PP_same_16 (fun locs hS => ?_)
    refine lv_if_ne (tgt := 24) hx hb d_PP_same_19 (by decide) (fun c10 => ?_) (fun c10 => ?_)
    · have hr0 := ai_neg c10 hr0
      refine lv_aload_n hx hb d_PP_same_24 rfl (lv_at hl 0 rfl) ?_
      refine va_get (D := G.1) (ci := 5) (v := .ref (ad 1)) (C := RPP) (T := TPP) (N := 5) hx hb hts inPP hown hK hP 0 rfl rfl 1 (by decide) (hts _ fl_PP_19) (fun _ h9 => h9) rfl d_PP_same_25 ?_
      refine lv_iload_n hx hb d_PP_same_28 rfl (lv_at hl 1 rfl) ?_
      refine rdV (G := G) (As := [.int r]) (rest := []) (C := RRW) ⟨hx, hb, hml, hown, hts⟩ (c_RW_kindOf l G (ad 1) adR (gPP_rows σ) r _ _ (bk_gP (k := 2) hP rfl) h4 _ rfl) (cwV 1 hts (gd_V ml_PP_99 im_RW_kindOf sl_RW_kindOf ini_RW k_RW_kindOf) rfl rmK_c rmK_s (by decide +kernel) ⟨Nat.le_of_ble_eq_true rfl, Nat.le_of_ble_eq_true rfl⟩) hK (pRW_recv hK (bk_gP (k := 2) hP rfl) h4) hS ⟨Nat.le_refl _, Nat.le_refl _⟩ rfl hl.1 (Nat.le_of_ble_eq_true rfl) d_PP_same_29 (fun locs hS => ?_)
      refine lv_aload_n hx hb d_PP_same_32 rfl (lv_at hl 0 rfl) ?_
      refine va_get (D := G.1) (ci := 5) (v := .ref (ad 1)) (C := RPP) (T := TPP) (N := 5) hx hb hts inPP hown hK hP 0 rfl rfl 1 (by decide) (hts _ fl_PP_19) (fun _ h9 => h9) rfl d_PP_same_33 ?_
      refine lv_iload_n hx hb d_PP_same_36 rfl (lv_at hl 2 rfl) ?_
      refine rdV (G := G) (As := [.int s2]) (rest := [.int (A_RW_kindOf (gPP_rows σ) r)]) (C := RRW) ⟨hx, hb, hml, hown, hts⟩ (c_RW_kindOf l G (ad 1) adR (gPP_rows σ) s2 _ _ (bk_gP (k := 2) hP rfl) h4 _ rfl) (cwV 1 hts (gd_V ml_PP_99 im_RW_kindOf sl_RW_kindOf ini_RW k_RW_kindOf) rfl rmK_c rmK_s (by decide +kernel) ⟨Nat.le_of_ble_eq_true rfl, Nat.le_of_ble_eq_true rfl⟩) hK (pRW_recv hK (bk_gP (k := 2) hP rfl) h4) hS ⟨Nat.le_refl _, Nat.le_refl _⟩ rfl hl.1 (Nat.le_of_ble_eq_true rfl) d_PP_same_37 (fun locs hS => ?_)
      refine lv_icmp_ne (tgt := 47) hx hb d_PP_same_40 (by decide) (fun c11 => ?_) (fun c11 => ?_)
      · have hr0 := ai_neg c11 hr0
        refine lv_iconst (v := 0) hx hb d_PP_same_47 (by decide) ?_
        exact W.iret (v := 0) hx hb hr (fun t ht hW => ⟨⟨0, (), rfl, hr0, ht⟩, hS.F ht⟩) hS.2.2 d_PP_same_48
      · have hr0 := ai_pos c11 hr0
        refine lv_iconst (v := 1) hx hb d_PP_same_43 (by decide) ?_
        refine lv_goto (tgt := 48) hx hb d_PP_same_44 (by decide) ?_
        exact W.iret (v := 1) hx hb hr (fun t ht hW => ⟨⟨1, (), rfl, hr0, ht⟩, hS.F ht⟩) hS.2.2 d_PP_same_48
    · have hr0 := ai_pos c10 hr0
      refine lv_iconst (v := (-1)) hx hb d_PP_same_22 (by decide) ?_
      exact W.iret (v := (-1)) hx hb hr (fun t ht hW => ⟨⟨(-1), (), rfl, hr0, ht⟩, hS.F ht⟩) hS.2.2 d_PP_same_23

def A_PP_step (σ : tPP) (k : Int32) : Int32 := A_TL_stepAt (gPP_telling σ) k
set_option maxHeartbeats 4000000 in
set_option maxRecDepth 100000 in
theorem c_PP_step (l : Launch) (G : pG) (h0 : Nat) (ad : Nat → Nat) (adS : Nat → Nat) (adR : Nat → Nat) (adT : Nat → Nat) (adL : Nat → Nat) (σ : tPP) (k : Int32) (H : Heap) (w : va_W) (hP0 : va_P G.1 vwCl w H) (hσ : pPP G h0 ad adS adR adT adL σ w) (res : Int32) (hr0 : A_PP_step σ k = res) : MRi l y_PP_step w_PP_step 2 42 G [.ref h0, .int k] H res := by
  refine Met.ofW (cc := b_PP_step) (maxL := 2) (ret := (some .int)) (by decide) rfl ?_
  intro p e s m args below meth c s₁ B hml hv
  obtain ⟨rfl, rfl, hK⟩ := hv
  have hx := B.exec
  have hb := B.bytes
  have hr := B.returns
  have hts0 := atoms_spec (ws := w_PP_step) B.pre
  have hts := fun w (h : w ∈ lw_g) => hts0 w (List.mem_cons_of_mem _ h)
  have hown : s.vm.findClass RPP = some m.cls := findClass_of_methodNamed B.named
  have hlocks := B.notSynchronized
  have hσ0 := hσ
  obtain ⟨w1, w3, w5, w7, rfl, h2, h4, h6, h8⟩ := hσ
  have hP := hP0
  obtain ⟨A, hAe⟩ : ∃ A : Nat → Prop, A = fun _ => False := ⟨_, rfl⟩
  rw [← hAe]
  have hS : va_S A s.heap s.heap [] := va_S.rf
  have hl := lv_entry ([.ref h0, .int k]) (n := 2) (Nat.le_of_ble_eq_true rfl)
  rw [lg_entry_eq]
  generalize (lg_sl ([.ref h0, .int k]) ++ List.replicate (2 - (lg_sl ([.ref h0, .int k])).length) Slot.unset).toArray = ls at hl ⊢
  have hl : lv_has ls 2 [(0, .ref h0), (1, .int k)] := hl
  unfold A_PP_step at hr0
  refine lv_aload_n hx hb d_PP_step_0 rfl (lv_at hl 0 rfl) ?_
  refine va_get (D := G.1) (ci := 5) (v := .ref (ad 2)) (C := RPP) (T := TPP) (N := 5) hx hb hts inPP hown hK hP 0 rfl rfl 2 (by decide) (hts _ fl_PP_28) (fun _ h9 => h9) rfl d_PP_step_1 ?_
  refine lv_iload_n hx hb d_PP_step_4 rfl (lv_at hl 1 rfl) ?_
  refine rdV (G := G) (As := [.int k]) (rest := []) (C := RTL) ⟨hx, hb, hml, hown, hts⟩ (c_TL_stepAt l G (ad 2) (ad 0) (ad 1) adT adL (gPP_telling σ) k _ _ (bk_gP (k := 3) hP rfl) h6 _ rfl) (cwV 1 hts (gd_V ml_PP_111 im_TL_stepAt sl_TL_stepAt ini_TL k_TL_stepAt) rfl rmK_c rmK_s (by decide +kernel) ⟨Nat.le_of_ble_eq_true rfl, Nat.le_of_ble_eq_true rfl⟩) hK (pTL_recv hK (bk_gP (k := 3) hP rfl) h6) hS ⟨Nat.le_refl _, Nat.le_refl _⟩ rfl hl.1 (Nat.le_of_ble_eq_true rfl) d_PP_step_5 (fun locs hS => ?_)
  exact W.iret (v := (A_TL_stepAt (gPP_telling σ) k)) hx hb hr (fun t ht hW => ⟨⟨(A_TL_stepAt (gPP_telling σ) k), (), rfl, hr0, ht⟩, hS.F ht⟩) hS.2.2 d_PP_step_8

def A_PP_saves (σ : tPP) (k : Int32) : Int32 := if k < 0 then (-1) else (if k < (A_TL_amountOfSteps (gPP_telling σ)) then (if (A_TL_isSavedAt (gPP_telling σ) k) = 0 then 0 else 1) else (-1))
set_option maxHeartbeats 4000000 in
set_option maxRecDepth 100000 in
theorem c_PP_saves (l : Launch) (G : pG) (h0 : Nat) (ad : Nat → Nat) (adS : Nat → Nat) (adR : Nat → Nat) (adT : Nat → Nat) (adL : Nat → Nat) (σ : tPP) (k : Int32) (H : Heap) (w : va_W) (hP0 : va_P G.1 vwCl w H) (hσ : pPP G h0 ad adS adR adT adL σ w) (res : Int32) (hr0 : A_PP_saves σ k = res) : MRi l y_PP_saves w_PP_saves 2 42 G [.ref h0, .int k] H res := by
  refine Met.ofW (cc := b_PP_saves) (maxL := 2) (ret := (some .int)) (by decide) rfl ?_
  intro p e s m args below meth c s₁ B hml hv
  obtain ⟨rfl, rfl, hK⟩ := hv
  have hx := B.exec
  have hb := B.bytes
  have hr := B.returns
  have hts0 := atoms_spec (ws := w_PP_saves) B.pre
  have hts := fun w (h : w ∈ lw_g) => hts0 w (List.mem_cons_of_mem _ h)
  have hown : s.vm.findClass RPP = some m.cls := findClass_of_methodNamed B.named
  have hlocks := B.notSynchronized
  have hσ0 := hσ
  obtain ⟨w1, w3, w5, w7, rfl, h2, h4, h6, h8⟩ := hσ
  have hP := hP0
  obtain ⟨A, hAe⟩ : ∃ A : Nat → Prop, A = fun _ => False := ⟨_, rfl⟩
  rw [← hAe]
  have hS : va_S A s.heap s.heap [] := va_S.rf
  have hl := lv_entry ([.ref h0, .int k]) (n := 2) (Nat.le_of_ble_eq_true rfl)
  rw [lg_entry_eq]
  generalize (lg_sl ([.ref h0, .int k]) ++ List.replicate (2 - (lg_sl ([.ref h0, .int k])).length) Slot.unset).toArray = ls at hl ⊢
  have hl : lv_has ls 2 [(0, .ref h0), (1, .int k)] := hl
  unfold A_PP_saves at hr0
  refine lv_iload_n hx hb d_PP_saves_0 rfl (lv_at hl 1 rfl) ?_
  refine lv_if_lt (tgt := 15) hx hb d_PP_saves_1 (by decide) (fun c9 => ?_) (fun c9 => ?_)
  · have hr0 := ai_pos c9 hr0
    refine lv_iconst (v := (-1)) hx hb d_PP_saves_15 (by decide) ?_
    exact W.iret (v := (-1)) hx hb hr (fun t ht hW => ⟨⟨(-1), (), rfl, hr0, ht⟩, hS.F ht⟩) hS.2.2 d_PP_saves_16
  · have hr0 := ai_neg c9 hr0
    refine lv_iload_n hx hb d_PP_saves_4 rfl (lv_at hl 1 rfl) ?_
    refine lv_aload_n hx hb d_PP_saves_5 rfl (lv_at hl 0 rfl) ?_
    refine va_get (D := G.1) (ci := 5) (v := .ref (ad 2)) (C := RPP) (T := TPP) (N := 5) hx hb hts inPP hown hK hP 0 rfl rfl 2 (by decide) (hts _ fl_PP_28) (fun _ h9 => h9) rfl d_PP_saves_6 ?_
    refine rdV (G := G) (As := []) (rest := [.int k]) (C := RTL) ⟨hx, hb, hml, hown, hts⟩ (c_TL_amountOfSteps l G (ad 2) (ad 0) (ad 1) adT adL (gPP_telling σ) _ _ (bk_gP (k := 3) hP rfl) h6 _ rfl) (cwV 0 hts (gd_V ml_PP_108 im_TL_amountOfSteps sl_TL_amountOfSteps ini_TL k_TL_amountOfSteps) rfl rmK_c rmK_s (by decide +kernel) ⟨Nat.le_of_ble_eq_true rfl, Nat.le_of_ble_eq_true rfl⟩) hK (pTL_recv hK (bk_gP (k := 3) hP rfl) h6) hS ⟨Nat.le_refl _, Nat.le_refl _⟩ rfl hl.1 (Nat.le_of_ble_eq_true rfl) d_PP_saves_9 (fun locs hS => ?_)
    refine lv_icmp_lt (tgt := 17) hx hb d_PP_saves_12 (by decide) (fun c10 => ?_) (fun c10 => ?_)
    · have hr0 := ai_pos c10 hr0
      refine lv_aload_n hx hb d_PP_saves_17 rfl (lv_at hl 0 rfl) ?_
      refine va_get (D := G.1) (ci := 5) (v := .ref (ad 2)) (C := RPP) (T := TPP) (N := 5) hx hb hts inPP hown hK hP 0 rfl rfl 2 (by decide) (hts _ fl_PP_28) (fun _ h9 => h9) rfl d_PP_saves_18 ?_
      refine lv_iload_n hx hb d_PP_saves_21 rfl (lv_at hl 1 rfl) ?_
      refine rdV (G := G) (As := [.int k]) (rest := []) (C := RTL) ⟨hx, hb, hml, hown, hts⟩ (c_TL_isSavedAt l G (ad 2) (ad 0) (ad 1) adT adL (gPP_telling σ) k _ _ (bk_gP (k := 3) hP rfl) h6 _ rfl) (cwV 1 hts (gd_V ml_PP_114 im_TL_isSavedAt sl_TL_isSavedAt ini_TL k_TL_isSavedAt) rfl rmK_c rmK_s (by decide +kernel) ⟨Nat.le_of_ble_eq_true rfl, Nat.le_of_ble_eq_true rfl⟩) hK (pTL_recv hK (bk_gP (k := 3) hP rfl) h6) hS ⟨Nat.le_refl _, Nat.le_refl _⟩ rfl hl.1 (Nat.le_of_ble_eq_true rfl) d_PP_saves_22 (fun locs hS => ?_)
      refine lv_if_eq (tgt := 32) hx hb d_PP_saves_25 (by decide) (fun c11 => ?_) (fun c11 => ?_)
      · have hr0 := ai_pos c11 hr0
        refine lv_iconst (v := 0) hx hb d_PP_saves_32 (by decide) ?_
        exact W.iret (v := 0) hx hb hr (fun t ht hW => ⟨⟨0, (), rfl, hr0, ht⟩, hS.F ht⟩) hS.2.2 d_PP_saves_33
      · have hr0 := ai_neg c11 hr0
        refine lv_iconst (v := 1) hx hb d_PP_saves_28 (by decide) ?_
        refine lv_goto (tgt := 33) hx hb d_PP_saves_29 (by decide) ?_
        exact W.iret (v := 1) hx hb hr (fun t ht hW => ⟨⟨1, (), rfl, hr0, ht⟩, hS.F ht⟩) hS.2.2 d_PP_saves_33
    · have hr0 := ai_neg c10 hr0
      refine lv_iconst (v := (-1)) hx hb d_PP_saves_15 (by decide) ?_
      exact W.iret (v := (-1)) hx hb hr (fun t ht hW => ⟨⟨(-1), (), rfl, hr0, ht⟩, hS.F ht⟩) hS.2.2 d_PP_saves_16

def A_PP_label (σ : tPP) (k : Int32) : Int32 := A_TL_labelAt (gPP_telling σ) k
set_option maxHeartbeats 4000000 in
set_option maxRecDepth 100000 in
theorem c_PP_label (l : Launch) (G : pG) (h0 : Nat) (ad : Nat → Nat) (adS : Nat → Nat) (adR : Nat → Nat) (adT : Nat → Nat) (adL : Nat → Nat) (σ : tPP) (k : Int32) (H : Heap) (w : va_W) (hP0 : va_P G.1 vwCl w H) (hσ : pPP G h0 ad adS adR adT adL σ w) (res : Int32) (hr0 : A_PP_label σ k = res) : MRi l y_PP_label w_PP_label 2 42 G [.ref h0, .int k] H res := by
  refine Met.ofW (cc := b_PP_label) (maxL := 2) (ret := (some .int)) (by decide) rfl ?_
  intro p e s m args below meth c s₁ B hml hv
  obtain ⟨rfl, rfl, hK⟩ := hv
  have hx := B.exec
  have hb := B.bytes
  have hr := B.returns
  have hts0 := atoms_spec (ws := w_PP_label) B.pre
  have hts := fun w (h : w ∈ lw_g) => hts0 w (List.mem_cons_of_mem _ h)
  have hown : s.vm.findClass RPP = some m.cls := findClass_of_methodNamed B.named
  have hlocks := B.notSynchronized
  have hσ0 := hσ
  obtain ⟨w1, w3, w5, w7, rfl, h2, h4, h6, h8⟩ := hσ
  have hP := hP0
  obtain ⟨A, hAe⟩ : ∃ A : Nat → Prop, A = fun _ => False := ⟨_, rfl⟩
  rw [← hAe]
  have hS : va_S A s.heap s.heap [] := va_S.rf
  have hl := lv_entry ([.ref h0, .int k]) (n := 2) (Nat.le_of_ble_eq_true rfl)
  rw [lg_entry_eq]
  generalize (lg_sl ([.ref h0, .int k]) ++ List.replicate (2 - (lg_sl ([.ref h0, .int k])).length) Slot.unset).toArray = ls at hl ⊢
  have hl : lv_has ls 2 [(0, .ref h0), (1, .int k)] := hl
  unfold A_PP_label at hr0
  refine lv_aload_n hx hb d_PP_label_0 rfl (lv_at hl 0 rfl) ?_
  refine va_get (D := G.1) (ci := 5) (v := .ref (ad 2)) (C := RPP) (T := TPP) (N := 5) hx hb hts inPP hown hK hP 0 rfl rfl 2 (by decide) (hts _ fl_PP_28) (fun _ h9 => h9) rfl d_PP_label_1 ?_
  refine lv_iload_n hx hb d_PP_label_4 rfl (lv_at hl 1 rfl) ?_
  refine rdV (G := G) (As := [.int k]) (rest := []) (C := RTL) ⟨hx, hb, hml, hown, hts⟩ (c_TL_labelAt l G (ad 2) (ad 0) (ad 1) adT adL (gPP_telling σ) k _ _ (bk_gP (k := 3) hP rfl) h6 _ rfl) (cwV 1 hts (gd_V ml_PP_117 im_TL_labelAt sl_TL_labelAt ini_TL k_TL_labelAt) rfl rmK_c rmK_s (by decide +kernel) ⟨Nat.le_of_ble_eq_true rfl, Nat.le_of_ble_eq_true rfl⟩) hK (pTL_recv hK (bk_gP (k := 3) hP rfl) h6) hS ⟨Nat.le_refl _, Nat.le_refl _⟩ rfl hl.1 (Nat.le_of_ble_eq_true rfl) d_PP_label_5 (fun locs hS => ?_)
  exact W.iret (v := (A_TL_labelAt (gPP_telling σ) k)) hx hb hr (fun t ht hW => ⟨⟨(A_TL_labelAt (gPP_telling σ) k), (), rfl, hr0, ht⟩, hS.F ht⟩) hS.2.2 d_PP_label_8

def A_PP_letter (σ : tPP) (k : Int32) : Int32 := A_TL_letterAt (gPP_telling σ) k
set_option maxHeartbeats 4000000 in
set_option maxRecDepth 100000 in
theorem c_PP_letter (l : Launch) (G : pG) (h0 : Nat) (ad : Nat → Nat) (adS : Nat → Nat) (adR : Nat → Nat) (adT : Nat → Nat) (adL : Nat → Nat) (σ : tPP) (k : Int32) (H : Heap) (w : va_W) (hP0 : va_P G.1 vwCl w H) (hσ : pPP G h0 ad adS adR adT adL σ w) (res : Int32) (hr0 : A_PP_letter σ k = res) : MRi l y_PP_letter w_PP_letter 3 63 G [.ref h0, .int k] H res := by
  refine Met.ofW (cc := b_PP_letter) (maxL := 2) (ret := (some .int)) (by decide) rfl ?_
  intro p e s m args below meth c s₁ B hml hv
  obtain ⟨rfl, rfl, hK⟩ := hv
  have hx := B.exec
  have hb := B.bytes
  have hr := B.returns
  have hts0 := atoms_spec (ws := w_PP_letter) B.pre
  have hts := fun w (h : w ∈ lw_g) => hts0 w (List.mem_cons_of_mem _ h)
  have hown : s.vm.findClass RPP = some m.cls := findClass_of_methodNamed B.named
  have hlocks := B.notSynchronized
  have hσ0 := hσ
  obtain ⟨w1, w3, w5, w7, rfl, h2, h4, h6, h8⟩ := hσ
  have hP := hP0
  obtain ⟨A, hAe⟩ : ∃ A : Nat → Prop, A = fun _ => False := ⟨_, rfl⟩
  rw [← hAe]
  have hS : va_S A s.heap s.heap [] := va_S.rf
  have hl := lv_entry ([.ref h0, .int k]) (n := 2) (Nat.le_of_ble_eq_true rfl)
  rw [lg_entry_eq]
  generalize (lg_sl ([.ref h0, .int k]) ++ List.replicate (2 - (lg_sl ([.ref h0, .int k])).length) Slot.unset).toArray = ls at hl ⊢
  have hl : lv_has ls 2 [(0, .ref h0), (1, .int k)] := hl
  unfold A_PP_letter at hr0
  refine lv_aload_n hx hb d_PP_letter_0 rfl (lv_at hl 0 rfl) ?_
  refine va_get (D := G.1) (ci := 5) (v := .ref (ad 2)) (C := RPP) (T := TPP) (N := 5) hx hb hts inPP hown hK hP 0 rfl rfl 2 (by decide) (hts _ fl_PP_28) (fun _ h9 => h9) rfl d_PP_letter_1 ?_
  refine lv_iload_n hx hb d_PP_letter_4 rfl (lv_at hl 1 rfl) ?_
  refine rdV (G := G) (As := [.int k]) (rest := []) (C := RTL) ⟨hx, hb, hml, hown, hts⟩ (c_TL_letterAt l G (ad 2) (ad 0) (ad 1) adT adL (gPP_telling σ) k _ _ (bk_gP (k := 3) hP rfl) h6 _ rfl) (cwV 1 hts (gd_V ml_PP_129 im_TL_letterAt sl_TL_letterAt ini_TL k_TL_letterAt) rfl rmK_c rmK_s (by decide +kernel) ⟨Nat.le_of_ble_eq_true rfl, Nat.le_of_ble_eq_true rfl⟩) hK (pTL_recv hK (bk_gP (k := 3) hP rfl) h6) hS ⟨Nat.le_refl _, Nat.le_refl _⟩ rfl hl.1 (Nat.le_of_ble_eq_true rfl) d_PP_letter_5 (fun locs hS => ?_)
  exact W.iret (v := (A_TL_letterAt (gPP_telling σ) k)) hx hb hr (fun t ht hW => ⟨⟨(A_TL_letterAt (gPP_telling σ) k), (), rfl, hr0, ht⟩, hS.F ht⟩) hS.2.2 d_PP_letter_8

def A_PP_size (σ : tPP) (r : Int32) : Int64 := if (A_RW_has (gPP_rows σ) r) = 0 then (-1) else (if (lg_cmp (A_RW_stepsInFull (gPP_rows σ) r) 1000000000000000000) ≤ 0 then (A_RW_stepsInFull (gPP_rows σ) r) else (-2))
set_option maxHeartbeats 4000000 in
set_option maxRecDepth 100000 in
theorem c_PP_size (l : Launch) (G : pG) (h0 : Nat) (ad : Nat → Nat) (adS : Nat → Nat) (adR : Nat → Nat) (adT : Nat → Nat) (adL : Nat → Nat) (σ : tPP) (r : Int32) (H : Heap) (w : va_W) (hP0 : va_P G.1 vwCl w H) (hσ : pPP G h0 ad adS adR adT adL σ w) (res : Int64) (hr0 : A_PP_size σ r = res) : MRl l y_PP_size w_PP_size 3 62 G [.ref h0, .int r] H res := by
  refine Met.ofW (cc := b_PP_size) (maxL := 4) (ret := (some .long)) (by decide) rfl ?_
  intro p e s m args below meth c s₁ B hml hv
  obtain ⟨rfl, rfl, hK⟩ := hv
  have hx := B.exec
  have hb := B.bytes
  have hr := B.returns
  have hts0 := atoms_spec (ws := w_PP_size) B.pre
  have hts := fun w (h : w ∈ lw_g) => hts0 w (List.mem_cons_of_mem _ h)
  have hown : s.vm.findClass RPP = some m.cls := findClass_of_methodNamed B.named
  have hlocks := B.notSynchronized
  have hσ0 := hσ
  obtain ⟨w1, w3, w5, w7, rfl, h2, h4, h6, h8⟩ := hσ
  have hP := hP0
  obtain ⟨A, hAe⟩ : ∃ A : Nat → Prop, A = fun _ => False := ⟨_, rfl⟩
  rw [← hAe]
  have hS : va_S A s.heap s.heap [] := va_S.rf
  have hl := lv_entry ([.ref h0, .int r]) (n := 4) (Nat.le_of_ble_eq_true rfl)
  rw [lg_entry_eq]
  generalize (lg_sl ([.ref h0, .int r]) ++ List.replicate (4 - (lg_sl ([.ref h0, .int r])).length) Slot.unset).toArray = ls at hl ⊢
  have hl : lv_has ls 4 [(0, .ref h0), (1, .int r)] := hl
  unfold A_PP_size at hr0
  refine lv_aload_n hx hb d_PP_size_0 rfl (lv_at hl 0 rfl) ?_
  refine va_get (D := G.1) (ci := 5) (v := .ref (ad 1)) (C := RPP) (T := TPP) (N := 5) hx hb hts inPP hown hK hP 0 rfl rfl 1 (by decide) (hts _ fl_PP_19) (fun _ h9 => h9) rfl d_PP_size_1 ?_
  refine lv_iload_n hx hb d_PP_size_4 rfl (lv_at hl 1 rfl) ?_
  refine rdV (G := G) (As := [.int r]) (rest := []) (C := RRW) ⟨hx, hb, hml, hown, hts⟩ (c_RW_has l G (ad 1) adR (gPP_rows σ) r _ _ (bk_gP (k := 2) hP rfl) h4 _ rfl) (cwV 1 hts (gd_V ml_PP_84 im_RW_has sl_RW_has ini_RW k_RW_has) rfl rmK_c rmK_s (by decide +kernel) ⟨Nat.le_of_ble_eq_true rfl, Nat.le_of_ble_eq_true rfl⟩) hK (pRW_recv hK (bk_gP (k := 2) hP rfl) h4) hS ⟨Nat.le_refl _, Nat.le_refl _⟩ rfl hl.1 (Nat.le_of_ble_eq_true rfl) d_PP_size_5 (fun locs hS => ?_)
  refine lv_if_ne (tgt := 15) hx hb d_PP_size_8 (by decide) (fun c9 => ?_) (fun c9 => ?_)
  · have hr0 := ai_neg c9 hr0
    refine lv_aload_n hx hb d_PP_size_15 rfl (lv_at hl 0 rfl) ?_
    refine va_get (D := G.1) (ci := 5) (v := .ref (ad 1)) (C := RPP) (T := TPP) (N := 5) hx hb hts inPP hown hK hP 0 rfl rfl 1 (by decide) (hts _ fl_PP_19) (fun _ h9 => h9) rfl d_PP_size_16 ?_
    refine lv_iload_n hx hb d_PP_size_19 rfl (lv_at hl 1 rfl) ?_
    refine rdVl (G := G) (As := [.int r]) (rest := []) (C := RRW) ⟨hx, hb, hml, hown, hts⟩ (c_RW_stepsInFull l G (ad 1) adR (gPP_rows σ) r _ _ (bk_gP (k := 2) hP rfl) h4 _ rfl) (cwV 1 hts (gd_V ml_PP_134 im_RW_stepsInFull sl_RW_stepsInFull ini_RW k_RW_stepsInFull) rfl rmK_c rmK_s (by decide +kernel) ⟨Nat.le_of_ble_eq_true rfl, Nat.le_of_ble_eq_true rfl⟩) hK (pRW_recv hK (bk_gP (k := 2) hP rfl) h4) hS ⟨Nat.le_refl _, Nat.le_refl _⟩ rfl hl.1 (Nat.le_of_ble_eq_true rfl) d_PP_size_20 (fun locs hS => ?_)
    refine lv_lstore_n (lv' := [(2, .long (A_RW_stepsInFull (gPP_rows σ) r)), (0, .ref h0), (1, .int r)]) hx hb d_PP_size_23 rfl hl (by decide) rfl (fun ls hl => ?_)
    refine lv_lload_n hx hb d_PP_size_24 rfl (lv_at hl 0 rfl) ?_
    refine lv_ldc2 (v := 1000000000000000000) hx hb hown (hts _ cl2_PP_138) d_PP_size_25 ?_
    refine W.lcmp hx hb d_PP_size_28 ?_
    refine lv_if_le (tgt := 38) hx hb d_PP_size_29 (by decide) (fun c10 => ?_) (fun c10 => ?_)
    · have hr0 := ai_pos c10 hr0
      refine lv_lload_n hx hb d_PP_size_38 rfl (lv_at hl 0 rfl) ?_
      exact W.lret (v := (A_RW_stepsInFull (gPP_rows σ) r)) hx hb hr (fun t ht hW => ⟨⟨(A_RW_stepsInFull (gPP_rows σ) r), (), rfl, hr0, ht⟩, hS.F ht⟩) hS.2.2 d_PP_size_39
    · have hr0 := ai_neg c10 hr0
      refine lv_ldc2 (v := (-2)) hx hb hown (hts _ cl2_PP_140) d_PP_size_32 ?_
      refine lv_goto (tgt := 39) hx hb d_PP_size_35 (by decide) ?_
      exact W.lret (v := (-2)) hx hb hr (fun t ht hW => ⟨⟨(-2), (), rfl, hr0, ht⟩, hS.F ht⟩) hS.2.2 d_PP_size_39
  · have hr0 := ai_pos c9 hr0
    refine lv_ldc2 (v := (-1)) hx hb hown (hts _ cl2_PP_132) d_PP_size_11 ?_
    exact W.lret (v := (-1)) hx hb hr (fun t ht hW => ⟨⟨(-1), (), rfl, hr0, ht⟩, hS.F ht⟩) hS.2.2 d_PP_size_14

def A_PP_full (σ : tPP) (r : Int32) (k : Int32) : Int32 := if 0 < (lg_cmp (A_RW_stepsInFull (gPP_rows σ) r) 4000) then (-1) else (if k < 0 then (-1) else (if (lg_cmp k.toInt64 (A_RW_stepsInFull (gPP_rows σ) r)) < 0 then (A_RW_statementInFull (gPP_rows σ) r k) else (-1)))
set_option maxHeartbeats 4000000 in
set_option maxRecDepth 100000 in
theorem c_PP_full (l : Launch) (G : pG) (h0 : Nat) (ad : Nat → Nat) (adS : Nat → Nat) (adR : Nat → Nat) (adT : Nat → Nat) (adL : Nat → Nat) (σ : tPP) (r : Int32) (k : Int32) (H : Heap) (w : va_W) (hP0 : va_P G.1 vwCl w H) (hσ : pPP G h0 ad adS adR adT adL σ w) (res : Int32) (hr0 : A_PP_full σ r k = res) : MRi l y_PP_full w_PP_full 5 111 G [.ref h0, .int r, .int k] H res := by
  refine Met.ofW (cc := b_PP_full) (maxL := 5) (ret := (some .int)) (by decide) rfl ?_
  intro p e s m args below meth c s₁ B hml hv
  obtain ⟨rfl, rfl, hK⟩ := hv
  have hx := B.exec
  have hb := B.bytes
  have hr := B.returns
  have hts0 := atoms_spec (ws := w_PP_full) B.pre
  have hts := fun w (h : w ∈ lw_g) => hts0 w (List.mem_cons_of_mem _ h)
  have hown : s.vm.findClass RPP = some m.cls := findClass_of_methodNamed B.named
  have hlocks := B.notSynchronized
  have hσ0 := hσ
  obtain ⟨w1, w3, w5, w7, rfl, h2, h4, h6, h8⟩ := hσ
  have hP := hP0
  obtain ⟨A, hAe⟩ : ∃ A : Nat → Prop, A = fun _ => False := ⟨_, rfl⟩
  rw [← hAe]
  have hS : va_S A s.heap s.heap [] := va_S.rf
  have hl := lv_entry ([.ref h0, .int r, .int k]) (n := 5) (Nat.le_of_ble_eq_true rfl)
  rw [lg_entry_eq]
  generalize (lg_sl ([.ref h0, .int r, .int k]) ++ List.replicate (5 - (lg_sl ([.ref h0, .int r, .int k])).length) Slot.unset).toArray = ls at hl ⊢
  have hl : lv_has ls 5 [(0, .ref h0), (1, .int r), (2, .int k)] := hl
  unfold A_PP_full at hr0
  refine lv_aload_n hx hb d_PP_full_0 rfl (lv_at hl 0 rfl) ?_
  refine va_get (D := G.1) (ci := 5) (v := .ref (ad 1)) (C := RPP) (T := TPP) (N := 5) hx hb hts inPP hown hK hP 0 rfl rfl 1 (by decide) (hts _ fl_PP_19) (fun _ h9 => h9) rfl d_PP_full_1 ?_
  refine lv_iload_n hx hb d_PP_full_4 rfl (lv_at hl 1 rfl) ?_
  refine rdVl (G := G) (As := [.int r]) (rest := []) (C := RRW) ⟨hx, hb, hml, hown, hts⟩ (c_RW_stepsInFull l G (ad 1) adR (gPP_rows σ) r _ _ (bk_gP (k := 2) hP rfl) h4 _ rfl) (cwV 1 hts (gd_V ml_PP_134 im_RW_stepsInFull sl_RW_stepsInFull ini_RW k_RW_stepsInFull) rfl rmK_c rmK_s (by decide +kernel) ⟨Nat.le_of_ble_eq_true rfl, Nat.le_of_ble_eq_true rfl⟩) hK (pRW_recv hK (bk_gP (k := 2) hP rfl) h4) hS ⟨Nat.le_refl _, Nat.le_refl _⟩ rfl hl.1 (Nat.le_of_ble_eq_true rfl) d_PP_full_5 (fun locs hS => ?_)
  refine lv_lstore_n (lv' := [(3, .long (A_RW_stepsInFull (gPP_rows σ) r)), (0, .ref h0), (1, .int r), (2, .int k)]) hx hb d_PP_full_8 rfl hl (by decide) rfl (fun ls hl => ?_)
  refine lv_lload_n hx hb d_PP_full_9 rfl (lv_at hl 0 rfl) ?_
  refine lv_ldc2 (v := 4000) hx hb hown (hts _ cl2_PP_142) d_PP_full_10 ?_
  refine W.lcmp hx hb d_PP_full_13 ?_
  refine lv_if_gt (tgt := 28) hx hb d_PP_full_14 (by decide) (fun c9 => ?_) (fun c9 => ?_)
  · have hr0 := ai_pos c9 hr0
    refine lv_iconst (v := (-1)) hx hb d_PP_full_28 (by decide) ?_
    exact W.iret (v := (-1)) hx hb hr (fun t ht hW => ⟨⟨(-1), (), rfl, hr0, ht⟩, hS.F ht⟩) hS.2.2 d_PP_full_29
  · have hr0 := ai_neg c9 hr0
    refine lv_iload_n hx hb d_PP_full_17 rfl (lv_at hl 3 rfl) ?_
    refine lv_if_lt (tgt := 28) hx hb d_PP_full_18 (by decide) (fun c10 => ?_) (fun c10 => ?_)
    · have hr0 := ai_pos c10 hr0
      refine lv_iconst (v := (-1)) hx hb d_PP_full_28 (by decide) ?_
      exact W.iret (v := (-1)) hx hb hr (fun t ht hW => ⟨⟨(-1), (), rfl, hr0, ht⟩, hS.F ht⟩) hS.2.2 d_PP_full_29
    · have hr0 := ai_neg c10 hr0
      refine lv_iload_n hx hb d_PP_full_21 rfl (lv_at hl 3 rfl) ?_
      refine lv_i2l (v := k.toInt64) hx hb d_PP_full_22 rfl ?_
      refine lv_lload_n hx hb d_PP_full_23 rfl (lv_at hl 0 rfl) ?_
      refine W.lcmp hx hb d_PP_full_24 ?_
      refine lv_if_lt (tgt := 30) hx hb d_PP_full_25 (by decide) (fun c11 => ?_) (fun c11 => ?_)
      · have hr0 := ai_pos c11 hr0
        refine lv_aload_n hx hb d_PP_full_30 rfl (lv_at hl 1 rfl) ?_
        refine va_get (D := G.1) (ci := 5) (v := .ref (ad 1)) (C := RPP) (T := TPP) (N := 5) hx hb hts inPP hown hK hP 0 rfl rfl 1 (by decide) (hts _ fl_PP_19) (fun _ h9 => h9) rfl d_PP_full_31 ?_
        refine lv_iload_n hx hb d_PP_full_34 rfl (lv_at hl 2 rfl) ?_
        refine lv_iload_n hx hb d_PP_full_35 rfl (lv_at hl 3 rfl) ?_
        refine rdV (G := G) (As := [.int r, .int k]) (rest := []) (C := RRW) ⟨hx, hb, hml, hown, hts⟩ (c_RW_statementInFull l G (ad 1) adR (gPP_rows σ) r k _ _ (bk_gP (k := 2) hP rfl) h4 _ rfl) (cwV 2 hts (gd_V ml_PP_144 im_RW_statementInFull sl_RW_statementInFull ini_RW k_RW_statementInFull) rfl rmK_c rmK_s (by decide +kernel) ⟨Nat.le_of_ble_eq_true rfl, Nat.le_of_ble_eq_true rfl⟩) hK (pRW_recv hK (bk_gP (k := 2) hP rfl) h4) hS ⟨Nat.le_refl _, Nat.le_refl _⟩ rfl hl.1 (Nat.le_of_ble_eq_true rfl) d_PP_full_36 (fun locs hS => ?_)
        exact W.iret (v := (A_RW_statementInFull (gPP_rows σ) r k)) hx hb hr (fun t ht hW => ⟨⟨(A_RW_statementInFull (gPP_rows σ) r k), (), rfl, hr0, ht⟩, hS.F ht⟩) hS.2.2 d_PP_full_39
      · have hr0 := ai_neg c11 hr0
        refine lv_iconst (v := (-1)) hx hb d_PP_full_28 (by decide) ?_
        exact W.iret (v := (-1)) hx hb hr (fun t ht hW => ⟨⟨(-1), (), rfl, hr0, ht⟩, hS.F ht⟩) hS.2.2 d_PP_full_29

def A_PP_count (σ : tPP) (what : Int32) : Int32 := if what = 0 then (A_ST_amount (gPP_statements σ)) else (if what = 1 then (A_ST_mandatories (gPP_statements σ)) else (if what = 2 then (A_RW_amount (gPP_rows σ)) else (if what = 3 then (A_IL_length (gPP_pile σ)) else (if what = 4 then (gPP_puts σ) else (if what = 5 then (A_RW_amountOfKinds (gPP_rows σ)) else (-1))))))
set_option maxHeartbeats 4000000 in
set_option maxRecDepth 100000 in
theorem c_PP_count (l : Launch) (G : pG) (h0 : Nat) (ad : Nat → Nat) (adS : Nat → Nat) (adR : Nat → Nat) (adT : Nat → Nat) (adL : Nat → Nat) (σ : tPP) (what : Int32) (H : Heap) (w : va_W) (hP0 : va_P G.1 vwCl w H) (hσ : pPP G h0 ad adS adR adT adL σ w) (res : Int32) (hr0 : A_PP_count σ what = res) : MRi l y_PP_count w_PP_count 2 40 G [.ref h0, .int what] H res := by
  refine Met.ofW (cc := b_PP_count) (maxL := 2) (ret := (some .int)) (by decide) rfl ?_
  intro p e s m args below meth c s₁ B hml hv
  obtain ⟨rfl, rfl, hK⟩ := hv
  have hx := B.exec
  have hb := B.bytes
  have hr := B.returns
  have hts0 := atoms_spec (ws := w_PP_count) B.pre
  have hts := fun w (h : w ∈ lw_g) => hts0 w (List.mem_cons_of_mem _ h)
  have hown : s.vm.findClass RPP = some m.cls := findClass_of_methodNamed B.named
  have hlocks := B.notSynchronized
  have hσ0 := hσ
  obtain ⟨w1, w3, w5, w7, rfl, h2, h4, h6, h8⟩ := hσ
  have hP := hP0
  obtain ⟨A, hAe⟩ : ∃ A : Nat → Prop, A = fun _ => False := ⟨_, rfl⟩
  rw [← hAe]
  have hS : va_S A s.heap s.heap [] := va_S.rf
  have hl := lv_entry ([.ref h0, .int what]) (n := 2) (Nat.le_of_ble_eq_true rfl)
  rw [lg_entry_eq]
  generalize (lg_sl ([.ref h0, .int what]) ++ List.replicate (2 - (lg_sl ([.ref h0, .int what])).length) Slot.unset).toArray = ls at hl ⊢
  have hl : lv_has ls 2 [(0, .ref h0), (1, .int what)] := hl
  unfold A_PP_count at hr0
  refine lv_iload_n hx hb d_PP_count_0 rfl (lv_at hl 1 rfl) ?_
  by_cases c9 : what = 0
  · have hr0 := ai_pos c9 hr0
    refine lv_tableIn (off := 39) (tgt := 40) hx hb d_PP_count_1 (by rw [c9]; decide) (by rw [c9]; decide) (by rw [c9]; rfl) (by decide) ?_
    refine lv_aload_n hx hb d_PP_count_40 rfl (lv_at hl 0 rfl) ?_
    refine va_get (D := G.1) (ci := 5) (v := .ref (ad 0)) (C := RPP) (T := TPP) (N := 5) hx hb hts inPP hown hK hP 0 rfl rfl 0 (by decide) (hts _ fl_PP_10) (fun _ h9 => h9) rfl d_PP_count_41 ?_
    refine rdV (G := G) (As := []) (rest := []) (C := RST) ⟨hx, hb, hml, hown, hts⟩ (c_ST_amount l G (ad 0) adS (gPP_statements σ) _ _ (bk_gP (k := 1) hP rfl) h2 _ rfl) (cwV 0 hts (gd_V ml_PP_43 im_ST_amount sl_ST_amount ini_ST k_ST_amount) rfl rmK_c rmK_s (by decide +kernel) ⟨Nat.le_of_ble_eq_true rfl, Nat.le_of_ble_eq_true rfl⟩) hK (pST_recv hK (bk_gP (k := 1) hP rfl) h2) hS ⟨Nat.le_refl _, Nat.le_refl _⟩ rfl hl.1 (Nat.le_of_ble_eq_true rfl) d_PP_count_44 (fun locs hS => ?_)
    exact W.iret (v := (A_ST_amount (gPP_statements σ))) hx hb hr (fun t ht hW => ⟨⟨(A_ST_amount (gPP_statements σ)), (), rfl, hr0, ht⟩, hS.F ht⟩) hS.2.2 d_PP_count_47
  have hr0 := ai_neg c9 hr0
  by_cases c10 : what = 1
  · have hr0 := ai_pos c10 hr0
    refine lv_tableIn (off := 47) (tgt := 48) hx hb d_PP_count_1 (by rw [c10]; decide) (by rw [c10]; decide) (by rw [c10]; rfl) (by decide) ?_
    refine lv_aload_n hx hb d_PP_count_48 rfl (lv_at hl 0 rfl) ?_
    refine va_get (D := G.1) (ci := 5) (v := .ref (ad 0)) (C := RPP) (T := TPP) (N := 5) hx hb hts inPP hown hK hP 0 rfl rfl 0 (by decide) (hts _ fl_PP_10) (fun _ h9 => h9) rfl d_PP_count_49 ?_
    refine rdV (G := G) (As := []) (rest := []) (C := RST) ⟨hx, hb, hml, hown, hts⟩ (c_ST_mandatories l G (ad 0) adS (gPP_statements σ) _ _ (bk_gP (k := 1) hP rfl) h2 _ rfl) (cwV 0 hts (gd_V ml_PP_61 im_ST_mandatories sl_ST_mandatories ini_ST k_ST_mandatories) rfl rmK_c rmK_s (by decide +kernel) ⟨Nat.le_of_ble_eq_true rfl, Nat.le_of_ble_eq_true rfl⟩) hK (pST_recv hK (bk_gP (k := 1) hP rfl) h2) hS ⟨Nat.le_refl _, Nat.le_refl _⟩ rfl hl.1 (Nat.le_of_ble_eq_true rfl) d_PP_count_52 (fun locs hS => ?_)
    exact W.iret (v := (A_ST_mandatories (gPP_statements σ))) hx hb hr (fun t ht hW => ⟨⟨(A_ST_mandatories (gPP_statements σ)), (), rfl, hr0, ht⟩, hS.F ht⟩) hS.2.2 d_PP_count_55
  have hr0 := ai_neg c10 hr0
  by_cases c11 : what = 2
  · have hr0 := ai_pos c11 hr0
    refine lv_tableIn (off := 55) (tgt := 56) hx hb d_PP_count_1 (by rw [c11]; decide) (by rw [c11]; decide) (by rw [c11]; rfl) (by decide) ?_
    refine lv_aload_n hx hb d_PP_count_56 rfl (lv_at hl 0 rfl) ?_
    refine va_get (D := G.1) (ci := 5) (v := .ref (ad 1)) (C := RPP) (T := TPP) (N := 5) hx hb hts inPP hown hK hP 0 rfl rfl 1 (by decide) (hts _ fl_PP_19) (fun _ h9 => h9) rfl d_PP_count_57 ?_
    refine rdV (G := G) (As := []) (rest := []) (C := RRW) ⟨hx, hb, hml, hown, hts⟩ (c_RW_amount l G (ad 1) adR (gPP_rows σ) _ _ (bk_gP (k := 2) hP rfl) h4 _ rfl) (cwV 0 hts (gd_V ml_PP_70 im_RW_amount sl_RW_amount ini_RW k_RW_amount) rfl rmK_c rmK_s (by decide +kernel) ⟨Nat.le_of_ble_eq_true rfl, Nat.le_of_ble_eq_true rfl⟩) hK (pRW_recv hK (bk_gP (k := 2) hP rfl) h4) hS ⟨Nat.le_refl _, Nat.le_refl _⟩ rfl hl.1 (Nat.le_of_ble_eq_true rfl) d_PP_count_60 (fun locs hS => ?_)
    exact W.iret (v := (A_RW_amount (gPP_rows σ))) hx hb hr (fun t ht hW => ⟨⟨(A_RW_amount (gPP_rows σ)), (), rfl, hr0, ht⟩, hS.F ht⟩) hS.2.2 d_PP_count_63
  have hr0 := ai_neg c11 hr0
  by_cases c12 : what = 3
  · have hr0 := ai_pos c12 hr0
    refine lv_tableIn (off := 63) (tgt := 64) hx hb d_PP_count_1 (by rw [c12]; decide) (by rw [c12]; decide) (by rw [c12]; rfl) (by decide) ?_
    refine lv_aload_n hx hb d_PP_count_64 rfl (lv_at hl 0 rfl) ?_
    refine va_get (D := G.1) (ci := 5) (v := .ref (ad 3)) (C := RPP) (T := TPP) (N := 5) hx hb hts inPP hown hK hP 0 rfl rfl 3 (by decide) (hts _ fl_PP_35) (fun _ h9 => h9) rfl d_PP_count_65 ?_
    refine rdV (G := G) (As := []) (rest := []) (C := RIL) ⟨hx, hb, hml, hown, hts⟩ (c_IL_length l G (ad 3) (gPP_pile σ) _ _ (bk_gP (k := 4) hP rfl) h8 _ rfl) (cwV 0 hts (gd_V ml_PP_67 im_IL_length sl_IL_length ini_IL k_IL_length) rfl rmK_c rmK_s (by decide +kernel) ⟨Nat.le_of_ble_eq_true rfl, Nat.le_of_ble_eq_true rfl⟩) hK (pIL_recv hK (bk_gP (k := 4) hP rfl) h8) hS ⟨Nat.le_refl _, Nat.le_refl _⟩ rfl hl.1 (Nat.le_of_ble_eq_true rfl) d_PP_count_68 (fun locs hS => ?_)
    exact W.iret (v := (A_IL_length (gPP_pile σ))) hx hb hr (fun t ht hW => ⟨⟨(A_IL_length (gPP_pile σ)), (), rfl, hr0, ht⟩, hS.F ht⟩) hS.2.2 d_PP_count_71
  have hr0 := ai_neg c12 hr0
  by_cases c13 : what = 4
  · have hr0 := ai_pos c13 hr0
    refine lv_tableIn (off := 71) (tgt := 72) hx hb d_PP_count_1 (by rw [c13]; decide) (by rw [c13]; decide) (by rw [c13]; rfl) (by decide) ?_
    refine lv_aload_n hx hb d_PP_count_72 rfl (lv_at hl 0 rfl) ?_
    refine va_get (D := G.1) (ci := 5) (v := .int (gPP_puts σ)) (C := RPP) (T := TPP) (N := 5) hx hb hts inPP hown hK hP 0 rfl rfl 4 (by decide) (hts _ fl_PP_39) (fun _ h9 => h9) rfl d_PP_count_73 ?_
    exact W.iret (v := (gPP_puts σ)) hx hb hr (fun t ht hW => ⟨⟨(gPP_puts σ), (), rfl, hr0, ht⟩, hS.F ht⟩) hS.2.2 d_PP_count_76
  have hr0 := ai_neg c13 hr0
  by_cases c14 : what = 5
  · have hr0 := ai_pos c14 hr0
    refine lv_tableIn (off := 76) (tgt := 77) hx hb d_PP_count_1 (by rw [c14]; decide) (by rw [c14]; decide) (by rw [c14]; rfl) (by decide) ?_
    refine lv_aload_n hx hb d_PP_count_77 rfl (lv_at hl 0 rfl) ?_
    refine va_get (D := G.1) (ci := 5) (v := .ref (ad 1)) (C := RPP) (T := TPP) (N := 5) hx hb hts inPP hown hK hP 0 rfl rfl 1 (by decide) (hts _ fl_PP_19) (fun _ h9 => h9) rfl d_PP_count_78 ?_
    refine rdV (G := G) (As := []) (rest := []) (C := RRW) ⟨hx, hb, hml, hown, hts⟩ (c_RW_amountOfKinds l G (ad 1) adR (gPP_rows σ) _ _ (bk_gP (k := 2) hP rfl) h4 _ rfl) (cwV 0 hts (gd_V ml_PP_89 im_RW_amountOfKinds sl_RW_amountOfKinds ini_RW k_RW_amountOfKinds) rfl rmK_c rmK_s (by decide +kernel) ⟨Nat.le_of_ble_eq_true rfl, Nat.le_of_ble_eq_true rfl⟩) hK (pRW_recv hK (bk_gP (k := 2) hP rfl) h4) hS ⟨Nat.le_refl _, Nat.le_refl _⟩ rfl hl.1 (Nat.le_of_ble_eq_true rfl) d_PP_count_81 (fun locs hS => ?_)
    exact W.iret (v := (A_RW_amountOfKinds (gPP_rows σ))) hx hb hr (fun t ht hW => ⟨⟨(A_RW_amountOfKinds (gPP_rows σ)), (), rfl, hr0, ht⟩, hS.F ht⟩) hS.2.2 d_PP_count_84
  have hr0 := ai_neg c14 hr0
  refine lv_tableOut (tgt := 85) hx hb d_PP_count_1 (sw_out (n := 5) (fun k hk9 => by rcases (show k = 0 ∨ k = 1 ∨ k = 2 ∨ k = 3 ∨ k = 4 ∨ k = 5 by omega) with rfl | rfl | rfl | rfl | rfl | rfl <;> assumption)) (by decide) ?_
  refine lv_iconst (v := (-1)) hx hb d_PP_count_85 (by decide) ?_
  exact W.iret (v := (-1)) hx hb hr (fun t ht hW => ⟨⟨(-1), (), rfl, hr0, ht⟩, hS.F ht⟩) hS.2.2 d_PP_count_86

def A_PP_packed (σ : tPP) (what : Int32) : Int32 := if what = 0 then (A_TL_amountOfLabels (gPP_telling σ)) else (if what = 1 then (A_TL_amountOfLetters (gPP_telling σ)) else (if what = 2 then (A_TL_amountOfSaved (gPP_telling σ)) else (-1)))
set_option maxHeartbeats 4000000 in
set_option maxRecDepth 100000 in
theorem c_PP_packed (l : Launch) (G : pG) (h0 : Nat) (ad : Nat → Nat) (adS : Nat → Nat) (adR : Nat → Nat) (adT : Nat → Nat) (adL : Nat → Nat) (σ : tPP) (what : Int32) (H : Heap) (w : va_W) (hP0 : va_P G.1 vwCl w H) (hσ : pPP G h0 ad adS adR adT adL σ w) (res : Int32) (hr0 : A_PP_packed σ what = res) : MRi l y_PP_packed w_PP_packed 3 60 G [.ref h0, .int what] H res := by
  refine Met.ofW (cc := b_PP_packed) (maxL := 2) (ret := (some .int)) (by decide) rfl ?_
  intro p e s m args below meth c s₁ B hml hv
  obtain ⟨rfl, rfl, hK⟩ := hv
  have hx := B.exec
  have hb := B.bytes
  have hr := B.returns
  have hts0 := atoms_spec (ws := w_PP_packed) B.pre
  have hts := fun w (h : w ∈ lw_g) => hts0 w (List.mem_cons_of_mem _ h)
  have hown : s.vm.findClass RPP = some m.cls := findClass_of_methodNamed B.named
  have hlocks := B.notSynchronized
  have hσ0 := hσ
  obtain ⟨w1, w3, w5, w7, rfl, h2, h4, h6, h8⟩ := hσ
  have hP := hP0
  obtain ⟨A, hAe⟩ : ∃ A : Nat → Prop, A = fun _ => False := ⟨_, rfl⟩
  rw [← hAe]
  have hS : va_S A s.heap s.heap [] := va_S.rf
  have hl := lv_entry ([.ref h0, .int what]) (n := 2) (Nat.le_of_ble_eq_true rfl)
  rw [lg_entry_eq]
  generalize (lg_sl ([.ref h0, .int what]) ++ List.replicate (2 - (lg_sl ([.ref h0, .int what])).length) Slot.unset).toArray = ls at hl ⊢
  have hl : lv_has ls 2 [(0, .ref h0), (1, .int what)] := hl
  unfold A_PP_packed at hr0
  refine lv_iload_n hx hb d_PP_packed_0 rfl (lv_at hl 1 rfl) ?_
  by_cases c9 : what = 0
  · have hr0 := ai_pos c9 hr0
    refine lv_tableIn (off := 27) (tgt := 28) hx hb d_PP_packed_1 (by rw [c9]; decide) (by rw [c9]; decide) (by rw [c9]; rfl) (by decide) ?_
    refine lv_aload_n hx hb d_PP_packed_28 rfl (lv_at hl 0 rfl) ?_
    refine va_get (D := G.1) (ci := 5) (v := .ref (ad 2)) (C := RPP) (T := TPP) (N := 5) hx hb hts inPP hown hK hP 0 rfl rfl 2 (by decide) (hts _ fl_PP_28) (fun _ h9 => h9) rfl d_PP_packed_29 ?_
    refine rdV (G := G) (As := []) (rest := []) (C := RTL) ⟨hx, hb, hml, hown, hts⟩ (c_TL_amountOfLabels l G (ad 2) (ad 0) (ad 1) adT adL (gPP_telling σ) _ _ (bk_gP (k := 3) hP rfl) h6 _ rfl) (cwV 0 hts (gd_V ml_PP_120 im_TL_amountOfLabels sl_TL_amountOfLabels ini_TL k_TL_amountOfLabels) rfl rmK_c rmK_s (by decide +kernel) ⟨Nat.le_of_ble_eq_true rfl, Nat.le_of_ble_eq_true rfl⟩) hK (pTL_recv hK (bk_gP (k := 3) hP rfl) h6) hS ⟨Nat.le_refl _, Nat.le_refl _⟩ rfl hl.1 (Nat.le_of_ble_eq_true rfl) d_PP_packed_32 (fun locs hS => ?_)
    exact W.iret (v := (A_TL_amountOfLabels (gPP_telling σ))) hx hb hr (fun t ht hW => ⟨⟨(A_TL_amountOfLabels (gPP_telling σ)), (), rfl, hr0, ht⟩, hS.F ht⟩) hS.2.2 d_PP_packed_35
  have hr0 := ai_neg c9 hr0
  by_cases c10 : what = 1
  · have hr0 := ai_pos c10 hr0
    refine lv_tableIn (off := 35) (tgt := 36) hx hb d_PP_packed_1 (by rw [c10]; decide) (by rw [c10]; decide) (by rw [c10]; rfl) (by decide) ?_
    refine lv_aload_n hx hb d_PP_packed_36 rfl (lv_at hl 0 rfl) ?_
    refine va_get (D := G.1) (ci := 5) (v := .ref (ad 2)) (C := RPP) (T := TPP) (N := 5) hx hb hts inPP hown hK hP 0 rfl rfl 2 (by decide) (hts _ fl_PP_28) (fun _ h9 => h9) rfl d_PP_packed_37 ?_
    refine rdV (G := G) (As := []) (rest := []) (C := RTL) ⟨hx, hb, hml, hown, hts⟩ (c_TL_amountOfLetters l G (ad 2) (ad 0) (ad 1) adT adL (gPP_telling σ) _ _ (bk_gP (k := 3) hP rfl) h6 _ rfl) (cwV 0 hts (gd_V ml_PP_123 im_TL_amountOfLetters sl_TL_amountOfLetters ini_TL k_TL_amountOfLetters) rfl rmK_c rmK_s (by decide +kernel) ⟨Nat.le_of_ble_eq_true rfl, Nat.le_of_ble_eq_true rfl⟩) hK (pTL_recv hK (bk_gP (k := 3) hP rfl) h6) hS ⟨Nat.le_refl _, Nat.le_refl _⟩ rfl hl.1 (Nat.le_of_ble_eq_true rfl) d_PP_packed_40 (fun locs hS => ?_)
    exact W.iret (v := (A_TL_amountOfLetters (gPP_telling σ))) hx hb hr (fun t ht hW => ⟨⟨(A_TL_amountOfLetters (gPP_telling σ)), (), rfl, hr0, ht⟩, hS.F ht⟩) hS.2.2 d_PP_packed_43
  have hr0 := ai_neg c10 hr0
  by_cases c11 : what = 2
  · have hr0 := ai_pos c11 hr0
    refine lv_tableIn (off := 43) (tgt := 44) hx hb d_PP_packed_1 (by rw [c11]; decide) (by rw [c11]; decide) (by rw [c11]; rfl) (by decide) ?_
    refine lv_aload_n hx hb d_PP_packed_44 rfl (lv_at hl 0 rfl) ?_
    refine va_get (D := G.1) (ci := 5) (v := .ref (ad 2)) (C := RPP) (T := TPP) (N := 5) hx hb hts inPP hown hK hP 0 rfl rfl 2 (by decide) (hts _ fl_PP_28) (fun _ h9 => h9) rfl d_PP_packed_45 ?_
    refine rdV (G := G) (As := []) (rest := []) (C := RTL) ⟨hx, hb, hml, hown, hts⟩ (c_TL_amountOfSaved l G (ad 2) (ad 0) (ad 1) adT adL (gPP_telling σ) _ _ (bk_gP (k := 3) hP rfl) h6 _ rfl) (cwV 0 hts (gd_V ml_PP_126 im_TL_amountOfSaved sl_TL_amountOfSaved ini_TL k_TL_amountOfSaved) rfl rmK_c rmK_s (by decide +kernel) ⟨Nat.le_of_ble_eq_true rfl, Nat.le_of_ble_eq_true rfl⟩) hK (pTL_recv hK (bk_gP (k := 3) hP rfl) h6) hS ⟨Nat.le_refl _, Nat.le_refl _⟩ rfl hl.1 (Nat.le_of_ble_eq_true rfl) d_PP_packed_48 (fun locs hS => ?_)
    exact W.iret (v := (A_TL_amountOfSaved (gPP_telling σ))) hx hb hr (fun t ht hW => ⟨⟨(A_TL_amountOfSaved (gPP_telling σ)), (), rfl, hr0, ht⟩, hS.F ht⟩) hS.2.2 d_PP_packed_51
  have hr0 := ai_neg c11 hr0
  refine lv_tableOut (tgt := 52) hx hb d_PP_packed_1 (sw_out (n := 2) (fun k hk9 => by rcases (show k = 0 ∨ k = 1 ∨ k = 2 by omega) with rfl | rfl | rfl <;> assumption)) (by decide) ?_
  refine lv_iconst (v := (-1)) hx hb d_PP_packed_52 (by decide) ?_
  exact W.iret (v := (-1)) hx hb hr (fun t ht hW => ⟨⟨(-1), (), rfl, hr0, ht⟩, hS.F ht⟩) hS.2.2 d_PP_packed_53
end
section
def A_PP_statement (σ : tPP) (n : Int32) : Int32 × tPP := if n < 0 then ((-1), σ) else (if 60 < n then ((-1), σ) else (if (A_ST_amount (gPP_statements σ)) < 1500 then (bnd (A_ST_add (gPP_statements σ) n) (fun T12 => (T12.1, uPP_statements σ T12.2))) else ((-1), σ)))
def K_PP_statement (σ : tPP) (n : Int32) : Nat := if n < 0 then 0 else (if 60 < n then 0 else (if (A_ST_amount (gPP_statements σ)) < 1500 then ((K_ST_add (gPP_statements σ) n) + (bnd (A_ST_add (gPP_statements σ) n) (fun T12 => 0))) else 0))
set_option maxHeartbeats 4000000 in
set_option maxRecDepth 100000 in
theorem c_PP_statement (l : Launch) (G : pG) (h0 : Nat) (ad : Nat → Nat) (adS : Nat → Nat) (adR : Nat → Nat) (adT : Nat → Nat) (adL : Nat → Nat) (σ : tPP) (n : Int32) (H : Heap) (w : va_W) (hP0 : va_P G.1 vwCl w H) (hD0 : va_D (fun _ => True) w) (hσ : pPP G h0 ad adS adR adT adL σ w) (res : Int32 × tPP) (hr0 : A_PP_statement σ n = res) (Kt : Nat) (hk : K_PP_statement σ n = Kt) (hKb : Kt ≤ 16777216) : MWi l y_PP_statement w_PP_statement 4 124 Kt G [.ref h0, .int n] H w res.1 (pPP G h0 ad adS adR adT adL res.2) := by
  refine Met.ofW (cc := b_PP_statement) (maxL := 2) (ret := (some .int)) (by decide) rfl ?_
  intro p e s m args below meth c s₁ B hml hv
  obtain ⟨rfl, rfl, hK⟩ := hv
  have hx := B.exec
  have hb := B.bytes
  have hr := B.returns
  have hts0 := atoms_spec (ws := w_PP_statement) B.pre
  have hts := fun w (h : w ∈ lw_g) => hts0 w (List.mem_cons_of_mem _ h)
  have hown : s.vm.findClass RPP = some m.cls := findClass_of_methodNamed B.named
  have hlocks := B.notSynchronized
  have hA : ∀ q : Nat, s.heap.size ≤ q → va_A w s.heap.size q := fun _ h => Or.inr h
  have hB : bk G.1 vwCl (va_A w s.heap.size) [w] s.heap := bk_init hP0 hD0
  generalize va_A w s.heap.size = A at *
  have hS : va_S A s.heap s.heap [] := va_S.rf
  obtain ⟨w1, w3, w5, w7, rfl, h2, h4, h6, h8⟩ := hσ
  have hB := bk_many hB
  have hk : 0 + K_PP_statement σ n = Kt := (Nat.zero_add _).trans hk
  have hl := lv_entry ([.ref h0, .int n]) (n := 2) (Nat.le_of_ble_eq_true rfl)
  rw [lg_entry_eq]
  generalize (lg_sl ([.ref h0, .int n]) ++ List.replicate (2 - (lg_sl ([.ref h0, .int n])).length) Slot.unset).toArray = ls at hl ⊢
  have hl : lv_has ls 2 [(0, .ref h0), (1, .int n)] := hl
  unfold A_PP_statement at hr0
  unfold K_PP_statement at hk
  refine lv_iload_n hx hb d_PP_statement_0 rfl (lv_at hl 1 rfl) ?_
  refine lv_if_lt (tgt := 23) hx hb d_PP_statement_1 (by decide) (fun c9 => ?_) (fun c9 => ?_)
  · have hr0 := ai_pos c9 hr0
    have hk := ki_pos c9 hk
    refine lv_iconst (v := (-1)) hx hb d_PP_statement_23 (by decide) ?_
    subst hr0
    refine W.widen (k := Kt) (n := Kt) (Nat.le.intro hk) (Nat.le.intro hk) ?_
    exact W.iret (v := (-1)) hx hb hr (fun t ht hW => ⟨⟨(-1), [[(h0, .inr (5, [.ref (ad 0), .ref (ad 1), .ref (ad 2), .ref (ad 3), .int (gPP_puts σ)]))], w1, w3, w5, w7].flatten, rfl, ⟨rfl, ⟨w1, w3, w5, w7, rfl, h2, h4, h6, h8⟩⟩, by rw [ht]; exact hB.1, hB.2⟩, hS.F ht⟩) hS.2.2 d_PP_statement_24
  · have hr0 := ai_neg c9 hr0
    have hk := ki_neg c9 hk
    refine lv_iload_n hx hb d_PP_statement_4 rfl (lv_at hl 1 rfl) ?_
    refine lv_bipush (v := 60) hx hb d_PP_statement_5 (by decide) ?_
    refine lv_icmp_gt (tgt := 23) hx hb d_PP_statement_7 (by decide) (fun c10 => ?_) (fun c10 => ?_)
    · have hr0 := ai_pos c10 hr0
      have hk := ki_pos c10 hk
      refine lv_iconst (v := (-1)) hx hb d_PP_statement_23 (by decide) ?_
      subst hr0
      refine W.widen (k := Kt) (n := Kt) (Nat.le.intro hk) (Nat.le.intro hk) ?_
      exact W.iret (v := (-1)) hx hb hr (fun t ht hW => ⟨⟨(-1), [[(h0, .inr (5, [.ref (ad 0), .ref (ad 1), .ref (ad 2), .ref (ad 3), .int (gPP_puts σ)]))], w1, w3, w5, w7].flatten, rfl, ⟨rfl, ⟨w1, w3, w5, w7, rfl, h2, h4, h6, h8⟩⟩, by rw [ht]; exact hB.1, hB.2⟩, hS.F ht⟩) hS.2.2 d_PP_statement_24
    · have hr0 := ai_neg c10 hr0
      have hk := ki_neg c10 hk
      refine lv_aload_n hx hb d_PP_statement_10 rfl (lv_at hl 0 rfl) ?_
      refine va_get (D := G.1) (ci := 5) (v := .ref (ad 0)) (C := RPP) (T := TPP) (N := 5) hx hb hts inPP hown hK hB.1 0 rfl rfl 0 (by decide) (hts _ fl_PP_10) (fun _ h9 => h9) rfl d_PP_statement_11 ?_
      refine rdV (G := G) (As := []) (rest := []) (C := RST) ⟨hx, hb, hml, hown, hts⟩ (c_ST_amount l G (ad 0) adS (gPP_statements σ) _ _ (bk_gP (k := 1) hB.1 rfl) h2 _ rfl) (cwV 0 hts (gd_V ml_PP_43 im_ST_amount sl_ST_amount ini_ST k_ST_amount) rfl rmK_c rmK_s (by decide +kernel) ⟨Nat.le_of_ble_eq_true rfl, Nat.le_of_ble_eq_true rfl⟩) hK (pST_recv hK (bk_gP (k := 1) hB.1 rfl) h2) hS ⟨Nat.le.intro hk, Nat.le.intro hk⟩ rfl hl.1 (Nat.le_of_ble_eq_true rfl) d_PP_statement_14 (fun locs hS => ?_)
      refine lv_sipush (v := 1500) hx hb d_PP_statement_17 (by decide) ?_
      refine lv_icmp_lt (tgt := 25) hx hb d_PP_statement_20 (by decide) (fun c11 => ?_) (fun c11 => ?_)
      · have hr0 := ai_pos c11 hr0
        have hk := ki_pos c11 hk
        refine lv_aload_n hx hb d_PP_statement_25 rfl (lv_at hl 0 rfl) ?_
        refine va_get (D := G.1) (ci := 5) (v := .ref (ad 0)) (C := RPP) (T := TPP) (N := 5) hx hb hts inPP hown hK hB.1 0 rfl rfl 0 (by decide) (hts _ fl_PP_10) (fun _ h9 => h9) rfl d_PP_statement_26 ?_
        refine lv_iload_n hx hb d_PP_statement_29 rfl (lv_at hl 1 rfl) ?_
        obtain ⟨T12, hT13⟩ : ∃ z, A_ST_add (gPP_statements σ) n = z := ⟨_, rfl⟩
        refine wrVi (G := G) (k := 1) (As := [.int n]) (rest := []) (C := RST) ⟨hx, hb, hml, hown, hts⟩ (c_ST_add l G (ad 0) adS (gPP_statements σ) n _ _ (bk_gP (k := 1) hB.1 rfl) (bk_own (k := 1) hB rfl) h2 T12 hT13 _ rfl (bk_ub hk hKb)) (cwV 1 hts (gd_V ml_PP_47 im_ST_add sl_ST_add ini_ST k_ST_add) rfl rmK_c rmK_s (by decide +kernel) ⟨Nat.le_of_ble_eq_true rfl, Nat.le_of_ble_eq_true rfl⟩) hK (pST_recv hK (bk_gP (k := 1) hB.1 rfl) h2) hS hA hB rfl hk ⟨rfl, rfl⟩ rfl hl.1 (Nat.le_of_ble_eq_true rfl) d_PP_statement_30 (fun u14 H locs kc hu15 hB hS hk => ?_)
        have hr0 := bnd_e hT13 hr0
        have hk := bnd_k hT13 hk
        have hB : bk G.1 vwCl A [[(h0, .inr (5, [.ref (ad 0), .ref (ad 1), .ref (ad 2), .ref (ad 3), .int (gPP_puts σ)]))], u14, w3, w5, w7] H := hB
        subst hr0
        refine W.widen (k := Kt) (n := Kt) (Nat.le.intro hk) (Nat.le.intro hk) ?_
        exact W.iret (v := T12.1) hx hb hr (fun t ht hW => ⟨⟨T12.1, [[(h0, .inr (5, [.ref (ad 0), .ref (ad 1), .ref (ad 2), .ref (ad 3), .int (gPP_puts σ)]))], u14, w3, w5, w7].flatten, rfl, ⟨rfl, ⟨u14, w3, w5, w7, rfl, hu15, h4, h6, h8⟩⟩, by rw [ht]; exact hB.1, hB.2⟩, hS.F ht⟩) hS.2.2 d_PP_statement_33
      · have hr0 := ai_neg c11 hr0
        have hk := ki_neg c11 hk
        refine lv_iconst (v := (-1)) hx hb d_PP_statement_23 (by decide) ?_
        subst hr0
        refine W.widen (k := Kt) (n := Kt) (Nat.le.intro hk) (Nat.le.intro hk) ?_
        exact W.iret (v := (-1)) hx hb hr (fun t ht hW => ⟨⟨(-1), [[(h0, .inr (5, [.ref (ad 0), .ref (ad 1), .ref (ad 2), .ref (ad 3), .int (gPP_puts σ)]))], w1, w3, w5, w7].flatten, rfl, ⟨rfl, ⟨w1, w3, w5, w7, rfl, h2, h4, h6, h8⟩⟩, by rw [ht]; exact hB.1, hB.2⟩, hS.F ht⟩) hS.2.2 d_PP_statement_24

def A_PP_mandatory (σ : tPP) (i : Int32) : Int32 × tPP := if (A_ST_has (gPP_statements σ) i) = 0 then ((-1), σ) else (if (A_ST_taking (gPP_statements σ) i) = 0 then (if (A_ST_isMandatory (gPP_statements σ) i) = 0 then (if (A_ST_mandatories (gPP_statements σ)) < 60 then (bnd (A_ST_addMandatory (gPP_statements σ) i) (fun T13 => (T13.1, uPP_statements σ T13.2))) else ((-1), σ)) else ((-1), σ)) else ((-1), σ))
set_option maxHeartbeats 4000000 in
set_option maxRecDepth 100000 in
theorem c_PP_mandatory (l : Launch) (G : pG) (h0 : Nat) (ad : Nat → Nat) (adS : Nat → Nat) (adR : Nat → Nat) (adT : Nat → Nat) (adL : Nat → Nat) (σ : tPP) (i : Int32) (H : Heap) (w : va_W) (hP0 : va_P G.1 vwCl w H) (hD0 : va_D (fun _ => True) w) (hσ : pPP G h0 ad adS adR adT adL σ w) (res : Int32 × tPP) (hr0 : A_PP_mandatory σ i = res) : MWi l y_PP_mandatory w_PP_mandatory 2 43 0 G [.ref h0, .int i] H w res.1 (pPP G h0 ad adS adR adT adL res.2) := by
  refine Met.ofW (cc := b_PP_mandatory) (maxL := 2) (ret := (some .int)) (by decide) rfl ?_
  intro p e s m args below meth c s₁ B hml hv
  obtain ⟨rfl, rfl, hK⟩ := hv
  have hx := B.exec
  have hb := B.bytes
  have hr := B.returns
  have hts0 := atoms_spec (ws := w_PP_mandatory) B.pre
  have hts := fun w (h : w ∈ lw_g) => hts0 w (List.mem_cons_of_mem _ h)
  have hown : s.vm.findClass RPP = some m.cls := findClass_of_methodNamed B.named
  have hlocks := B.notSynchronized
  have hA : ∀ q : Nat, s.heap.size ≤ q → va_A w s.heap.size q := fun _ h => Or.inr h
  have hB : bk G.1 vwCl (va_A w s.heap.size) [w] s.heap := bk_init hP0 hD0
  generalize va_A w s.heap.size = A at *
  have hS : va_S A s.heap s.heap [] := va_S.rf
  obtain ⟨w1, w3, w5, w7, rfl, h2, h4, h6, h8⟩ := hσ
  have hB := bk_many hB
  have hk : 0 + 0 = 0 := rfl
  have hl := lv_entry ([.ref h0, .int i]) (n := 2) (Nat.le_of_ble_eq_true rfl)
  rw [lg_entry_eq]
  generalize (lg_sl ([.ref h0, .int i]) ++ List.replicate (2 - (lg_sl ([.ref h0, .int i])).length) Slot.unset).toArray = ls at hl ⊢
  have hl : lv_has ls 2 [(0, .ref h0), (1, .int i)] := hl
  unfold A_PP_mandatory at hr0
  refine lv_aload_n hx hb d_PP_mandatory_0 rfl (lv_at hl 0 rfl) ?_
  refine va_get (D := G.1) (ci := 5) (v := .ref (ad 0)) (C := RPP) (T := TPP) (N := 5) hx hb hts inPP hown hK hB.1 0 rfl rfl 0 (by decide) (hts _ fl_PP_10) (fun _ h9 => h9) rfl d_PP_mandatory_1 ?_
  refine lv_iload_n hx hb d_PP_mandatory_4 rfl (lv_at hl 1 rfl) ?_
  refine rdV (G := G) (As := [.int i]) (rest := []) (C := RST) ⟨hx, hb, hml, hown, hts⟩ (c_ST_has l G (ad 0) adS (gPP_statements σ) i _ _ (bk_gP (k := 1) hB.1 rfl) h2 _ rfl) (cwV 1 hts (gd_V ml_PP_51 im_ST_has sl_ST_has ini_ST k_ST_has) rfl rmK_c rmK_s (by decide +kernel) ⟨Nat.le_of_ble_eq_true rfl, Nat.le_of_ble_eq_true rfl⟩) hK (pST_recv hK (bk_gP (k := 1) hB.1 rfl) h2) hS ⟨Nat.le.intro hk, Nat.le.intro hk⟩ rfl hl.1 (Nat.le_of_ble_eq_true rfl) d_PP_mandatory_5 (fun locs hS => ?_)
  refine lv_if_eq (tgt := 22) hx hb d_PP_mandatory_8 (by decide) (fun c9 => ?_) (fun c9 => ?_)
  · have hr0 := ai_pos c9 hr0
    refine lv_iconst (v := (-1)) hx hb d_PP_mandatory_22 (by decide) ?_
    subst hr0
    refine W.widen (k := 0) (n := 0) (Nat.le_refl _) (Nat.le_refl _) ?_
    exact W.iret (v := (-1)) hx hb hr (fun t ht hW => ⟨⟨(-1), [[(h0, .inr (5, [.ref (ad 0), .ref (ad 1), .ref (ad 2), .ref (ad 3), .int (gPP_puts σ)]))], w1, w3, w5, w7].flatten, rfl, ⟨rfl, ⟨w1, w3, w5, w7, rfl, h2, h4, h6, h8⟩⟩, by rw [ht]; exact hB.1, hB.2⟩, hS.F ht⟩) hS.2.2 d_PP_mandatory_23
  · have hr0 := ai_neg c9 hr0
    refine lv_aload_n hx hb d_PP_mandatory_11 rfl (lv_at hl 0 rfl) ?_
    refine va_get (D := G.1) (ci := 5) (v := .ref (ad 0)) (C := RPP) (T := TPP) (N := 5) hx hb hts inPP hown hK hB.1 0 rfl rfl 0 (by decide) (hts _ fl_PP_10) (fun _ h9 => h9) rfl d_PP_mandatory_12 ?_
    refine lv_iload_n hx hb d_PP_mandatory_15 rfl (lv_at hl 1 rfl) ?_
    refine rdV (G := G) (As := [.int i]) (rest := []) (C := RST) ⟨hx, hb, hml, hown, hts⟩ (c_ST_taking l G (ad 0) adS (gPP_statements σ) i _ _ (bk_gP (k := 1) hB.1 rfl) h2 _ rfl) (cwV 1 hts (gd_V ml_PP_55 im_ST_taking sl_ST_taking ini_ST k_ST_taking) rfl rmK_c rmK_s (by decide +kernel) ⟨Nat.le_of_ble_eq_true rfl, Nat.le_of_ble_eq_true rfl⟩) hK (pST_recv hK (bk_gP (k := 1) hB.1 rfl) h2) hS ⟨Nat.le.intro hk, Nat.le.intro hk⟩ rfl hl.1 (Nat.le_of_ble_eq_true rfl) d_PP_mandatory_16 (fun locs hS => ?_)
    refine lv_if_eq (tgt := 24) hx hb d_PP_mandatory_19 (by decide) (fun c10 => ?_) (fun c10 => ?_)
    · have hr0 := ai_pos c10 hr0
      refine lv_aload_n hx hb d_PP_mandatory_24 rfl (lv_at hl 0 rfl) ?_
      refine va_get (D := G.1) (ci := 5) (v := .ref (ad 0)) (C := RPP) (T := TPP) (N := 5) hx hb hts inPP hown hK hB.1 0 rfl rfl 0 (by decide) (hts _ fl_PP_10) (fun _ h9 => h9) rfl d_PP_mandatory_25 ?_
      refine lv_iload_n hx hb d_PP_mandatory_28 rfl (lv_at hl 1 rfl) ?_
      refine rdV (G := G) (As := [.int i]) (rest := []) (C := RST) ⟨hx, hb, hml, hown, hts⟩ (c_ST_isMandatory l G (ad 0) adS (gPP_statements σ) i _ _ (bk_gP (k := 1) hB.1 rfl) h2 _ rfl) (cwV 1 hts (gd_V ml_PP_58 im_ST_isMandatory sl_ST_isMandatory ini_ST k_ST_isMandatory) rfl rmK_c rmK_s (by decide +kernel) ⟨Nat.le_of_ble_eq_true rfl, Nat.le_of_ble_eq_true rfl⟩) hK (pST_recv hK (bk_gP (k := 1) hB.1 rfl) h2) hS ⟨Nat.le.intro hk, Nat.le.intro hk⟩ rfl hl.1 (Nat.le_of_ble_eq_true rfl) d_PP_mandatory_29 (fun locs hS => ?_)
      refine lv_if_ne (tgt := 47) hx hb d_PP_mandatory_32 (by decide) (fun c11 => ?_) (fun c11 => ?_)
      · have hr0 := ai_neg c11 hr0
        refine lv_iconst (v := (-1)) hx hb d_PP_mandatory_47 (by decide) ?_
        subst hr0
        refine W.widen (k := 0) (n := 0) (Nat.le_refl _) (Nat.le_refl _) ?_
        exact W.iret (v := (-1)) hx hb hr (fun t ht hW => ⟨⟨(-1), [[(h0, .inr (5, [.ref (ad 0), .ref (ad 1), .ref (ad 2), .ref (ad 3), .int (gPP_puts σ)]))], w1, w3, w5, w7].flatten, rfl, ⟨rfl, ⟨w1, w3, w5, w7, rfl, h2, h4, h6, h8⟩⟩, by rw [ht]; exact hB.1, hB.2⟩, hS.F ht⟩) hS.2.2 d_PP_mandatory_48
      · have hr0 := ai_pos c11 hr0
        refine lv_aload_n hx hb d_PP_mandatory_35 rfl (lv_at hl 0 rfl) ?_
        refine va_get (D := G.1) (ci := 5) (v := .ref (ad 0)) (C := RPP) (T := TPP) (N := 5) hx hb hts inPP hown hK hB.1 0 rfl rfl 0 (by decide) (hts _ fl_PP_10) (fun _ h9 => h9) rfl d_PP_mandatory_36 ?_
        refine rdV (G := G) (As := []) (rest := []) (C := RST) ⟨hx, hb, hml, hown, hts⟩ (c_ST_mandatories l G (ad 0) adS (gPP_statements σ) _ _ (bk_gP (k := 1) hB.1 rfl) h2 _ rfl) (cwV 0 hts (gd_V ml_PP_61 im_ST_mandatories sl_ST_mandatories ini_ST k_ST_mandatories) rfl rmK_c rmK_s (by decide +kernel) ⟨Nat.le_of_ble_eq_true rfl, Nat.le_of_ble_eq_true rfl⟩) hK (pST_recv hK (bk_gP (k := 1) hB.1 rfl) h2) hS ⟨Nat.le.intro hk, Nat.le.intro hk⟩ rfl hl.1 (Nat.le_of_ble_eq_true rfl) d_PP_mandatory_39 (fun locs hS => ?_)
        refine lv_bipush (v := 60) hx hb d_PP_mandatory_42 (by decide) ?_
        refine lv_icmp_lt (tgt := 49) hx hb d_PP_mandatory_44 (by decide) (fun c12 => ?_) (fun c12 => ?_)
        · have hr0 := ai_pos c12 hr0
          refine lv_aload_n hx hb d_PP_mandatory_49 rfl (lv_at hl 0 rfl) ?_
          refine va_get (D := G.1) (ci := 5) (v := .ref (ad 0)) (C := RPP) (T := TPP) (N := 5) hx hb hts inPP hown hK hB.1 0 rfl rfl 0 (by decide) (hts _ fl_PP_10) (fun _ h9 => h9) rfl d_PP_mandatory_50 ?_
          refine lv_iload_n hx hb d_PP_mandatory_53 rfl (lv_at hl 1 rfl) ?_
          obtain ⟨T13, hT14⟩ : ∃ z, A_ST_addMandatory (gPP_statements σ) i = z := ⟨_, rfl⟩
          refine wrVi0 (G := G) (k := 1) (As := [.int i]) (rest := []) (C := RST) ⟨hx, hb, hml, hown, hts⟩ (c_ST_addMandatory l G (ad 0) adS (gPP_statements σ) i _ _ (bk_gP (k := 1) hB.1 rfl) (bk_own (k := 1) hB rfl) h2 T13 hT14) (cwV 1 hts (gd_V ml_PP_64 im_ST_addMandatory sl_ST_addMandatory ini_ST k_ST_addMandatory) rfl rmK_c rmK_s (by decide +kernel) ⟨Nat.le_of_ble_eq_true rfl, Nat.le_of_ble_eq_true rfl⟩) hK (pST_recv hK (bk_gP (k := 1) hB.1 rfl) h2) hS hA hB rfl hk ⟨rfl, rfl⟩ rfl hl.1 (Nat.le_of_ble_eq_true rfl) d_PP_mandatory_54 (fun u15 H locs hu16 hB hS => ?_)
          have hr0 := bnd_e hT14 hr0
          have hB : bk G.1 vwCl A [[(h0, .inr (5, [.ref (ad 0), .ref (ad 1), .ref (ad 2), .ref (ad 3), .int (gPP_puts σ)]))], u15, w3, w5, w7] H := hB
          subst hr0
          refine W.widen (k := 0) (n := 0) (Nat.le_refl _) (Nat.le_refl _) ?_
          exact W.iret (v := T13.1) hx hb hr (fun t ht hW => ⟨⟨T13.1, [[(h0, .inr (5, [.ref (ad 0), .ref (ad 1), .ref (ad 2), .ref (ad 3), .int (gPP_puts σ)]))], u15, w3, w5, w7].flatten, rfl, ⟨rfl, ⟨u15, w3, w5, w7, rfl, hu16, h4, h6, h8⟩⟩, by rw [ht]; exact hB.1, hB.2⟩, hS.F ht⟩) hS.2.2 d_PP_mandatory_57
        · have hr0 := ai_neg c12 hr0
          refine lv_iconst (v := (-1)) hx hb d_PP_mandatory_47 (by decide) ?_
          subst hr0
          refine W.widen (k := 0) (n := 0) (Nat.le_refl _) (Nat.le_refl _) ?_
          exact W.iret (v := (-1)) hx hb hr (fun t ht hW => ⟨⟨(-1), [[(h0, .inr (5, [.ref (ad 0), .ref (ad 1), .ref (ad 2), .ref (ad 3), .int (gPP_puts σ)]))], w1, w3, w5, w7].flatten, rfl, ⟨rfl, ⟨w1, w3, w5, w7, rfl, h2, h4, h6, h8⟩⟩, by rw [ht]; exact hB.1, hB.2⟩, hS.F ht⟩) hS.2.2 d_PP_mandatory_48
    · have hr0 := ai_neg c10 hr0
      refine lv_iconst (v := (-1)) hx hb d_PP_mandatory_22 (by decide) ?_
      subst hr0
      refine W.widen (k := 0) (n := 0) (Nat.le_refl _) (Nat.le_refl _) ?_
      exact W.iret (v := (-1)) hx hb hr (fun t ht hW => ⟨⟨(-1), [[(h0, .inr (5, [.ref (ad 0), .ref (ad 1), .ref (ad 2), .ref (ad 3), .int (gPP_puts σ)]))], w1, w3, w5, w7].flatten, rfl, ⟨rfl, ⟨w1, w3, w5, w7, rfl, h2, h4, h6, h8⟩⟩, by rw [ht]; exact hB.1, hB.2⟩, hS.F ht⟩) hS.2.2 d_PP_mandatory_23

def A_PP_make (σ : tPP) (i : Int32) : Int32 × tPP := if (A_ST_has (gPP_statements σ) i) = 0 then ((-1), σ) else (if ((A_IL_length (gPP_pile σ)) - (A_ST_taking (gPP_statements σ) i)) < 0 then ((-1), σ) else (if 4000 ≤ (A_RW_amount (gPP_rows σ)) then ((-1), σ) else (if (A_PP_mayPutOn σ ((A_IL_length (gPP_pile σ)) - (A_ST_taking (gPP_statements σ) i))) = 0 then ((-1), σ) else (bnd (A_RW_add (gPP_rows σ) (gPP_pile σ) i ((A_IL_length (gPP_pile σ)) - (A_ST_taking (gPP_statements σ) i))) (fun T14 => bnd (A_PP_putOn (uPP_pile (uPP_rows σ T14.2) (A_IL_cut (gPP_pile σ) ((A_IL_length (gPP_pile σ)) - (A_ST_taking (gPP_statements σ) i)))) T14.1) (fun T21 => (T14.1, T21)))))))
def K_PP_make (σ : tPP) (i : Int32) : Nat := if (A_ST_has (gPP_statements σ) i) = 0 then 0 else (if ((A_IL_length (gPP_pile σ)) - (A_ST_taking (gPP_statements σ) i)) < 0 then 0 else (if 4000 ≤ (A_RW_amount (gPP_rows σ)) then 0 else (if (A_PP_mayPutOn σ ((A_IL_length (gPP_pile σ)) - (A_ST_taking (gPP_statements σ) i))) = 0 then 0 else ((K_RW_add (gPP_rows σ) (gPP_pile σ) i ((A_IL_length (gPP_pile σ)) - (A_ST_taking (gPP_statements σ) i))) + (bnd (A_RW_add (gPP_rows σ) (gPP_pile σ) i ((A_IL_length (gPP_pile σ)) - (A_ST_taking (gPP_statements σ) i))) (fun T14 => (K_PP_putOn (uPP_pile (uPP_rows σ T14.2) (A_IL_cut (gPP_pile σ) ((A_IL_length (gPP_pile σ)) - (A_ST_taking (gPP_statements σ) i)))) T14.1) + (bnd (A_PP_putOn (uPP_pile (uPP_rows σ T14.2) (A_IL_cut (gPP_pile σ) ((A_IL_length (gPP_pile σ)) - (A_ST_taking (gPP_statements σ) i)))) T14.1) (fun T21 => 0))))))))
set_option maxHeartbeats 4000000 in
set_option maxRecDepth 100000 in
theorem c_PP_make (l : Launch) (G : pG) (h0 : Nat) (ad : Nat → Nat) (adS : Nat → Nat) (adR : Nat → Nat) (adT : Nat → Nat) (adL : Nat → Nat) (σ : tPP) (i : Int32) (H : Heap) (w : va_W) (hP0 : va_P G.1 vwCl w H) (hD0 : va_D (fun _ => True) w) (hσ : pPP G h0 ad adS adR adT adL σ w) (res : Int32 × tPP) (hr0 : A_PP_make σ i = res) (Kt : Nat) (hk : K_PP_make σ i = Kt) (hKb : Kt ≤ 16777216) : MWi l y_PP_make w_PP_make 6 154 Kt G [.ref h0, .int i] H w res.1 (pPP G h0 ad adS adR adT adL res.2) := by
  refine Met.ofW (cc := b_PP_make) (maxL := 4) (ret := (some .int)) (by decide) rfl ?_
  intro p e s m args below meth c s₁ B hml hv
  obtain ⟨rfl, rfl, hK⟩ := hv
  have hx := B.exec
  have hb := B.bytes
  have hr := B.returns
  have hts0 := atoms_spec (ws := w_PP_make) B.pre
  have hts := fun w (h : w ∈ lw_g) => hts0 w (List.mem_cons_of_mem _ h)
  have hown : s.vm.findClass RPP = some m.cls := findClass_of_methodNamed B.named
  have hlocks := B.notSynchronized
  have hA : ∀ q : Nat, s.heap.size ≤ q → va_A w s.heap.size q := fun _ h => Or.inr h
  have hB : bk G.1 vwCl (va_A w s.heap.size) [w] s.heap := bk_init hP0 hD0
  generalize va_A w s.heap.size = A at *
  have hS : va_S A s.heap s.heap [] := va_S.rf
  obtain ⟨w1, w3, w5, w7, rfl, h2, h4, h6, h8⟩ := hσ
  have hB := bk_many hB
  have hk : 0 + K_PP_make σ i = Kt := (Nat.zero_add _).trans hk
  have hl := lv_entry ([.ref h0, .int i]) (n := 4) (Nat.le_of_ble_eq_true rfl)
  rw [lg_entry_eq]
  generalize (lg_sl ([.ref h0, .int i]) ++ List.replicate (4 - (lg_sl ([.ref h0, .int i])).length) Slot.unset).toArray = ls at hl ⊢
  have hl : lv_has ls 4 [(0, .ref h0), (1, .int i)] := hl
  unfold A_PP_make at hr0
  unfold K_PP_make at hk
  refine lv_aload_n hx hb d_PP_make_0 rfl (lv_at hl 0 rfl) ?_
  refine va_get (D := G.1) (ci := 5) (v := .ref (ad 0)) (C := RPP) (T := TPP) (N := 5) hx hb hts inPP hown hK hB.1 0 rfl rfl 0 (by decide) (hts _ fl_PP_10) (fun _ h9 => h9) rfl d_PP_make_1 ?_
  refine lv_iload_n hx hb d_PP_make_4 rfl (lv_at hl 1 rfl) ?_
  refine rdV (G := G) (As := [.int i]) (rest := []) (C := RST) ⟨hx, hb, hml, hown, hts⟩ (c_ST_has l G (ad 0) adS (gPP_statements σ) i _ _ (bk_gP (k := 1) hB.1 rfl) h2 _ rfl) (cwV 1 hts (gd_V ml_PP_51 im_ST_has sl_ST_has ini_ST k_ST_has) rfl rmK_c rmK_s (by decide +kernel) ⟨Nat.le_of_ble_eq_true rfl, Nat.le_of_ble_eq_true rfl⟩) hK (pST_recv hK (bk_gP (k := 1) hB.1 rfl) h2) hS ⟨Nat.le.intro hk, Nat.le.intro hk⟩ rfl hl.1 (Nat.le_of_ble_eq_true rfl) d_PP_make_5 (fun locs hS => ?_)
  refine lv_if_ne (tgt := 13) hx hb d_PP_make_8 (by decide) (fun c9 => ?_) (fun c9 => ?_)
  · have hr0 := ai_neg c9 hr0
    have hk := ki_neg c9 hk
    refine lv_aload_n hx hb d_PP_make_13 rfl (lv_at hl 0 rfl) ?_
    refine va_get (D := G.1) (ci := 5) (v := .ref (ad 3)) (C := RPP) (T := TPP) (N := 5) hx hb hts inPP hown hK hB.1 0 rfl rfl 3 (by decide) (hts _ fl_PP_35) (fun _ h9 => h9) rfl d_PP_make_14 ?_
    refine rdV (G := G) (As := []) (rest := []) (C := RIL) ⟨hx, hb, hml, hown, hts⟩ (c_IL_length l G (ad 3) (gPP_pile σ) _ _ (bk_gP (k := 4) hB.1 rfl) h8 _ rfl) (cwV 0 hts (gd_V ml_PP_67 im_IL_length sl_IL_length ini_IL k_IL_length) rfl rmK_c rmK_s (by decide +kernel) ⟨Nat.le_of_ble_eq_true rfl, Nat.le_of_ble_eq_true rfl⟩) hK (pIL_recv hK (bk_gP (k := 4) hB.1 rfl) h8) hS ⟨Nat.le.intro hk, Nat.le.intro hk⟩ rfl hl.1 (Nat.le_of_ble_eq_true rfl) d_PP_make_17 (fun locs hS => ?_)
    refine lv_aload_n hx hb d_PP_make_20 rfl (lv_at hl 0 rfl) ?_
    refine va_get (D := G.1) (ci := 5) (v := .ref (ad 0)) (C := RPP) (T := TPP) (N := 5) hx hb hts inPP hown hK hB.1 0 rfl rfl 0 (by decide) (hts _ fl_PP_10) (fun _ h9 => h9) rfl d_PP_make_21 ?_
    refine lv_iload_n hx hb d_PP_make_24 rfl (lv_at hl 1 rfl) ?_
    refine rdV (G := G) (As := [.int i]) (rest := [.int (A_IL_length (gPP_pile σ))]) (C := RST) ⟨hx, hb, hml, hown, hts⟩ (c_ST_taking l G (ad 0) adS (gPP_statements σ) i _ _ (bk_gP (k := 1) hB.1 rfl) h2 _ rfl) (cwV 1 hts (gd_V ml_PP_55 im_ST_taking sl_ST_taking ini_ST k_ST_taking) rfl rmK_c rmK_s (by decide +kernel) ⟨Nat.le_of_ble_eq_true rfl, Nat.le_of_ble_eq_true rfl⟩) hK (pST_recv hK (bk_gP (k := 1) hB.1 rfl) h2) hS ⟨Nat.le.intro hk, Nat.le.intro hk⟩ rfl hl.1 (Nat.le_of_ble_eq_true rfl) d_PP_make_25 (fun locs hS => ?_)
    refine lv_isub hx hb d_PP_make_28 ?_
    refine lv_istore_n (lv' := [(2, .int ((A_IL_length (gPP_pile σ)) - (A_ST_taking (gPP_statements σ) i))), (0, .ref h0), (1, .int i)]) hx hb d_PP_make_29 rfl hl (by decide) rfl (fun ls hl => ?_)
    refine lv_iload_n hx hb d_PP_make_30 rfl (lv_at hl 0 rfl) ?_
    refine lv_if_lt (tgt := 55) hx hb d_PP_make_31 (by decide) (fun c10 => ?_) (fun c10 => ?_)
    · have hr0 := ai_pos c10 hr0
      have hk := ki_pos c10 hk
      refine lv_iconst (v := (-1)) hx hb d_PP_make_55 (by decide) ?_
      subst hr0
      refine W.widen (k := Kt) (n := Kt) (Nat.le.intro hk) (Nat.le.intro hk) ?_
      exact W.iret (v := (-1)) hx hb hr (fun t ht hW => ⟨⟨(-1), [[(h0, .inr (5, [.ref (ad 0), .ref (ad 1), .ref (ad 2), .ref (ad 3), .int (gPP_puts σ)]))], w1, w3, w5, w7].flatten, rfl, ⟨rfl, ⟨w1, w3, w5, w7, rfl, h2, h4, h6, h8⟩⟩, by rw [ht]; exact hB.1, hB.2⟩, hS.F ht⟩) hS.2.2 d_PP_make_56
    · have hr0 := ai_neg c10 hr0
      have hk := ki_neg c10 hk
      refine lv_aload_n hx hb d_PP_make_34 rfl (lv_at hl 1 rfl) ?_
      refine va_get (D := G.1) (ci := 5) (v := .ref (ad 1)) (C := RPP) (T := TPP) (N := 5) hx hb hts inPP hown hK hB.1 0 rfl rfl 1 (by decide) (hts _ fl_PP_19) (fun _ h9 => h9) rfl d_PP_make_35 ?_
      refine rdV (G := G) (As := []) (rest := []) (C := RRW) ⟨hx, hb, hml, hown, hts⟩ (c_RW_amount l G (ad 1) adR (gPP_rows σ) _ _ (bk_gP (k := 2) hB.1 rfl) h4 _ rfl) (cwV 0 hts (gd_V ml_PP_70 im_RW_amount sl_RW_amount ini_RW k_RW_amount) rfl rmK_c rmK_s (by decide +kernel) ⟨Nat.le_of_ble_eq_true rfl, Nat.le_of_ble_eq_true rfl⟩) hK (pRW_recv hK (bk_gP (k := 2) hB.1 rfl) h4) hS ⟨Nat.le.intro hk, Nat.le.intro hk⟩ rfl hl.1 (Nat.le_of_ble_eq_true rfl) d_PP_make_38 (fun locs hS => ?_)
      refine lv_sipush (v := 4000) hx hb d_PP_make_41 (by decide) ?_
      refine lv_icmp_ge (tgt := 55) hx hb d_PP_make_44 (by decide) (fun c11 => ?_) (fun c11 => ?_)
      · have hr0 := ai_pos c11 hr0
        have hk := ki_pos c11 hk
        refine lv_iconst (v := (-1)) hx hb d_PP_make_55 (by decide) ?_
        subst hr0
        refine W.widen (k := Kt) (n := Kt) (Nat.le.intro hk) (Nat.le.intro hk) ?_
        exact W.iret (v := (-1)) hx hb hr (fun t ht hW => ⟨⟨(-1), [[(h0, .inr (5, [.ref (ad 0), .ref (ad 1), .ref (ad 2), .ref (ad 3), .int (gPP_puts σ)]))], w1, w3, w5, w7].flatten, rfl, ⟨rfl, ⟨w1, w3, w5, w7, rfl, h2, h4, h6, h8⟩⟩, by rw [ht]; exact hB.1, hB.2⟩, hS.F ht⟩) hS.2.2 d_PP_make_56
      · have hr0 := ai_neg c11 hr0
        have hk := ki_neg c11 hk
        refine lv_aload_n hx hb d_PP_make_47 rfl (lv_at hl 1 rfl) ?_
        refine lv_iload_n hx hb d_PP_make_48 rfl (lv_at hl 0 rfl) ?_
        have hpk12 : pPP G h0 ad adS adR adT adL σ ([[(h0, .inr (5, [.ref (ad 0), .ref (ad 1), .ref (ad 2), .ref (ad 3), .int (gPP_puts σ)]))], w1, w3, w5, w7].flatten) := ⟨w1, w3, w5, w7, rfl, h2, h4, h6, h8⟩
        refine rdV (G := G) (As := [.int ((A_IL_length (gPP_pile σ)) - (A_ST_taking (gPP_statements σ) i))]) (rest := []) (C := RPP) ⟨hx, hb, hml, hown, hts⟩ (c_PP_mayPutOn l G h0 ad adS adR adT adL σ ((A_IL_length (gPP_pile σ)) - (A_ST_taking (gPP_statements σ) i)) _ _ hB.1 hpk12 _ rfl) (cwV 1 hts (gd_V ml_PP_71 im_PP_mayPutOn sl_PP_mayPutOn ini_PP k_PP_mayPutOn) rfl rmK_c rmK_s (by decide +kernel) ⟨Nat.le_of_ble_eq_true rfl, Nat.le_of_ble_eq_true rfl⟩) hK (pPP_recv hK hB.1 hpk12) hS ⟨Nat.le.intro hk, Nat.le.intro hk⟩ rfl hl.1 (Nat.le_of_ble_eq_true rfl) d_PP_make_49 (fun locs hS => ?_)
        refine lv_if_ne (tgt := 57) hx hb d_PP_make_52 (by decide) (fun c13 => ?_) (fun c13 => ?_)
        · have hr0 := ai_neg c13 hr0
          have hk := ki_neg c13 hk
          refine lv_aload_n hx hb d_PP_make_57 rfl (lv_at hl 1 rfl) ?_
          refine va_get (D := G.1) (ci := 5) (v := .ref (ad 1)) (C := RPP) (T := TPP) (N := 5) hx hb hts inPP hown hK hB.1 0 rfl rfl 1 (by decide) (hts _ fl_PP_19) (fun _ h9 => h9) rfl d_PP_make_58 ?_
          refine lv_iload_n hx hb d_PP_make_61 rfl (lv_at hl 2 rfl) ?_
          refine lv_aload_n hx hb d_PP_make_62 rfl (lv_at hl 1 rfl) ?_
          refine va_get (D := G.1) (ci := 5) (v := .ref (ad 3)) (C := RPP) (T := TPP) (N := 5) hx hb hts inPP hown hK hB.1 0 rfl rfl 3 (by decide) (hts _ fl_PP_35) (fun _ h9 => h9) rfl d_PP_make_63 ?_
          refine lv_iload_n hx hb d_PP_make_66 rfl (lv_at hl 0 rfl) ?_
          obtain ⟨T14, hT15⟩ : ∃ z, A_RW_add (gPP_rows σ) (gPP_pile σ) i ((A_IL_length (gPP_pile σ)) - (A_ST_taking (gPP_statements σ) i)) = z := ⟨_, rfl⟩
          refine wrVi (G := G) (k := 2) (As := [.int i, .ref (ad 3), .int ((A_IL_length (gPP_pile σ)) - (A_ST_taking (gPP_statements σ) i))]) (rest := []) (C := RRW) ⟨hx, hb, hml, hown, hts⟩ (c_RW_add l G (ad 1) adR (gPP_rows σ) i (ad 3) ((A_IL_length (gPP_pile σ)) - (A_ST_taking (gPP_statements σ) i)) _ _ (gPP_pile σ) _ (bk_gP (k := 4) hB.1 rfl) h8 (bk_dj' (i := 2) (j := 4) hB (by decide) rfl rfl) (bk_gP (k := 2) hB.1 rfl) (bk_own (k := 2) hB rfl) h4 T14 hT15 _ rfl (bk_ub hk hKb)) (cwV 3 hts (gd_V ml_PP_74 im_RW_add sl_RW_add ini_RW k_RW_add) rfl rmK_c rmK_s (by decide +kernel) ⟨Nat.le_of_ble_eq_true rfl, Nat.le_of_ble_eq_true rfl⟩) hK (pRW_recv hK (bk_gP (k := 2) hB.1 rfl) h4) hS hA hB rfl hk ⟨rfl, rfl⟩ rfl hl.1 (Nat.le_of_ble_eq_true rfl) d_PP_make_67 (fun u16 H locs kc hu17 hB hS hk => ?_)
          have hr0 := bnd_e hT15 hr0
          have hk := bnd_k hT15 hk
          have hB : bk G.1 vwCl A [[(h0, .inr (5, [.ref (ad 0), .ref (ad 1), .ref (ad 2), .ref (ad 3), .int (gPP_puts σ)]))], w1, u16, w5, w7] H := hB
          refine lv_istore_n (lv' := [(3, .int T14.1), (2, .int ((A_IL_length (gPP_pile σ)) - (A_ST_taking (gPP_statements σ) i))), (0, .ref h0), (1, .int i)]) hx hb d_PP_make_70 rfl hl (by decide) rfl (fun ls hl => ?_)
          refine lv_aload_n hx hb d_PP_make_71 rfl (lv_at hl 2 rfl) ?_
          refine va_get (D := G.1) (ci := 5) (v := .ref (ad 3)) (C := RPP) (T := TPP) (N := 5) hx hb hts inPP hown hK hB.1 0 rfl rfl 3 (by decide) (hts _ fl_PP_35) (fun _ h9 => h9) rfl d_PP_make_72 ?_
          refine lv_iload_n hx hb d_PP_make_75 rfl (lv_at hl 1 rfl) ?_
          refine wrV0 (G := G) (k := 4) (As := [.int ((A_IL_length (gPP_pile σ)) - (A_ST_taking (gPP_statements σ) i))]) (rest := []) (C := RIL) ⟨hx, hb, hml, hown, hts⟩ (c_IL_cut l G (ad 3) (gPP_pile σ) ((A_IL_length (gPP_pile σ)) - (A_ST_taking (gPP_statements σ) i)) _ _ (bk_gP (k := 4) hB.1 rfl) (bk_own (k := 4) hB rfl) h8 _ rfl) (cwV 1 hts (gd_V ml_PP_77 im_IL_cut sl_IL_cut ini_IL k_IL_cut) rfl rmK_c rmK_s (by decide +kernel) ⟨Nat.le_of_ble_eq_true rfl, Nat.le_of_ble_eq_true rfl⟩) hK (pIL_recv hK (bk_gP (k := 4) hB.1 rfl) h8) hS hA hB rfl hk ⟨rfl, rfl⟩ rfl hl.1 (Nat.le_of_ble_eq_true rfl) d_PP_make_76 (fun u18 H locs hu19 hB hS => ?_)
          have hB : bk G.1 vwCl A [[(h0, .inr (5, [.ref (ad 0), .ref (ad 1), .ref (ad 2), .ref (ad 3), .int (gPP_puts σ)]))], w1, u16, w5, u18] H := hB
          refine lv_aload_n hx hb d_PP_make_79 rfl (lv_at hl 2 rfl) ?_
          refine lv_iload_n hx hb d_PP_make_80 rfl (lv_at hl 0 rfl) ?_
          have hB := bk_one hB
          have hpk20 : pPP G h0 ad adS adR adT adL (uPP_pile (uPP_rows σ T14.2) (A_IL_cut (gPP_pile σ) ((A_IL_length (gPP_pile σ)) - (A_ST_taking (gPP_statements σ) i)))) ([[(h0, .inr (5, [.ref (ad 0), .ref (ad 1), .ref (ad 2), .ref (ad 3), .int (gPP_puts σ)]))], w1, u16, w5, u18].flatten) := ⟨w1, u16, w5, u18, rfl, h2, hu17, h6, hu19⟩
          obtain ⟨T21, hT22⟩ : ∃ z, A_PP_putOn (uPP_pile (uPP_rows σ T14.2) (A_IL_cut (gPP_pile σ) ((A_IL_length (gPP_pile σ)) - (A_ST_taking (gPP_statements σ) i)))) T14.1 = z := ⟨_, rfl⟩
          refine wrV (G := G) (k := 0) (As := [.int T14.1]) (rest := []) (C := RPP) ⟨hx, hb, hml, hown, hts⟩ (c_PP_putOn l G h0 ad adS adR adT adL (uPP_pile (uPP_rows σ T14.2) (A_IL_cut (gPP_pile σ) ((A_IL_length (gPP_pile σ)) - (A_ST_taking (gPP_statements σ) i)))) T14.1 _ _ (bk_gP (k := 0) hB.1 rfl) (bk_own (k := 0) hB rfl) hpk20 T21 hT22 _ rfl (bk_ub hk hKb)) (cwV 1 hts (gd_V ml_PP_81 im_PP_putOn sl_PP_putOn ini_PP k_PP_putOn) rfl rmK_c rmK_s (by decide +kernel) ⟨Nat.le_of_ble_eq_true rfl, Nat.le_of_ble_eq_true rfl⟩) hK (pPP_recv hK (bk_gP (k := 0) hB.1 rfl) hpk20) hS hA hB rfl hk ⟨rfl, rfl⟩ rfl hl.1 (Nat.le_of_ble_eq_true rfl) d_PP_make_81 (fun u23 H locs kc hu24 hB hS hk => ?_)
          have hr0 := bnd_e hT22 hr0
          have hk := bnd_k hT22 hk
          have hB : bk G.1 vwCl A [u23] H := hB
          obtain ⟨w25, w27, w29, w31, rfl, h26, h28, h30, h32⟩ := hu24
          have hB : bk G.1 vwCl A [[(h0, .inr (5, [.ref (ad 0), .ref (ad 1), .ref (ad 2), .ref (ad 3), .int (gPP_puts T21)]))], w25, w27, w29, w31] H := bk_many hB
          refine lv_iload_n hx hb d_PP_make_84 rfl (lv_at hl 0 rfl) ?_
          subst hr0
          refine W.widen (k := Kt) (n := Kt) (Nat.le.intro hk) (Nat.le.intro hk) ?_
          exact W.iret (v := T14.1) hx hb hr (fun t ht hW => ⟨⟨T14.1, [[(h0, .inr (5, [.ref (ad 0), .ref (ad 1), .ref (ad 2), .ref (ad 3), .int (gPP_puts T21)]))], w25, w27, w29, w31].flatten, rfl, ⟨rfl, ⟨w25, w27, w29, w31, rfl, h26, h28, h30, h32⟩⟩, by rw [ht]; exact hB.1, hB.2⟩, hS.F ht⟩) hS.2.2 d_PP_make_85
        · have hr0 := ai_pos c13 hr0
          have hk := ki_pos c13 hk
          refine lv_iconst (v := (-1)) hx hb d_PP_make_55 (by decide) ?_
          subst hr0
          refine W.widen (k := Kt) (n := Kt) (Nat.le.intro hk) (Nat.le.intro hk) ?_
          exact W.iret (v := (-1)) hx hb hr (fun t ht hW => ⟨⟨(-1), [[(h0, .inr (5, [.ref (ad 0), .ref (ad 1), .ref (ad 2), .ref (ad 3), .int (gPP_puts σ)]))], w1, w3, w5, w7].flatten, rfl, ⟨rfl, ⟨w1, w3, w5, w7, rfl, h2, h4, h6, h8⟩⟩, by rw [ht]; exact hB.1, hB.2⟩, hS.F ht⟩) hS.2.2 d_PP_make_56
  · have hr0 := ai_pos c9 hr0
    have hk := ki_pos c9 hk
    refine lv_iconst (v := (-1)) hx hb d_PP_make_11 (by decide) ?_
    subst hr0
    refine W.widen (k := Kt) (n := Kt) (Nat.le.intro hk) (Nat.le.intro hk) ?_
    exact W.iret (v := (-1)) hx hb hr (fun t ht hW => ⟨⟨(-1), [[(h0, .inr (5, [.ref (ad 0), .ref (ad 1), .ref (ad 2), .ref (ad 3), .int (gPP_puts σ)]))], w1, w3, w5, w7].flatten, rfl, ⟨rfl, ⟨w1, w3, w5, w7, rfl, h2, h4, h6, h8⟩⟩, by rw [ht]; exact hB.1, hB.2⟩, hS.F ht⟩) hS.2.2 d_PP_make_12

def A_PP_again (σ : tPP) (r : Int32) : Int32 × tPP := if (A_RW_has (gPP_rows σ) r) = 0 then ((-1), σ) else (if (A_PP_mayPutOn σ (A_IL_length (gPP_pile σ))) = 0 then ((-1), σ) else (bnd (A_PP_putOn σ r) (fun T13 => (A_IL_length (gPP_pile T13), T13))))
def K_PP_again (σ : tPP) (r : Int32) : Nat := if (A_RW_has (gPP_rows σ) r) = 0 then 0 else (if (A_PP_mayPutOn σ (A_IL_length (gPP_pile σ))) = 0 then 0 else ((K_PP_putOn σ r) + (bnd (A_PP_putOn σ r) (fun T13 => 0))))
set_option maxHeartbeats 4000000 in
set_option maxRecDepth 100000 in
theorem c_PP_again (l : Launch) (G : pG) (h0 : Nat) (ad : Nat → Nat) (adS : Nat → Nat) (adR : Nat → Nat) (adT : Nat → Nat) (adL : Nat → Nat) (σ : tPP) (r : Int32) (H : Heap) (w : va_W) (hP0 : va_P G.1 vwCl w H) (hD0 : va_D (fun _ => True) w) (hσ : pPP G h0 ad adS adR adT adL σ w) (res : Int32 × tPP) (hr0 : A_PP_again σ r = res) (Kt : Nat) (hk : K_PP_again σ r = Kt) (hKb : Kt ≤ 16777216) : MWi l y_PP_again w_PP_again 4 124 Kt G [.ref h0, .int r] H w res.1 (pPP G h0 ad adS adR adT adL res.2) := by
  refine Met.ofW (cc := b_PP_again) (maxL := 2) (ret := (some .int)) (by decide) rfl ?_
  intro p e s m args below meth c s₁ B hml hv
  obtain ⟨rfl, rfl, hK⟩ := hv
  have hx := B.exec
  have hb := B.bytes
  have hr := B.returns
  have hts0 := atoms_spec (ws := w_PP_again) B.pre
  have hts := fun w (h : w ∈ lw_g) => hts0 w (List.mem_cons_of_mem _ h)
  have hown : s.vm.findClass RPP = some m.cls := findClass_of_methodNamed B.named
  have hlocks := B.notSynchronized
  have hA : ∀ q : Nat, s.heap.size ≤ q → va_A w s.heap.size q := fun _ h => Or.inr h
  have hB : bk G.1 vwCl (va_A w s.heap.size) [w] s.heap := bk_init hP0 hD0
  generalize va_A w s.heap.size = A at *
  have hS : va_S A s.heap s.heap [] := va_S.rf
  obtain ⟨w1, w3, w5, w7, rfl, h2, h4, h6, h8⟩ := hσ
  have hB := bk_many hB
  have hk : 0 + K_PP_again σ r = Kt := (Nat.zero_add _).trans hk
  have hl := lv_entry ([.ref h0, .int r]) (n := 2) (Nat.le_of_ble_eq_true rfl)
  rw [lg_entry_eq]
  generalize (lg_sl ([.ref h0, .int r]) ++ List.replicate (2 - (lg_sl ([.ref h0, .int r])).length) Slot.unset).toArray = ls at hl ⊢
  have hl : lv_has ls 2 [(0, .ref h0), (1, .int r)] := hl
  unfold A_PP_again at hr0
  unfold K_PP_again at hk
  refine lv_aload_n hx hb d_PP_again_0 rfl (lv_at hl 0 rfl) ?_
  refine va_get (D := G.1) (ci := 5) (v := .ref (ad 1)) (C := RPP) (T := TPP) (N := 5) hx hb hts inPP hown hK hB.1 0 rfl rfl 1 (by decide) (hts _ fl_PP_19) (fun _ h9 => h9) rfl d_PP_again_1 ?_
  refine lv_iload_n hx hb d_PP_again_4 rfl (lv_at hl 1 rfl) ?_
  refine rdV (G := G) (As := [.int r]) (rest := []) (C := RRW) ⟨hx, hb, hml, hown, hts⟩ (c_RW_has l G (ad 1) adR (gPP_rows σ) r _ _ (bk_gP (k := 2) hB.1 rfl) h4 _ rfl) (cwV 1 hts (gd_V ml_PP_84 im_RW_has sl_RW_has ini_RW k_RW_has) rfl rmK_c rmK_s (by decide +kernel) ⟨Nat.le_of_ble_eq_true rfl, Nat.le_of_ble_eq_true rfl⟩) hK (pRW_recv hK (bk_gP (k := 2) hB.1 rfl) h4) hS ⟨Nat.le.intro hk, Nat.le.intro hk⟩ rfl hl.1 (Nat.le_of_ble_eq_true rfl) d_PP_again_5 (fun locs hS => ?_)
  refine lv_if_eq (tgt := 25) hx hb d_PP_again_8 (by decide) (fun c9 => ?_) (fun c9 => ?_)
  · have hr0 := ai_pos c9 hr0
    have hk := ki_pos c9 hk
    refine lv_iconst (v := (-1)) hx hb d_PP_again_25 (by decide) ?_
    subst hr0
    refine W.widen (k := Kt) (n := Kt) (Nat.le.intro hk) (Nat.le.intro hk) ?_
    exact W.iret (v := (-1)) hx hb hr (fun t ht hW => ⟨⟨(-1), [[(h0, .inr (5, [.ref (ad 0), .ref (ad 1), .ref (ad 2), .ref (ad 3), .int (gPP_puts σ)]))], w1, w3, w5, w7].flatten, rfl, ⟨rfl, ⟨w1, w3, w5, w7, rfl, h2, h4, h6, h8⟩⟩, by rw [ht]; exact hB.1, hB.2⟩, hS.F ht⟩) hS.2.2 d_PP_again_26
  · have hr0 := ai_neg c9 hr0
    have hk := ki_neg c9 hk
    refine lv_aload_n hx hb d_PP_again_11 rfl (lv_at hl 0 rfl) ?_
    refine lv_aload_n hx hb d_PP_again_12 rfl (lv_at hl 0 rfl) ?_
    refine va_get (D := G.1) (ci := 5) (v := .ref (ad 3)) (C := RPP) (T := TPP) (N := 5) hx hb hts inPP hown hK hB.1 0 rfl rfl 3 (by decide) (hts _ fl_PP_35) (fun _ h9 => h9) rfl d_PP_again_13 ?_
    refine rdV (G := G) (As := []) (rest := [.ref h0]) (C := RIL) ⟨hx, hb, hml, hown, hts⟩ (c_IL_length l G (ad 3) (gPP_pile σ) _ _ (bk_gP (k := 4) hB.1 rfl) h8 _ rfl) (cwV 0 hts (gd_V ml_PP_67 im_IL_length sl_IL_length ini_IL k_IL_length) rfl rmK_c rmK_s (by decide +kernel) ⟨Nat.le_of_ble_eq_true rfl, Nat.le_of_ble_eq_true rfl⟩) hK (pIL_recv hK (bk_gP (k := 4) hB.1 rfl) h8) hS ⟨Nat.le.intro hk, Nat.le.intro hk⟩ rfl hl.1 (Nat.le_of_ble_eq_true rfl) d_PP_again_16 (fun locs hS => ?_)
    have hpk10 : pPP G h0 ad adS adR adT adL σ ([[(h0, .inr (5, [.ref (ad 0), .ref (ad 1), .ref (ad 2), .ref (ad 3), .int (gPP_puts σ)]))], w1, w3, w5, w7].flatten) := ⟨w1, w3, w5, w7, rfl, h2, h4, h6, h8⟩
    refine rdV (G := G) (As := [.int (A_IL_length (gPP_pile σ))]) (rest := []) (C := RPP) ⟨hx, hb, hml, hown, hts⟩ (c_PP_mayPutOn l G h0 ad adS adR adT adL σ (A_IL_length (gPP_pile σ)) _ _ hB.1 hpk10 _ rfl) (cwV 1 hts (gd_V ml_PP_71 im_PP_mayPutOn sl_PP_mayPutOn ini_PP k_PP_mayPutOn) rfl rmK_c rmK_s (by decide +kernel) ⟨Nat.le_of_ble_eq_true rfl, Nat.le_of_ble_eq_true rfl⟩) hK (pPP_recv hK hB.1 hpk10) hS ⟨Nat.le.intro hk, Nat.le.intro hk⟩ rfl hl.1 (Nat.le_of_ble_eq_true rfl) d_PP_again_19 (fun locs hS => ?_)
    refine lv_if_ne (tgt := 27) hx hb d_PP_again_22 (by decide) (fun c11 => ?_) (fun c11 => ?_)
    · have hr0 := ai_neg c11 hr0
      have hk := ki_neg c11 hk
      refine lv_aload_n hx hb d_PP_again_27 rfl (lv_at hl 0 rfl) ?_
      refine lv_iload_n hx hb d_PP_again_28 rfl (lv_at hl 1 rfl) ?_
      have hB := bk_one hB
      have hpk12 : pPP G h0 ad adS adR adT adL σ ([[(h0, .inr (5, [.ref (ad 0), .ref (ad 1), .ref (ad 2), .ref (ad 3), .int (gPP_puts σ)]))], w1, w3, w5, w7].flatten) := ⟨w1, w3, w5, w7, rfl, h2, h4, h6, h8⟩
      obtain ⟨T13, hT14⟩ : ∃ z, A_PP_putOn σ r = z := ⟨_, rfl⟩
      refine wrV (G := G) (k := 0) (As := [.int r]) (rest := []) (C := RPP) ⟨hx, hb, hml, hown, hts⟩ (c_PP_putOn l G h0 ad adS adR adT adL σ r _ _ (bk_gP (k := 0) hB.1 rfl) (bk_own (k := 0) hB rfl) hpk12 T13 hT14 _ rfl (bk_ub hk hKb)) (cwV 1 hts (gd_V ml_PP_81 im_PP_putOn sl_PP_putOn ini_PP k_PP_putOn) rfl rmK_c rmK_s (by decide +kernel) ⟨Nat.le_of_ble_eq_true rfl, Nat.le_of_ble_eq_true rfl⟩) hK (pPP_recv hK (bk_gP (k := 0) hB.1 rfl) hpk12) hS hA hB rfl hk ⟨rfl, rfl⟩ rfl hl.1 (Nat.le_of_ble_eq_true rfl) d_PP_again_29 (fun u15 H locs kc hu16 hB hS hk => ?_)
      have hr0 := bnd_e hT14 hr0
      have hk := bnd_k hT14 hk
      have hB : bk G.1 vwCl A [u15] H := hB
      obtain ⟨w17, w19, w21, w23, rfl, h18, h20, h22, h24⟩ := hu16
      have hB : bk G.1 vwCl A [[(h0, .inr (5, [.ref (ad 0), .ref (ad 1), .ref (ad 2), .ref (ad 3), .int (gPP_puts T13)]))], w17, w19, w21, w23] H := bk_many hB
      refine lv_aload_n hx hb d_PP_again_32 rfl (lv_at hl 0 rfl) ?_
      refine va_get (D := G.1) (ci := 5) (v := .ref (ad 3)) (C := RPP) (T := TPP) (N := 5) hx hb hts inPP hown hK hB.1 0 rfl rfl 3 (by decide) (hts _ fl_PP_35) (fun _ h9 => h9) rfl d_PP_again_33 ?_
      refine rdV (G := G) (As := []) (rest := []) (C := RIL) ⟨hx, hb, hml, hown, hts⟩ (c_IL_length l G (ad 3) (gPP_pile T13) _ _ (bk_gP (k := 4) hB.1 rfl) h24 _ rfl) (cwV 0 hts (gd_V ml_PP_67 im_IL_length sl_IL_length ini_IL k_IL_length) rfl rmK_c rmK_s (by decide +kernel) ⟨Nat.le_of_ble_eq_true rfl, Nat.le_of_ble_eq_true rfl⟩) hK (pIL_recv hK (bk_gP (k := 4) hB.1 rfl) h24) hS ⟨Nat.le.intro hk, Nat.le.intro hk⟩ rfl hl.1 (Nat.le_of_ble_eq_true rfl) d_PP_again_36 (fun locs hS => ?_)
      subst hr0
      refine W.widen (k := Kt) (n := Kt) (Nat.le.intro hk) (Nat.le.intro hk) ?_
      exact W.iret (v := (A_IL_length (gPP_pile T13))) hx hb hr (fun t ht hW => ⟨⟨(A_IL_length (gPP_pile T13)), [[(h0, .inr (5, [.ref (ad 0), .ref (ad 1), .ref (ad 2), .ref (ad 3), .int (gPP_puts T13)]))], w17, w19, w21, w23].flatten, rfl, ⟨rfl, ⟨w17, w19, w21, w23, rfl, h18, h20, h22, h24⟩⟩, by rw [ht]; exact hB.1, hB.2⟩, hS.F ht⟩) hS.2.2 d_PP_again_39
    · have hr0 := ai_pos c11 hr0
      have hk := ki_pos c11 hk
      refine lv_iconst (v := (-1)) hx hb d_PP_again_25 (by decide) ?_
      subst hr0
      refine W.widen (k := Kt) (n := Kt) (Nat.le.intro hk) (Nat.le.intro hk) ?_
      exact W.iret (v := (-1)) hx hb hr (fun t ht hW => ⟨⟨(-1), [[(h0, .inr (5, [.ref (ad 0), .ref (ad 1), .ref (ad 2), .ref (ad 3), .int (gPP_puts σ)]))], w1, w3, w5, w7].flatten, rfl, ⟨rfl, ⟨w1, w3, w5, w7, rfl, h2, h4, h6, h8⟩⟩, by rw [ht]; exact hB.1, hB.2⟩, hS.F ht⟩) hS.2.2 d_PP_again_26

def A_PP_clear (σ : tPP) : Int32 × tPP := bnd (A_RW_forget (gPP_rows σ)) (fun T9 => bnd (A_TL_forget (gPP_telling σ)) (fun T13 => (A_RW_amount (gPP_rows σ), uPP_puts (uPP_pile (uPP_telling (uPP_rows σ T9) T13) (A_IL_cut (gPP_pile σ) 0)) 0)))
set_option maxHeartbeats 4000000 in
set_option maxRecDepth 100000 in
theorem c_PP_clear (l : Launch) (G : pG) (h0 : Nat) (ad : Nat → Nat) (adS : Nat → Nat) (adR : Nat → Nat) (adT : Nat → Nat) (adL : Nat → Nat) (σ : tPP) (H : Heap) (w : va_W) (hP0 : va_P G.1 vwCl w H) (hD0 : va_D (fun _ => True) w) (hσ : pPP G h0 ad adS adR adT adL σ w) (res : Int32 × tPP) (hr0 : A_PP_clear σ = res) : MWi l y_PP_clear w_PP_clear 3 61 0 G [.ref h0] H w res.1 (pPP G h0 ad adS adR adT adL res.2) := by
  refine Met.ofW (cc := b_PP_clear) (maxL := 2) (ret := (some .int)) (by decide) rfl ?_
  intro p e s m args below meth c s₁ B hml hv
  obtain ⟨rfl, rfl, hK⟩ := hv
  have hx := B.exec
  have hb := B.bytes
  have hr := B.returns
  have hts0 := atoms_spec (ws := w_PP_clear) B.pre
  have hts := fun w (h : w ∈ lw_g) => hts0 w (List.mem_cons_of_mem _ h)
  have hown : s.vm.findClass RPP = some m.cls := findClass_of_methodNamed B.named
  have hlocks := B.notSynchronized
  have hA : ∀ q : Nat, s.heap.size ≤ q → va_A w s.heap.size q := fun _ h => Or.inr h
  have hB : bk G.1 vwCl (va_A w s.heap.size) [w] s.heap := bk_init hP0 hD0
  generalize va_A w s.heap.size = A at *
  have hS : va_S A s.heap s.heap [] := va_S.rf
  obtain ⟨w1, w3, w5, w7, rfl, h2, h4, h6, h8⟩ := hσ
  have hB := bk_many hB
  have hk : 0 + 0 = 0 := rfl
  have hl := lv_entry ([.ref h0]) (n := 2) (Nat.le_of_ble_eq_true rfl)
  rw [lg_entry_eq]
  generalize (lg_sl ([.ref h0]) ++ List.replicate (2 - (lg_sl ([.ref h0])).length) Slot.unset).toArray = ls at hl ⊢
  have hl : lv_has ls 2 [(0, .ref h0)] := hl
  unfold A_PP_clear at hr0
  refine lv_aload_n hx hb d_PP_clear_0 rfl (lv_at hl 0 rfl) ?_
  refine va_get (D := G.1) (ci := 5) (v := .ref (ad 1)) (C := RPP) (T := TPP) (N := 5) hx hb hts inPP hown hK hB.1 0 rfl rfl 1 (by decide) (hts _ fl_PP_19) (fun _ h9 => h9) rfl d_PP_clear_1 ?_
  refine rdV (G := G) (As := []) (rest := []) (C := RRW) ⟨hx, hb, hml, hown, hts⟩ (c_RW_amount l G (ad 1) adR (gPP_rows σ) _ _ (bk_gP (k := 2) hB.1 rfl) h4 _ rfl) (cwV 0 hts (gd_V ml_PP_70 im_RW_amount sl_RW_amount ini_RW k_RW_amount) rfl rmK_c rmK_s (by decide +kernel) ⟨Nat.le_of_ble_eq_true rfl, Nat.le_of_ble_eq_true rfl⟩) hK (pRW_recv hK (bk_gP (k := 2) hB.1 rfl) h4) hS ⟨Nat.le.intro hk, Nat.le.intro hk⟩ rfl hl.1 (Nat.le_of_ble_eq_true rfl) d_PP_clear_4 (fun locs hS => ?_)
  refine lv_istore_n (lv' := [(1, .int (A_RW_amount (gPP_rows σ))), (0, .ref h0)]) hx hb d_PP_clear_7 rfl hl (by decide) rfl (fun ls hl => ?_)
  refine lv_aload_n hx hb d_PP_clear_8 rfl (lv_at hl 1 rfl) ?_
  refine va_get (D := G.1) (ci := 5) (v := .ref (ad 1)) (C := RPP) (T := TPP) (N := 5) hx hb hts inPP hown hK hB.1 0 rfl rfl 1 (by decide) (hts _ fl_PP_19) (fun _ h9 => h9) rfl d_PP_clear_9 ?_
  obtain ⟨T9, hT10⟩ : ∃ z, A_RW_forget (gPP_rows σ) = z := ⟨_, rfl⟩
  refine wrV0 (G := G) (k := 2) (As := []) (rest := []) (C := RRW) ⟨hx, hb, hml, hown, hts⟩ (c_RW_forget l G (ad 1) adR (gPP_rows σ) _ _ (bk_gP (k := 2) hB.1 rfl) (bk_own (k := 2) hB rfl) h4 T9 hT10) (cwV 0 hts (gd_V ml_PP_85 im_RW_forget sl_RW_forget ini_RW k_RW_forget) rfl rmK_c rmK_s (by decide +kernel) ⟨Nat.le_of_ble_eq_true rfl, Nat.le_of_ble_eq_true rfl⟩) hK (pRW_recv hK (bk_gP (k := 2) hB.1 rfl) h4) hS hA hB rfl hk ⟨rfl, rfl⟩ rfl hl.1 (Nat.le_of_ble_eq_true rfl) d_PP_clear_12 (fun u11 H locs hu12 hB hS => ?_)
  have hr0 := bnd_e hT10 hr0
  have hB : bk G.1 vwCl A [[(h0, .inr (5, [.ref (ad 0), .ref (ad 1), .ref (ad 2), .ref (ad 3), .int (gPP_puts σ)]))], w1, u11, w5, w7] H := hB
  refine lv_aload_n hx hb d_PP_clear_15 rfl (lv_at hl 1 rfl) ?_
  refine va_get (D := G.1) (ci := 5) (v := .ref (ad 2)) (C := RPP) (T := TPP) (N := 5) hx hb hts inPP hown hK hB.1 0 rfl rfl 2 (by decide) (hts _ fl_PP_28) (fun _ h9 => h9) rfl d_PP_clear_16 ?_
  obtain ⟨T13, hT14⟩ : ∃ z, A_TL_forget (gPP_telling σ) = z := ⟨_, rfl⟩
  refine wrV0 (G := G) (k := 3) (As := []) (rest := []) (C := RTL) ⟨hx, hb, hml, hown, hts⟩ (c_TL_forget l G (ad 2) (ad 0) (ad 1) adT adL (gPP_telling σ) _ _ (bk_gP (k := 3) hB.1 rfl) (bk_own (k := 3) hB rfl) h6 T13 hT14) (cwV 0 hts (gd_V ml_PP_88 im_TL_forget sl_TL_forget ini_TL k_TL_forget) rfl rmK_c rmK_s (by decide +kernel) ⟨Nat.le_of_ble_eq_true rfl, Nat.le_of_ble_eq_true rfl⟩) hK (pTL_recv hK (bk_gP (k := 3) hB.1 rfl) h6) hS hA hB rfl hk ⟨rfl, rfl⟩ rfl hl.1 (Nat.le_of_ble_eq_true rfl) d_PP_clear_19 (fun u15 H locs hu16 hB hS => ?_)
  have hr0 := bnd_e hT14 hr0
  have hB : bk G.1 vwCl A [[(h0, .inr (5, [.ref (ad 0), .ref (ad 1), .ref (ad 2), .ref (ad 3), .int (gPP_puts σ)]))], w1, u11, u15, w7] H := hB
  refine lv_aload_n hx hb d_PP_clear_22 rfl (lv_at hl 1 rfl) ?_
  refine va_get (D := G.1) (ci := 5) (v := .ref (ad 3)) (C := RPP) (T := TPP) (N := 5) hx hb hts inPP hown hK hB.1 0 rfl rfl 3 (by decide) (hts _ fl_PP_35) (fun _ h9 => h9) rfl d_PP_clear_23 ?_
  refine lv_iconst (v := 0) hx hb d_PP_clear_26 (by decide) ?_
  refine wrV0 (G := G) (k := 4) (As := [.int 0]) (rest := []) (C := RIL) ⟨hx, hb, hml, hown, hts⟩ (c_IL_cut l G (ad 3) (gPP_pile σ) 0 _ _ (bk_gP (k := 4) hB.1 rfl) (bk_own (k := 4) hB rfl) h8 _ rfl) (cwV 1 hts (gd_V ml_PP_77 im_IL_cut sl_IL_cut ini_IL k_IL_cut) rfl rmK_c rmK_s (by decide +kernel) ⟨Nat.le_of_ble_eq_true rfl, Nat.le_of_ble_eq_true rfl⟩) hK (pIL_recv hK (bk_gP (k := 4) hB.1 rfl) h8) hS hA hB rfl hk ⟨rfl, rfl⟩ rfl hl.1 (Nat.le_of_ble_eq_true rfl) d_PP_clear_27 (fun u17 H locs hu18 hB hS => ?_)
  have hB : bk G.1 vwCl A [[(h0, .inr (5, [.ref (ad 0), .ref (ad 1), .ref (ad 2), .ref (ad 3), .int (gPP_puts σ)]))], w1, u11, u15, u17] H := hB
  refine lv_aload_n hx hb d_PP_clear_30 rfl (lv_at hl 1 rfl) ?_
  refine lv_iconst (v := 0) hx hb d_PP_clear_31 (by decide) ?_
  refine va_put (D := G.1) (ci := 5) (v := .int 0) (ty := .int) (C := RPP) (T := TPP) (N := 5) hx hb hts inPP tyPP tokPP nmPP hown hK hB.1 hB.2 hS 0 rfl rfl 4 (by decide) (hts _ fl_PP_39) (fun _ h9 => h9) rfl (by decide +kernel) rfl rfl (Nat.le_of_ble_eq_true rfl) d_PP_clear_32 (fun H locs hP hD hS => ?_)
  have hB : bk G.1 vwCl A [[(h0, .inr (5, [.ref (ad 0), .ref (ad 1), .ref (ad 2), .ref (ad 3), .int 0]))], w1, u11, u15, u17] H := ⟨hP, hD⟩
  refine lv_iload_n hx hb d_PP_clear_35 rfl (lv_at hl 0 rfl) ?_
  subst hr0
  refine W.widen (k := 0) (n := 0) (Nat.le_refl _) (Nat.le_refl _) ?_
  exact W.iret (v := (A_RW_amount (gPP_rows σ))) hx hb hr (fun t ht hW => ⟨⟨(A_RW_amount (gPP_rows σ)), [[(h0, .inr (5, [.ref (ad 0), .ref (ad 1), .ref (ad 2), .ref (ad 3), .int 0]))], w1, u11, u15, u17].flatten, rfl, ⟨rfl, ⟨w1, u11, u15, u17, rfl, h2, hu12, hu16, hu18⟩⟩, by rw [ht]; exact hB.1, hB.2⟩, hS.F ht⟩) hS.2.2 d_PP_clear_36

def A_PP_pack (σ : tPP) : Int32 × tPP := if (A_IL_length (gPP_pile σ)) = 1 then (bnd (A_TL_tell (gPP_telling σ) (gPP_statements σ) (gPP_rows σ) (A_IL_at (gPP_pile σ) 0)) (fun T10 => (A_TL_amountOfSteps T10, uPP_telling σ T10))) else ((-1), σ)
def K_PP_pack (σ : tPP) : Nat := if (A_IL_length (gPP_pile σ)) = 1 then ((K_TL_tell (gPP_telling σ) (gPP_statements σ) (gPP_rows σ) (A_IL_at (gPP_pile σ) 0)) + (bnd (A_TL_tell (gPP_telling σ) (gPP_statements σ) (gPP_rows σ) (A_IL_at (gPP_pile σ) 0)) (fun T10 => 0))) else 0
set_option maxHeartbeats 4000000 in
set_option maxRecDepth 100000 in
theorem c_PP_pack (l : Launch) (G : pG) (h0 : Nat) (ad : Nat → Nat) (adS : Nat → Nat) (adR : Nat → Nat) (adT : Nat → Nat) (adL : Nat → Nat) (σ : tPP) (H : Heap) (w : va_W) (hP0 : va_P G.1 vwCl w H) (hD0 : va_D (fun _ => True) w) (hσ : pPP G h0 ad adS adR adT adL σ w) (res : Int32 × tPP) (hr0 : A_PP_pack σ = res) (Kt : Nat) (hk : K_PP_pack σ = Kt) (hKb : Kt ≤ 16777216) : MWi l y_PP_pack w_PP_pack 7 191 Kt G [.ref h0] H w res.1 (pPP G h0 ad adS adR adT adL res.2) := by
  refine Met.ofW (cc := b_PP_pack) (maxL := 1) (ret := (some .int)) (by decide) rfl ?_
  intro p e s m args below meth c s₁ B hml hv
  obtain ⟨rfl, rfl, hK⟩ := hv
  have hx := B.exec
  have hb := B.bytes
  have hr := B.returns
  have hts0 := atoms_spec (ws := w_PP_pack) B.pre
  have hts := fun w (h : w ∈ lw_g) => hts0 w (List.mem_cons_of_mem _ h)
  have hown : s.vm.findClass RPP = some m.cls := findClass_of_methodNamed B.named
  have hlocks := B.notSynchronized
  have hA : ∀ q : Nat, s.heap.size ≤ q → va_A w s.heap.size q := fun _ h => Or.inr h
  have hB : bk G.1 vwCl (va_A w s.heap.size) [w] s.heap := bk_init hP0 hD0
  generalize va_A w s.heap.size = A at *
  have hS : va_S A s.heap s.heap [] := va_S.rf
  obtain ⟨w1, w3, w5, w7, rfl, h2, h4, h6, h8⟩ := hσ
  have hB := bk_many hB
  have hk : 0 + K_PP_pack σ = Kt := (Nat.zero_add _).trans hk
  have hl := lv_entry ([.ref h0]) (n := 1) (Nat.le_of_ble_eq_true rfl)
  rw [lg_entry_eq]
  generalize (lg_sl ([.ref h0]) ++ List.replicate (1 - (lg_sl ([.ref h0])).length) Slot.unset).toArray = ls at hl ⊢
  have hl : lv_has ls 1 [(0, .ref h0)] := hl
  unfold A_PP_pack at hr0
  unfold K_PP_pack at hk
  refine lv_aload_n hx hb d_PP_pack_0 rfl (lv_at hl 0 rfl) ?_
  refine va_get (D := G.1) (ci := 5) (v := .ref (ad 3)) (C := RPP) (T := TPP) (N := 5) hx hb hts inPP hown hK hB.1 0 rfl rfl 3 (by decide) (hts _ fl_PP_35) (fun _ h9 => h9) rfl d_PP_pack_1 ?_
  refine rdV (G := G) (As := []) (rest := []) (C := RIL) ⟨hx, hb, hml, hown, hts⟩ (c_IL_length l G (ad 3) (gPP_pile σ) _ _ (bk_gP (k := 4) hB.1 rfl) h8 _ rfl) (cwV 0 hts (gd_V ml_PP_67 im_IL_length sl_IL_length ini_IL k_IL_length) rfl rmK_c rmK_s (by decide +kernel) ⟨Nat.le_of_ble_eq_true rfl, Nat.le_of_ble_eq_true rfl⟩) hK (pIL_recv hK (bk_gP (k := 4) hB.1 rfl) h8) hS ⟨Nat.le.intro hk, Nat.le.intro hk⟩ rfl hl.1 (Nat.le_of_ble_eq_true rfl) d_PP_pack_4 (fun locs hS => ?_)
  refine lv_iconst (v := 1) hx hb d_PP_pack_7 (by decide) ?_
  refine lv_icmp_eq (tgt := 13) hx hb d_PP_pack_8 (by decide) (fun c9 => ?_) (fun c9 => ?_)
  · have hr0 := ai_pos c9 hr0
    have hk := ki_pos c9 hk
    refine lv_aload_n hx hb d_PP_pack_13 rfl (lv_at hl 0 rfl) ?_
    refine va_get (D := G.1) (ci := 5) (v := .ref (ad 2)) (C := RPP) (T := TPP) (N := 5) hx hb hts inPP hown hK hB.1 0 rfl rfl 2 (by decide) (hts _ fl_PP_28) (fun _ h9 => h9) rfl d_PP_pack_14 ?_
    refine lv_aload_n hx hb d_PP_pack_17 rfl (lv_at hl 0 rfl) ?_
    refine va_get (D := G.1) (ci := 5) (v := .ref (ad 3)) (C := RPP) (T := TPP) (N := 5) hx hb hts inPP hown hK hB.1 0 rfl rfl 3 (by decide) (hts _ fl_PP_35) (fun _ h9 => h9) rfl d_PP_pack_18 ?_
    refine lv_iconst (v := 0) hx hb d_PP_pack_21 (by decide) ?_
    refine rdV (G := G) (As := [.int 0]) (rest := [.ref (ad 2)]) (C := RIL) ⟨hx, hb, hml, hown, hts⟩ (c_IL_at l G (ad 3) (gPP_pile σ) 0 _ _ (bk_gP (k := 4) hB.1 rfl) h8 _ rfl) (cwV 1 hts (gd_V ml_PP_102 im_IL_at sl_IL_at ini_IL k_IL_at) rfl rmK_c rmK_s (by decide +kernel) ⟨Nat.le_of_ble_eq_true rfl, Nat.le_of_ble_eq_true rfl⟩) hK (pIL_recv hK (bk_gP (k := 4) hB.1 rfl) h8) hS ⟨Nat.le.intro hk, Nat.le.intro hk⟩ rfl hl.1 (Nat.le_of_ble_eq_true rfl) d_PP_pack_22 (fun locs hS => ?_)
    obtain ⟨T10, hT11⟩ : ∃ z, A_TL_tell (gPP_telling σ) (gPP_statements σ) (gPP_rows σ) (A_IL_at (gPP_pile σ) 0) = z := ⟨_, rfl⟩
    refine wrV (G := G) (k := 3) (As := [.int (A_IL_at (gPP_pile σ) 0)]) (rest := []) (C := RTL) ⟨hx, hb, hml, hown, hts⟩ (c_TL_tell l G (ad 2) (ad 0) (ad 1) adT adL (gPP_telling σ) (A_IL_at (gPP_pile σ) 0) _ _ adS (gPP_statements σ) _ (bk_gP (k := 1) hB.1 rfl) h2 (bk_dj' (i := 3) (j := 1) hB (by decide) rfl rfl) adR (gPP_rows σ) _ (bk_gP (k := 2) hB.1 rfl) h4 (bk_dj' (i := 3) (j := 2) hB (by decide) rfl rfl) (bk_gP (k := 3) hB.1 rfl) (bk_own (k := 3) hB rfl) h6 T10 hT11 _ rfl (bk_ub hk hKb)) (cwV 1 hts (gd_V ml_PP_105 im_TL_tell sl_TL_tell ini_TL k_TL_tell) rfl rmK_c rmK_s (by decide +kernel) ⟨Nat.le_of_ble_eq_true rfl, Nat.le_of_ble_eq_true rfl⟩) hK (pTL_recv hK (bk_gP (k := 3) hB.1 rfl) h6) hS hA hB rfl hk ⟨rfl, rfl⟩ rfl hl.1 (Nat.le_of_ble_eq_true rfl) d_PP_pack_25 (fun u12 H locs kc hu13 hB hS hk => ?_)
    have hr0 := bnd_e hT11 hr0
    have hk := bnd_k hT11 hk
    have hB : bk G.1 vwCl A [[(h0, .inr (5, [.ref (ad 0), .ref (ad 1), .ref (ad 2), .ref (ad 3), .int (gPP_puts σ)]))], w1, w3, u12, w7] H := hB
    refine lv_aload_n hx hb d_PP_pack_28 rfl (lv_at hl 0 rfl) ?_
    refine va_get (D := G.1) (ci := 5) (v := .ref (ad 2)) (C := RPP) (T := TPP) (N := 5) hx hb hts inPP hown hK hB.1 0 rfl rfl 2 (by decide) (hts _ fl_PP_28) (fun _ h9 => h9) rfl d_PP_pack_29 ?_
    refine rdV (G := G) (As := []) (rest := []) (C := RTL) ⟨hx, hb, hml, hown, hts⟩ (c_TL_amountOfSteps l G (ad 2) (ad 0) (ad 1) adT adL T10 _ _ (bk_gP (k := 3) hB.1 rfl) hu13 _ rfl) (cwV 0 hts (gd_V ml_PP_108 im_TL_amountOfSteps sl_TL_amountOfSteps ini_TL k_TL_amountOfSteps) rfl rmK_c rmK_s (by decide +kernel) ⟨Nat.le_of_ble_eq_true rfl, Nat.le_of_ble_eq_true rfl⟩) hK (pTL_recv hK (bk_gP (k := 3) hB.1 rfl) hu13) hS ⟨Nat.le.intro hk, Nat.le.intro hk⟩ rfl hl.1 (Nat.le_of_ble_eq_true rfl) d_PP_pack_32 (fun locs hS => ?_)
    subst hr0
    refine W.widen (k := Kt) (n := Kt) (Nat.le.intro hk) (Nat.le.intro hk) ?_
    exact W.iret (v := (A_TL_amountOfSteps T10)) hx hb hr (fun t ht hW => ⟨⟨(A_TL_amountOfSteps T10), [[(h0, .inr (5, [.ref (ad 0), .ref (ad 1), .ref (ad 2), .ref (ad 3), .int (gPP_puts σ)]))], w1, w3, u12, w7].flatten, rfl, ⟨rfl, ⟨w1, w3, u12, w7, rfl, h2, h4, hu13, h8⟩⟩, by rw [ht]; exact hB.1, hB.2⟩, hS.F ht⟩) hS.2.2 d_PP_pack_35
  · have hr0 := ai_neg c9 hr0
    have hk := ki_neg c9 hk
    refine lv_iconst (v := (-1)) hx hb d_PP_pack_11 (by decide) ?_
    subst hr0
    refine W.widen (k := Kt) (n := Kt) (Nat.le.intro hk) (Nat.le.intro hk) ?_
    exact W.iret (v := (-1)) hx hb hr (fun t ht hW => ⟨⟨(-1), [[(h0, .inr (5, [.ref (ad 0), .ref (ad 1), .ref (ad 2), .ref (ad 3), .int (gPP_puts σ)]))], w1, w3, w5, w7].flatten, rfl, ⟨rfl, ⟨w1, w3, w5, w7, rfl, h2, h4, h6, h8⟩⟩, by rw [ht]; exact hB.1, hB.2⟩, hS.F ht⟩) hS.2.2 d_PP_pack_12

def A_PP_check (σ : tPP) : Int32 × tPP := bnd (A_TL_makesItsRow (gPP_telling σ) (gPP_statements σ) (gPP_rows σ)) (fun T9 => if T9.1 = 0 then (0, uPP_telling σ T9.2) else (1, uPP_telling σ T9.2))
def K_PP_check (σ : tPP) : Nat := (K_TL_makesItsRow (gPP_telling σ) (gPP_statements σ) (gPP_rows σ)) + (bnd (A_TL_makesItsRow (gPP_telling σ) (gPP_statements σ) (gPP_rows σ)) (fun T9 => if T9.1 = 0 then 0 else 0))
set_option maxHeartbeats 4000000 in
set_option maxRecDepth 100000 in
theorem c_PP_check (l : Launch) (G : pG) (h0 : Nat) (ad : Nat → Nat) (adS : Nat → Nat) (adR : Nat → Nat) (adT : Nat → Nat) (adL : Nat → Nat) (σ : tPP) (H : Heap) (w : va_W) (hP0 : va_P G.1 vwCl w H) (hD0 : va_D (fun _ => True) w) (hσ : pPP G h0 ad adS adR adT adL σ w) (res : Int32 × tPP) (hr0 : A_PP_check σ = res) (Kt : Nat) (hk : K_PP_check σ = Kt) (hKb : Kt ≤ 16777216) : MWi l y_PP_check w_PP_check 6 139 Kt G [.ref h0] H w res.1 (pPP G h0 ad adS adR adT adL res.2) := by
  refine Met.ofW (cc := b_PP_check) (maxL := 1) (ret := (some .int)) (by decide) rfl ?_
  intro p e s m args below meth c s₁ B hml hv
  obtain ⟨rfl, rfl, hK⟩ := hv
  have hx := B.exec
  have hb := B.bytes
  have hr := B.returns
  have hts0 := atoms_spec (ws := w_PP_check) B.pre
  have hts := fun w (h : w ∈ lw_g) => hts0 w (List.mem_cons_of_mem _ h)
  have hown : s.vm.findClass RPP = some m.cls := findClass_of_methodNamed B.named
  have hlocks := B.notSynchronized
  have hA : ∀ q : Nat, s.heap.size ≤ q → va_A w s.heap.size q := fun _ h => Or.inr h
  have hB : bk G.1 vwCl (va_A w s.heap.size) [w] s.heap := bk_init hP0 hD0
  generalize va_A w s.heap.size = A at *
  have hS : va_S A s.heap s.heap [] := va_S.rf
  obtain ⟨w1, w3, w5, w7, rfl, h2, h4, h6, h8⟩ := hσ
  have hB := bk_many hB
  have hk : 0 + K_PP_check σ = Kt := (Nat.zero_add _).trans hk
  have hl := lv_entry ([.ref h0]) (n := 1) (Nat.le_of_ble_eq_true rfl)
  rw [lg_entry_eq]
  generalize (lg_sl ([.ref h0]) ++ List.replicate (1 - (lg_sl ([.ref h0])).length) Slot.unset).toArray = ls at hl ⊢
  have hl : lv_has ls 1 [(0, .ref h0)] := hl
  unfold A_PP_check at hr0
  unfold K_PP_check at hk
  refine lv_aload_n hx hb d_PP_check_0 rfl (lv_at hl 0 rfl) ?_
  refine va_get (D := G.1) (ci := 5) (v := .ref (ad 2)) (C := RPP) (T := TPP) (N := 5) hx hb hts inPP hown hK hB.1 0 rfl rfl 2 (by decide) (hts _ fl_PP_28) (fun _ h9 => h9) rfl d_PP_check_1 ?_
  obtain ⟨T9, hT10⟩ : ∃ z, A_TL_makesItsRow (gPP_telling σ) (gPP_statements σ) (gPP_rows σ) = z := ⟨_, rfl⟩
  refine wrVi (G := G) (k := 3) (As := []) (rest := []) (C := RTL) ⟨hx, hb, hml, hown, hts⟩ (c_TL_makesItsRow l G (ad 2) (ad 0) (ad 1) adT adL (gPP_telling σ) _ _ adS (gPP_statements σ) _ (bk_gP (k := 1) hB.1 rfl) h2 (bk_dj' (i := 3) (j := 1) hB (by decide) rfl rfl) adR (gPP_rows σ) _ (bk_gP (k := 2) hB.1 rfl) h4 (bk_dj' (i := 3) (j := 2) hB (by decide) rfl rfl) (bk_gP (k := 3) hB.1 rfl) (bk_own (k := 3) hB rfl) h6 T9 hT10 _ rfl (bk_ub hk hKb)) (cwV 0 hts (gd_V ml_PP_147 im_TL_makesItsRow sl_TL_makesItsRow ini_TL k_TL_makesItsRow) rfl rmK_c rmK_s (by decide +kernel) ⟨Nat.le_of_ble_eq_true rfl, Nat.le_of_ble_eq_true rfl⟩) hK (pTL_recv hK (bk_gP (k := 3) hB.1 rfl) h6) hS hA hB rfl hk ⟨rfl, rfl⟩ rfl hl.1 (Nat.le_of_ble_eq_true rfl) d_PP_check_4 (fun u11 H locs kc hu12 hB hS hk => ?_)
  have hr0 := bnd_e hT10 hr0
  have hk := bnd_k hT10 hk
  have hB : bk G.1 vwCl A [[(h0, .inr (5, [.ref (ad 0), .ref (ad 1), .ref (ad 2), .ref (ad 3), .int (gPP_puts σ)]))], w1, w3, u11, w7] H := hB
  refine lv_if_eq (tgt := 14) hx hb d_PP_check_7 (by decide) (fun c13 => ?_) (fun c13 => ?_)
  · have hr0 := ai_pos c13 hr0
    have hk := ki_pos c13 hk
    refine lv_iconst (v := 0) hx hb d_PP_check_14 (by decide) ?_
    subst hr0
    refine W.widen (k := Kt) (n := Kt) (Nat.le.intro hk) (Nat.le.intro hk) ?_
    exact W.iret (v := 0) hx hb hr (fun t ht hW => ⟨⟨0, [[(h0, .inr (5, [.ref (ad 0), .ref (ad 1), .ref (ad 2), .ref (ad 3), .int (gPP_puts σ)]))], w1, w3, u11, w7].flatten, rfl, ⟨rfl, ⟨w1, w3, u11, w7, rfl, h2, h4, hu12, h8⟩⟩, by rw [ht]; exact hB.1, hB.2⟩, hS.F ht⟩) hS.2.2 d_PP_check_15
  · have hr0 := ai_neg c13 hr0
    have hk := ki_neg c13 hk
    refine lv_iconst (v := 1) hx hb d_PP_check_10 (by decide) ?_
    refine lv_goto (tgt := 15) hx hb d_PP_check_11 (by decide) ?_
    subst hr0
    refine W.widen (k := Kt) (n := Kt) (Nat.le.intro hk) (Nat.le.intro hk) ?_
    exact W.iret (v := 1) hx hb hr (fun t ht hW => ⟨⟨1, [[(h0, .inr (5, [.ref (ad 0), .ref (ad 1), .ref (ad 2), .ref (ad 3), .int (gPP_puts σ)]))], w1, w3, u11, w7].flatten, rfl, ⟨rfl, ⟨w1, w3, u11, w7, rfl, h2, h4, hu12, h8⟩⟩, by rw [ht]; exact hB.1, hB.2⟩, hS.F ht⟩) hS.2.2 d_PP_check_15
end
section
theorem bk_push {D : va_G} {cl : List vw_C} {A : Nat → Prop} {bs : List va_W} {x : Nat × va_E} {H : Heap} (h : va_P D cl (bs.flatten ++ [x]) H ∧ va_D A (bs.flatten ++ [x])) : bk D cl A (bs ++ [[x]]) H := by
  unfold bk
  rw [List.flatten_append]
  simpa using h
theorem bk_perm {D : va_G} {cl : List vw_C} {A : Nat → Prop} {bs bs' : List va_W} {H : Heap} (h : bk D cl A bs H) (hp : bs.Perm bs') : bk D cl A bs' H := by
  obtain ⟨hP, hD⟩ := h
  have hf : bs.flatten.Perm bs'.flatten := hp.flatten
  rw [bk_mem] at hP
  rw [bk_nd] at hD
  exact ⟨bk_mem.mpr fun q hq => hP q (hf.mem_iff.mpr hq), bk_nd.mpr ⟨(hf.map Prod.fst).nodup_iff.mp hD.1, fun q hq => hD.2 q (hf.mem_iff.mpr hq)⟩⟩
theorem bk_rot {D : va_G} {cl : List vw_C} {A : Nat → Prop} {b0 a b : va_W} {xs : List va_W} {H : Heap} (h : bk D cl A (b0 :: (xs ++ [a, b])) H) : bk D cl A (b0 :: a :: b :: xs) H :=
  bk_perm h (List.Perm.cons b0 (List.perm_append_comm (l₁ := xs) (l₂ := [a, b])))

def iLL : tLL := ([], 16)
set_option maxHeartbeats 4000000 in
set_option maxRecDepth 100000 in
theorem c_LL_init (l : Launch) (G : pG) (h0 : Nat) (H : Heap) (w : va_W) (hP0 : va_P G.1 vwCl w H) (hD0 : va_D (fun _ => True) w) (hσ : w = [(h0, .inr (1, [.null]))]) : MWv l y_LL_init w_LL_init 2 32 18 G [.ref h0] H w (fun u => ∃ (ad : Nat → Nat), pLL G h0 ad iLL u) := by
  refine Met.ofW (cc := b_LL_init) (maxL := 1) (ret := none) (by decide) rfl ?_
  intro p e s m args below meth c s₁ B hml hv
  obtain ⟨rfl, rfl, hK⟩ := hv
  have hx := B.exec
  have hb := B.bytes
  have hr := B.returns
  have hts0 := atoms_spec (ws := w_LL_init) B.pre
  have hts := fun w (h : w ∈ lw_g) => hts0 w (List.mem_cons_of_mem _ h)
  have hown : s.vm.findClass RLL = some m.cls := findClass_of_methodNamed B.named
  have hlocks := B.notSynchronized
  have hA : ∀ q : Nat, s.heap.size ≤ q → va_A w s.heap.size q := fun _ h => Or.inr h
  have hB : bk G.1 vwCl (va_A w s.heap.size) [w] s.heap := bk_init hP0 hD0
  generalize va_A w s.heap.size = A at *
  have hS : va_S A s.heap s.heap [] := va_S.rf
  subst hσ
  have hB : bk G.1 vwCl A [[(h0, .inr (1, [.null]))]] s.heap := hB
  have hin : meth.name = "<init>" := (name_of_methodNamed B.named B.method).1
  have hl := lv_entry ([.ref h0]) (n := 1) (Nat.le_of_ble_eq_true rfl)
  rw [lg_entry_eq]
  generalize (lg_sl ([.ref h0]) ++ List.replicate (1 - (lg_sl ([.ref h0])).length) Slot.unset).toArray = ls at hl ⊢
  have hl : lv_has ls 1 [(0, .ref h0)] := hl
  refine lv_aload_n hx hb d_LL_init_0 rfl (lv_at hl 0 rfl) ?_
  refine W.objInit hx hb hown (hts _ ml_LL_1) (hts _ im_obj_init) (hts _ k_obj_init) rfl (by rw [hml]; exact hl.1) rfl d_LL_init_1 (Nat.le_of_ble_eq_true rfl) (Nat.le_of_ble_eq_true rfl) ?_
  refine W.eq (g2 := F0 m 4 ls []) rfl ?_
  refine lv_aload_n hx hb d_LL_init_4 rfl (lv_at hl 0 rfl) ?_
  refine va_new (ci := 0) (fs := [.null, .int 0]) (C := RIL) (T := TIL) (N := 2) hx hb hts inIL tyIL tokIL hown (hts _ cl_LL_7) (hts _ ist_IL) (hts _ ini_IL) hK hB.1 hB.2 hS hA rfl (fun j hj => by rcases (show j = 0 ∨ j = 1 by omega) with rfl | rfl <;> rfl) (Nat.le_of_ble_eq_true rfl) (Nat.le_of_ble_eq_true rfl) d_LL_init_5 (fun q1 H hP hD hS => ?_)
  have hB : bk G.1 vwCl A [[(h0, .inr (1, [.null]))], [(q1, .inr (0, [.null, .int 0]))]] H := bk_push ⟨hP, hD⟩
  refine W.widen (k := 2) (n := 2) (by decide) (by decide) ?_
  refine lv_dup hx hb d_LL_init_8 rfl ?_
  refine wrI (G := G) (k := 1) (As := []) (rest := [.ref q1, .ref h0]) (kc := 2) (K := 16) (rem := 0) (Kt := 18) ⟨hx, hb, hml, hown, hts⟩ (c_IL_init l G q1 _ _ (bk_gP (k := 1) hB.1 rfl) (bk_own (k := 1) hB rfl) rfl) (cwI 0 hts (gd_c k_IL_init) rfl rmK_c rmK_s (hts _ ini_IL) (hts _ ml_LL_9) (hts _ im_IL_init) rfl (by decide +kernel) ⟨Nat.le_of_ble_eq_true rfl, Nat.le_of_ble_eq_true rfl⟩) hK hS hA hB rfl rfl ⟨rfl, rfl⟩ rfl hl.1 (Nat.le_of_ble_eq_true rfl) d_LL_init_9 (fun u2 H locs kc hu3 hB hS hk => ?_)
  obtain rfl : kc = 18 := by omega
  have hB : bk G.1 vwCl A [[(h0, .inr (1, [.null]))], u2] H := hB
  refine va_putF (D := G.1) (ci := 1) (v := .ref q1) (ty := .object "ProofPacker$IntList") (C := RLL) (T := TLL) (N := 1) hx hb hts inLL tyLL tokLL nmLL hown hK hB.1 hB.2 hS 0 rfl rfl 0 (by decide) (hts _ fl_LL_10) (fun _ h9 => h9) rfl hin rfl (by decide +kernel) rfl rfl (Nat.le_of_ble_eq_true rfl) d_LL_init_12 (fun H locs hP hD hS => ?_)
  have hB : bk G.1 vwCl A [[(h0, .inr (1, [.ref q1]))], u2] H := ⟨hP, hD⟩
  exact W.vret hx hb hr (fun t ht hW => ⟨⟨[[(h0, .inr (1, [.ref q1]))], u2].flatten, rfl, ⟨(fun i => [q1].getD i 0), u2, rfl, hu3⟩, by rw [ht]; exact hB.1, hB.2⟩, hS.F ht⟩) hS.2.2 d_LL_init_15

def iST : tST := (([], 16), ([], 16), 0)
set_option maxHeartbeats 4000000 in
set_option maxRecDepth 100000 in
theorem c_ST_init (l : Launch) (G : pG) (h0 : Nat) (H : Heap) (w : va_W) (hP0 : va_P G.1 vwCl w H) (hD0 : va_D (fun _ => True) w) (hσ : w = [(h0, .inr (3, [.null, .null, .int 0]))]) : MWv l y_ST_init w_ST_init 2 32 36 G [.ref h0] H w (fun u => ∃ (ad : Nat → Nat), pST G h0 ad iST u) := by
  refine Met.ofW (cc := b_ST_init) (maxL := 1) (ret := none) (by decide) rfl ?_
  intro p e s m args below meth c s₁ B hml hv
  obtain ⟨rfl, rfl, hK⟩ := hv
  have hx := B.exec
  have hb := B.bytes
  have hr := B.returns
  have hts0 := atoms_spec (ws := w_ST_init) B.pre
  have hts := fun w (h : w ∈ lw_g) => hts0 w (List.mem_cons_of_mem _ h)
  have hown : s.vm.findClass RST = some m.cls := findClass_of_methodNamed B.named
  have hlocks := B.notSynchronized
  have hA : ∀ q : Nat, s.heap.size ≤ q → va_A w s.heap.size q := fun _ h => Or.inr h
  have hB : bk G.1 vwCl (va_A w s.heap.size) [w] s.heap := bk_init hP0 hD0
  generalize va_A w s.heap.size = A at *
  have hS : va_S A s.heap s.heap [] := va_S.rf
  subst hσ
  have hB : bk G.1 vwCl A [[(h0, .inr (3, [.null, .null, .int 0]))]] s.heap := hB
  have hin : meth.name = "<init>" := (name_of_methodNamed B.named B.method).1
  have hl := lv_entry ([.ref h0]) (n := 1) (Nat.le_of_ble_eq_true rfl)
  rw [lg_entry_eq]
  generalize (lg_sl ([.ref h0]) ++ List.replicate (1 - (lg_sl ([.ref h0])).length) Slot.unset).toArray = ls at hl ⊢
  have hl : lv_has ls 1 [(0, .ref h0)] := hl
  refine lv_aload_n hx hb d_ST_init_0 rfl (lv_at hl 0 rfl) ?_
  refine W.objInit hx hb hown (hts _ ml_ST_3) (hts _ im_obj_init) (hts _ k_obj_init) rfl (by rw [hml]; exact hl.1) rfl d_ST_init_1 (Nat.le_of_ble_eq_true rfl) (Nat.le_of_ble_eq_true rfl) ?_
  refine W.eq (g2 := F0 m 4 ls []) rfl ?_
  refine lv_aload_n hx hb d_ST_init_4 rfl (lv_at hl 0 rfl) ?_
  refine va_new (ci := 0) (fs := [.null, .int 0]) (C := RIL) (T := TIL) (N := 2) hx hb hts inIL tyIL tokIL hown (hts _ cl_ST_9) (hts _ ist_IL) (hts _ ini_IL) hK hB.1 hB.2 hS hA rfl (fun j hj => by rcases (show j = 0 ∨ j = 1 by omega) with rfl | rfl <;> rfl) (Nat.le_of_ble_eq_true rfl) (Nat.le_of_ble_eq_true rfl) d_ST_init_5 (fun q1 H hP hD hS => ?_)
  have hB : bk G.1 vwCl A [[(h0, .inr (3, [.null, .null, .int 0]))], [(q1, .inr (0, [.null, .int 0]))]] H := bk_push ⟨hP, hD⟩
  refine W.widen (k := 2) (n := 2) (by decide) (by decide) ?_
  refine lv_dup hx hb d_ST_init_8 rfl ?_
  refine wrI (G := G) (k := 1) (As := []) (rest := [.ref q1, .ref h0]) (kc := 2) (K := 16) (rem := 18) (Kt := 36) ⟨hx, hb, hml, hown, hts⟩ (c_IL_init l G q1 _ _ (bk_gP (k := 1) hB.1 rfl) (bk_own (k := 1) hB rfl) rfl) (cwI 0 hts (gd_c k_IL_init) rfl rmK_c rmK_s (hts _ ini_IL) (hts _ ml_ST_11) (hts _ im_IL_init) rfl (by decide +kernel) ⟨Nat.le_of_ble_eq_true rfl, Nat.le_of_ble_eq_true rfl⟩) hK hS hA hB rfl rfl ⟨rfl, rfl⟩ rfl hl.1 (Nat.le_of_ble_eq_true rfl) d_ST_init_9 (fun u2 H locs kc hu3 hB hS hk => ?_)
  obtain rfl : kc = 18 := by omega
  have hB : bk G.1 vwCl A [[(h0, .inr (3, [.null, .null, .int 0]))], u2] H := hB
  refine va_putF (D := G.1) (ci := 3) (v := .ref q1) (ty := .object "ProofPacker$IntList") (C := RST) (T := TST) (N := 3) hx hb hts inST tyST tokST nmST hown hK hB.1 hB.2 hS 0 rfl rfl 0 (by decide) (hts _ fl_ST_12) (fun _ h9 => h9) rfl hin rfl (by decide +kernel) rfl rfl (Nat.le_of_ble_eq_true rfl) d_ST_init_12 (fun H locs hP hD hS => ?_)
  have hB : bk G.1 vwCl A [[(h0, .inr (3, [.ref q1, .null, .int 0]))], u2] H := ⟨hP, hD⟩
  refine lv_aload_n hx hb d_ST_init_15 rfl (lv_at hl 0 rfl) ?_
  refine va_new (ci := 0) (fs := [.null, .int 0]) (C := RIL) (T := TIL) (N := 2) hx hb hts inIL tyIL tokIL hown (hts _ cl_ST_9) (hts _ ist_IL) (hts _ ini_IL) hK hB.1 hB.2 hS hA rfl (fun j hj => by rcases (show j = 0 ∨ j = 1 by omega) with rfl | rfl <;> rfl) (Nat.le_of_ble_eq_true rfl) (Nat.le_of_ble_eq_true rfl) d_ST_init_16 (fun q4 H hP hD hS => ?_)
  have hB : bk G.1 vwCl A [[(h0, .inr (3, [.ref q1, .null, .int 0]))], u2, [(q4, .inr (0, [.null, .int 0]))]] H := bk_push ⟨hP, hD⟩
  refine W.widen (k := 20) (n := 20) (by decide) (by decide) ?_
  refine lv_dup hx hb d_ST_init_19 rfl ?_
  refine wrI (G := G) (k := 2) (As := []) (rest := [.ref q4, .ref h0]) (kc := 20) (K := 16) (rem := 0) (Kt := 36) ⟨hx, hb, hml, hown, hts⟩ (c_IL_init l G q4 _ _ (bk_gP (k := 2) hB.1 rfl) (bk_own (k := 2) hB rfl) rfl) (cwI 0 hts (gd_c k_IL_init) rfl rmK_c rmK_s (hts _ ini_IL) (hts _ ml_ST_11) (hts _ im_IL_init) rfl (by decide +kernel) ⟨Nat.le_of_ble_eq_true rfl, Nat.le_of_ble_eq_true rfl⟩) hK hS hA hB rfl rfl ⟨rfl, rfl⟩ rfl hl.1 (Nat.le_of_ble_eq_true rfl) d_ST_init_20 (fun u5 H locs kc hu6 hB hS hk => ?_)
  obtain rfl : kc = 36 := by omega
  have hB : bk G.1 vwCl A [[(h0, .inr (3, [.ref q1, .null, .int 0]))], u2, u5] H := hB
  refine va_putF (D := G.1) (ci := 3) (v := .ref q4) (ty := .object "ProofPacker$IntList") (C := RST) (T := TST) (N := 3) hx hb hts inST tyST tokST nmST hown hK hB.1 hB.2 hS 0 rfl rfl 1 (by decide) (hts _ fl_ST_18) (fun _ h9 => h9) rfl hin rfl (by decide +kernel) rfl rfl (Nat.le_of_ble_eq_true rfl) d_ST_init_23 (fun H locs hP hD hS => ?_)
  have hB : bk G.1 vwCl A [[(h0, .inr (3, [.ref q1, .ref q4, .int 0]))], u2, u5] H := ⟨hP, hD⟩
  refine lv_aload_n hx hb d_ST_init_26 rfl (lv_at hl 0 rfl) ?_
  refine lv_iconst (v := 0) hx hb d_ST_init_27 (by decide) ?_
  refine va_put (D := G.1) (ci := 3) (v := .int 0) (ty := .int) (C := RST) (T := TST) (N := 3) hx hb hts inST tyST tokST nmST hown hK hB.1 hB.2 hS 0 rfl rfl 2 (by decide) (hts _ fl_ST_21) (fun _ h9 => h9) rfl (by decide +kernel) rfl rfl (Nat.le_of_ble_eq_true rfl) d_ST_init_28 (fun H locs hP hD hS => ?_)
  have hB : bk G.1 vwCl A [[(h0, .inr (3, [.ref q1, .ref q4, .int 0]))], u2, u5] H := ⟨hP, hD⟩
  exact W.vret hx hb hr (fun t ht hW => ⟨⟨[[(h0, .inr (3, [.ref q1, .ref q4, .int 0]))], u2, u5].flatten, rfl, ⟨(fun i => [q1, q4].getD i 0), u2, u5, rfl, hu3, hu6⟩, by rw [ht]; exact hB.1, hB.2⟩, hS.F ht⟩) hS.2.2 d_ST_init_31

def iRW : tRW := (([], 16), ([0], 16), ([], 16), ([], 16), ([], 16), ([], 16), ([], 16), (fun _ => (-1)), ((fun _ => 0), 16))
set_option maxHeartbeats 4000000 in
set_option maxRecDepth 100000 in
theorem c_RW_init (l : Launch) (G : pG) (h0 : Nat) (H : Heap) (w : va_W) (hP0 : va_P G.1 vwCl w H) (hD0 : va_D (fun _ => True) w) (hσ : w = [(h0, .inr (2, [.null, .null, .null, .null, .null, .null, .null, .null, .null]))]) : MWv l y_RW_init w_RW_init 3 103 654 G [.ref h0] H w (fun u => ∃ (ad : Nat → Nat), pRW G h0 ad iRW u) := by
  refine Met.ofW (cc := b_RW_init) (maxL := 1) (ret := none) (by decide) rfl ?_
  intro p e s m args below meth c s₁ B hml hv
  obtain ⟨rfl, rfl, hK⟩ := hv
  have hx := B.exec
  have hb := B.bytes
  have hr := B.returns
  have hts0 := atoms_spec (ws := w_RW_init) B.pre
  have hts := fun w (h : w ∈ lw_g) => hts0 w (List.mem_cons_of_mem _ h)
  have hown : s.vm.findClass RRW = some m.cls := findClass_of_methodNamed B.named
  have hlocks := B.notSynchronized
  have hA : ∀ q : Nat, s.heap.size ≤ q → va_A w s.heap.size q := fun _ h => Or.inr h
  have hB : bk G.1 vwCl (va_A w s.heap.size) [w] s.heap := bk_init hP0 hD0
  generalize va_A w s.heap.size = A at *
  have hS : va_S A s.heap s.heap [] := va_S.rf
  subst hσ
  have hB : bk G.1 vwCl A [[(h0, .inr (2, [.null, .null, .null, .null, .null, .null, .null, .null, .null]))]] s.heap := hB
  have hin : meth.name = "<init>" := (name_of_methodNamed B.named B.method).1
  have hl := lv_entry ([.ref h0]) (n := 1) (Nat.le_of_ble_eq_true rfl)
  rw [lg_entry_eq]
  generalize (lg_sl ([.ref h0]) ++ List.replicate (1 - (lg_sl ([.ref h0])).length) Slot.unset).toArray = ls at hl ⊢
  have hl : lv_has ls 1 [(0, .ref h0)] := hl
  refine lv_aload_n hx hb d_RW_init_0 rfl (lv_at hl 0 rfl) ?_
  refine W.objInit hx hb hown (hts _ ml_RW_3) (hts _ im_obj_init) (hts _ k_obj_init) rfl (by rw [hml]; exact hl.1) rfl d_RW_init_1 (Nat.le_of_ble_eq_true rfl) (Nat.le_of_ble_eq_true rfl) ?_
  refine W.eq (g2 := F0 m 4 ls []) rfl ?_
  refine lv_aload_n hx hb d_RW_init_4 rfl (lv_at hl 0 rfl) ?_
  refine va_new (ci := 0) (fs := [.null, .int 0]) (C := RIL) (T := TIL) (N := 2) hx hb hts inIL tyIL tokIL hown (hts _ cl_RW_9) (hts _ ist_IL) (hts _ ini_IL) hK hB.1 hB.2 hS hA rfl (fun j hj => by rcases (show j = 0 ∨ j = 1 by omega) with rfl | rfl <;> rfl) (Nat.le_of_ble_eq_true rfl) (Nat.le_of_ble_eq_true rfl) d_RW_init_5 (fun q1 H hP hD hS => ?_)
  have hB : bk G.1 vwCl A [[(h0, .inr (2, [.null, .null, .null, .null, .null, .null, .null, .null, .null]))], [(q1, .inr (0, [.null, .int 0]))]] H := bk_push ⟨hP, hD⟩
  refine W.widen (k := 2) (n := 2) (by decide) (by decide) ?_
  refine lv_dup hx hb d_RW_init_8 rfl ?_
  refine wrI (G := G) (k := 1) (As := []) (rest := [.ref q1, .ref h0]) (kc := 2) (K := 16) (rem := 636) (Kt := 654) ⟨hx, hb, hml, hown, hts⟩ (c_IL_init l G q1 _ _ (bk_gP (k := 1) hB.1 rfl) (bk_own (k := 1) hB rfl) rfl) (cwI 0 hts (gd_c k_IL_init) rfl rmK_c rmK_s (hts _ ini_IL) (hts _ ml_RW_11) (hts _ im_IL_init) rfl (by decide +kernel) ⟨Nat.le_of_ble_eq_true rfl, Nat.le_of_ble_eq_true rfl⟩) hK hS hA hB rfl rfl ⟨rfl, rfl⟩ rfl hl.1 (Nat.le_of_ble_eq_true rfl) d_RW_init_9 (fun u2 H locs kc hu3 hB hS hk => ?_)
  obtain rfl : kc = 18 := by omega
  have hB : bk G.1 vwCl A [[(h0, .inr (2, [.null, .null, .null, .null, .null, .null, .null, .null, .null]))], u2] H := hB
  refine va_putF (D := G.1) (ci := 2) (v := .ref q1) (ty := .object "ProofPacker$IntList") (C := RRW) (T := TRW) (N := 9) hx hb hts inRW tyRW tokRW nmRW hown hK hB.1 hB.2 hS 0 rfl rfl 0 (by decide) (hts _ fl_RW_12) (fun _ h9 => h9) rfl hin rfl (by decide +kernel) rfl rfl (Nat.le_of_ble_eq_true rfl) d_RW_init_12 (fun H locs hP hD hS => ?_)
  have hB : bk G.1 vwCl A [[(h0, .inr (2, [.ref q1, .null, .null, .null, .null, .null, .null, .null, .null]))], u2] H := ⟨hP, hD⟩
  refine lv_aload_n hx hb d_RW_init_15 rfl (lv_at hl 0 rfl) ?_
  refine va_new (ci := 0) (fs := [.null, .int 0]) (C := RIL) (T := TIL) (N := 2) hx hb hts inIL tyIL tokIL hown (hts _ cl_RW_9) (hts _ ist_IL) (hts _ ini_IL) hK hB.1 hB.2 hS hA rfl (fun j hj => by rcases (show j = 0 ∨ j = 1 by omega) with rfl | rfl <;> rfl) (Nat.le_of_ble_eq_true rfl) (Nat.le_of_ble_eq_true rfl) d_RW_init_16 (fun q4 H hP hD hS => ?_)
  have hB : bk G.1 vwCl A [[(h0, .inr (2, [.ref q1, .null, .null, .null, .null, .null, .null, .null, .null]))], u2, [(q4, .inr (0, [.null, .int 0]))]] H := bk_push ⟨hP, hD⟩
  refine W.widen (k := 20) (n := 20) (by decide) (by decide) ?_
  refine lv_dup hx hb d_RW_init_19 rfl ?_
  refine wrI (G := G) (k := 2) (As := []) (rest := [.ref q4, .ref h0]) (kc := 20) (K := 16) (rem := 618) (Kt := 654) ⟨hx, hb, hml, hown, hts⟩ (c_IL_init l G q4 _ _ (bk_gP (k := 2) hB.1 rfl) (bk_own (k := 2) hB rfl) rfl) (cwI 0 hts (gd_c k_IL_init) rfl rmK_c rmK_s (hts _ ini_IL) (hts _ ml_RW_11) (hts _ im_IL_init) rfl (by decide +kernel) ⟨Nat.le_of_ble_eq_true rfl, Nat.le_of_ble_eq_true rfl⟩) hK hS hA hB rfl rfl ⟨rfl, rfl⟩ rfl hl.1 (Nat.le_of_ble_eq_true rfl) d_RW_init_20 (fun u5 H locs kc hu6 hB hS hk => ?_)
  obtain rfl : kc = 36 := by omega
  have hB : bk G.1 vwCl A [[(h0, .inr (2, [.ref q1, .null, .null, .null, .null, .null, .null, .null, .null]))], u2, u5] H := hB
  refine va_putF (D := G.1) (ci := 2) (v := .ref q4) (ty := .object "ProofPacker$IntList") (C := RRW) (T := TRW) (N := 9) hx hb hts inRW tyRW tokRW nmRW hown hK hB.1 hB.2 hS 0 rfl rfl 1 (by decide) (hts _ fl_RW_18) (fun _ h9 => h9) rfl hin rfl (by decide +kernel) rfl rfl (Nat.le_of_ble_eq_true rfl) d_RW_init_23 (fun H locs hP hD hS => ?_)
  have hB : bk G.1 vwCl A [[(h0, .inr (2, [.ref q1, .ref q4, .null, .null, .null, .null, .null, .null, .null]))], u2, u5] H := ⟨hP, hD⟩
  refine lv_aload_n hx hb d_RW_init_26 rfl (lv_at hl 0 rfl) ?_
  refine va_get (D := G.1) (ci := 2) (v := .ref q4) (C := RRW) (T := TRW) (N := 9) hx hb hts inRW hown hK hB.1 0 rfl rfl 1 (by decide) (hts _ fl_RW_18) (fun _ h9 => h9) rfl d_RW_init_27 ?_
  refine lv_iconst (v := 0) hx hb d_RW_init_30 (by decide) ?_
  refine wrV (G := G) (k := 2) (As := [.int 0]) (rest := []) (C := RIL) (kc := 36) (K := 0) (rem := 618) (Kt := 654) ⟨hx, hb, hml, hown, hts⟩ (c_IL_add l G q4 ([], 16) 0 _ _ (bk_gP (k := 2) hB.1 rfl) (bk_own (k := 2) hB rfl) hu6 ([0], 16) rfl 0 rfl (by decide)) (cwV 1 hts (gd_V ml_RW_21 im_IL_add sl_IL_add ini_IL k_IL_add) rfl rmK_c rmK_s (by decide +kernel) ⟨Nat.le_of_ble_eq_true rfl, Nat.le_of_ble_eq_true rfl⟩) hK (pIL_recv hK (bk_gP (k := 2) hB.1 rfl) hu6) hS hA hB rfl rfl ⟨rfl, rfl⟩ rfl hl.1 (Nat.le_of_ble_eq_true rfl) d_RW_init_31 (fun u7 H locs kc hu8 hB hS hk => ?_)
  obtain rfl : kc = 36 := by omega
  have hB : bk G.1 vwCl A [[(h0, .inr (2, [.ref q1, .ref q4, .null, .null, .null, .null, .null, .null, .null]))], u2, u7] H := hB
  refine lv_aload_n hx hb d_RW_init_34 rfl (lv_at hl 0 rfl) ?_
  refine va_new (ci := 0) (fs := [.null, .int 0]) (C := RIL) (T := TIL) (N := 2) hx hb hts inIL tyIL tokIL hown (hts _ cl_RW_9) (hts _ ist_IL) (hts _ ini_IL) hK hB.1 hB.2 hS hA rfl (fun j hj => by rcases (show j = 0 ∨ j = 1 by omega) with rfl | rfl <;> rfl) (Nat.le_of_ble_eq_true rfl) (Nat.le_of_ble_eq_true rfl) d_RW_init_35 (fun q9 H hP hD hS => ?_)
  have hB : bk G.1 vwCl A [[(h0, .inr (2, [.ref q1, .ref q4, .null, .null, .null, .null, .null, .null, .null]))], u2, u7, [(q9, .inr (0, [.null, .int 0]))]] H := bk_push ⟨hP, hD⟩
  refine W.widen (k := 38) (n := 38) (by decide) (by decide) ?_
  refine lv_dup hx hb d_RW_init_38 rfl ?_
  refine wrI (G := G) (k := 3) (As := []) (rest := [.ref q9, .ref h0]) (kc := 38) (K := 16) (rem := 600) (Kt := 654) ⟨hx, hb, hml, hown, hts⟩ (c_IL_init l G q9 _ _ (bk_gP (k := 3) hB.1 rfl) (bk_own (k := 3) hB rfl) rfl) (cwI 0 hts (gd_c k_IL_init) rfl rmK_c rmK_s (hts _ ini_IL) (hts _ ml_RW_11) (hts _ im_IL_init) rfl (by decide +kernel) ⟨Nat.le_of_ble_eq_true rfl, Nat.le_of_ble_eq_true rfl⟩) hK hS hA hB rfl rfl ⟨rfl, rfl⟩ rfl hl.1 (Nat.le_of_ble_eq_true rfl) d_RW_init_39 (fun u10 H locs kc hu11 hB hS hk => ?_)
  obtain rfl : kc = 54 := by omega
  have hB : bk G.1 vwCl A [[(h0, .inr (2, [.ref q1, .ref q4, .null, .null, .null, .null, .null, .null, .null]))], u2, u7, u10] H := hB
  refine va_putF (D := G.1) (ci := 2) (v := .ref q9) (ty := .object "ProofPacker$IntList") (C := RRW) (T := TRW) (N := 9) hx hb hts inRW tyRW tokRW nmRW hown hK hB.1 hB.2 hS 0 rfl rfl 2 (by decide) (hts _ fl_RW_25) (fun _ h9 => h9) rfl hin rfl (by decide +kernel) rfl rfl (Nat.le_of_ble_eq_true rfl) d_RW_init_42 (fun H locs hP hD hS => ?_)
  have hB : bk G.1 vwCl A [[(h0, .inr (2, [.ref q1, .ref q4, .ref q9, .null, .null, .null, .null, .null, .null]))], u2, u7, u10] H := ⟨hP, hD⟩
  refine lv_aload_n hx hb d_RW_init_45 rfl (lv_at hl 0 rfl) ?_
  refine va_new (ci := 0) (fs := [.null, .int 0]) (C := RIL) (T := TIL) (N := 2) hx hb hts inIL tyIL tokIL hown (hts _ cl_RW_9) (hts _ ist_IL) (hts _ ini_IL) hK hB.1 hB.2 hS hA rfl (fun j hj => by rcases (show j = 0 ∨ j = 1 by omega) with rfl | rfl <;> rfl) (Nat.le_of_ble_eq_true rfl) (Nat.le_of_ble_eq_true rfl) d_RW_init_46 (fun q12 H hP hD hS => ?_)
  have hB : bk G.1 vwCl A [[(h0, .inr (2, [.ref q1, .ref q4, .ref q9, .null, .null, .null, .null, .null, .null]))], u2, u7, u10, [(q12, .inr (0, [.null, .int 0]))]] H := bk_push ⟨hP, hD⟩
  refine W.widen (k := 56) (n := 56) (by decide) (by decide) ?_
  refine lv_dup hx hb d_RW_init_49 rfl ?_
  refine wrI (G := G) (k := 4) (As := []) (rest := [.ref q12, .ref h0]) (kc := 56) (K := 16) (rem := 582) (Kt := 654) ⟨hx, hb, hml, hown, hts⟩ (c_IL_init l G q12 _ _ (bk_gP (k := 4) hB.1 rfl) (bk_own (k := 4) hB rfl) rfl) (cwI 0 hts (gd_c k_IL_init) rfl rmK_c rmK_s (hts _ ini_IL) (hts _ ml_RW_11) (hts _ im_IL_init) rfl (by decide +kernel) ⟨Nat.le_of_ble_eq_true rfl, Nat.le_of_ble_eq_true rfl⟩) hK hS hA hB rfl rfl ⟨rfl, rfl⟩ rfl hl.1 (Nat.le_of_ble_eq_true rfl) d_RW_init_50 (fun u13 H locs kc hu14 hB hS hk => ?_)
  obtain rfl : kc = 72 := by omega
  have hB : bk G.1 vwCl A [[(h0, .inr (2, [.ref q1, .ref q4, .ref q9, .null, .null, .null, .null, .null, .null]))], u2, u7, u10, u13] H := hB
  refine va_putF (D := G.1) (ci := 2) (v := .ref q12) (ty := .object "ProofPacker$IntList") (C := RRW) (T := TRW) (N := 9) hx hb hts inRW tyRW tokRW nmRW hown hK hB.1 hB.2 hS 0 rfl rfl 3 (by decide) (hts _ fl_RW_28) (fun _ h9 => h9) rfl hin rfl (by decide +kernel) rfl rfl (Nat.le_of_ble_eq_true rfl) d_RW_init_53 (fun H locs hP hD hS => ?_)
  have hB : bk G.1 vwCl A [[(h0, .inr (2, [.ref q1, .ref q4, .ref q9, .ref q12, .null, .null, .null, .null, .null]))], u2, u7, u10, u13] H := ⟨hP, hD⟩
  refine lv_aload_n hx hb d_RW_init_56 rfl (lv_at hl 0 rfl) ?_
  refine va_new (ci := 0) (fs := [.null, .int 0]) (C := RIL) (T := TIL) (N := 2) hx hb hts inIL tyIL tokIL hown (hts _ cl_RW_9) (hts _ ist_IL) (hts _ ini_IL) hK hB.1 hB.2 hS hA rfl (fun j hj => by rcases (show j = 0 ∨ j = 1 by omega) with rfl | rfl <;> rfl) (Nat.le_of_ble_eq_true rfl) (Nat.le_of_ble_eq_true rfl) d_RW_init_57 (fun q15 H hP hD hS => ?_)
  have hB : bk G.1 vwCl A [[(h0, .inr (2, [.ref q1, .ref q4, .ref q9, .ref q12, .null, .null, .null, .null, .null]))], u2, u7, u10, u13, [(q15, .inr (0, [.null, .int 0]))]] H := bk_push ⟨hP, hD⟩
  refine W.widen (k := 74) (n := 74) (by decide) (by decide) ?_
  refine lv_dup hx hb d_RW_init_60 rfl ?_
  refine wrI (G := G) (k := 5) (As := []) (rest := [.ref q15, .ref h0]) (kc := 74) (K := 16) (rem := 564) (Kt := 654) ⟨hx, hb, hml, hown, hts⟩ (c_IL_init l G q15 _ _ (bk_gP (k := 5) hB.1 rfl) (bk_own (k := 5) hB rfl) rfl) (cwI 0 hts (gd_c k_IL_init) rfl rmK_c rmK_s (hts _ ini_IL) (hts _ ml_RW_11) (hts _ im_IL_init) rfl (by decide +kernel) ⟨Nat.le_of_ble_eq_true rfl, Nat.le_of_ble_eq_true rfl⟩) hK hS hA hB rfl rfl ⟨rfl, rfl⟩ rfl hl.1 (Nat.le_of_ble_eq_true rfl) d_RW_init_61 (fun u16 H locs kc hu17 hB hS hk => ?_)
  obtain rfl : kc = 90 := by omega
  have hB : bk G.1 vwCl A [[(h0, .inr (2, [.ref q1, .ref q4, .ref q9, .ref q12, .null, .null, .null, .null, .null]))], u2, u7, u10, u13, u16] H := hB
  refine va_putF (D := G.1) (ci := 2) (v := .ref q15) (ty := .object "ProofPacker$IntList") (C := RRW) (T := TRW) (N := 9) hx hb hts inRW tyRW tokRW nmRW hown hK hB.1 hB.2 hS 0 rfl rfl 4 (by decide) (hts _ fl_RW_31) (fun _ h9 => h9) rfl hin rfl (by decide +kernel) rfl rfl (Nat.le_of_ble_eq_true rfl) d_RW_init_64 (fun H locs hP hD hS => ?_)
  have hB : bk G.1 vwCl A [[(h0, .inr (2, [.ref q1, .ref q4, .ref q9, .ref q12, .ref q15, .null, .null, .null, .null]))], u2, u7, u10, u13, u16] H := ⟨hP, hD⟩
  refine lv_aload_n hx hb d_RW_init_67 rfl (lv_at hl 0 rfl) ?_
  refine va_new (ci := 0) (fs := [.null, .int 0]) (C := RIL) (T := TIL) (N := 2) hx hb hts inIL tyIL tokIL hown (hts _ cl_RW_9) (hts _ ist_IL) (hts _ ini_IL) hK hB.1 hB.2 hS hA rfl (fun j hj => by rcases (show j = 0 ∨ j = 1 by omega) with rfl | rfl <;> rfl) (Nat.le_of_ble_eq_true rfl) (Nat.le_of_ble_eq_true rfl) d_RW_init_68 (fun q18 H hP hD hS => ?_)
  have hB : bk G.1 vwCl A [[(h0, .inr (2, [.ref q1, .ref q4, .ref q9, .ref q12, .ref q15, .null, .null, .null, .null]))], u2, u7, u10, u13, u16, [(q18, .inr (0, [.null, .int 0]))]] H := bk_push ⟨hP, hD⟩
  refine W.widen (k := 92) (n := 92) (by decide) (by decide) ?_
  refine lv_dup hx hb d_RW_init_71 rfl ?_
  refine wrI (G := G) (k := 6) (As := []) (rest := [.ref q18, .ref h0]) (kc := 92) (K := 16) (rem := 546) (Kt := 654) ⟨hx, hb, hml, hown, hts⟩ (c_IL_init l G q18 _ _ (bk_gP (k := 6) hB.1 rfl) (bk_own (k := 6) hB rfl) rfl) (cwI 0 hts (gd_c k_IL_init) rfl rmK_c rmK_s (hts _ ini_IL) (hts _ ml_RW_11) (hts _ im_IL_init) rfl (by decide +kernel) ⟨Nat.le_of_ble_eq_true rfl, Nat.le_of_ble_eq_true rfl⟩) hK hS hA hB rfl rfl ⟨rfl, rfl⟩ rfl hl.1 (Nat.le_of_ble_eq_true rfl) d_RW_init_72 (fun u19 H locs kc hu20 hB hS hk => ?_)
  obtain rfl : kc = 108 := by omega
  have hB : bk G.1 vwCl A [[(h0, .inr (2, [.ref q1, .ref q4, .ref q9, .ref q12, .ref q15, .null, .null, .null, .null]))], u2, u7, u10, u13, u16, u19] H := hB
  refine va_putF (D := G.1) (ci := 2) (v := .ref q18) (ty := .object "ProofPacker$IntList") (C := RRW) (T := TRW) (N := 9) hx hb hts inRW tyRW tokRW nmRW hown hK hB.1 hB.2 hS 0 rfl rfl 5 (by decide) (hts _ fl_RW_34) (fun _ h9 => h9) rfl hin rfl (by decide +kernel) rfl rfl (Nat.le_of_ble_eq_true rfl) d_RW_init_75 (fun H locs hP hD hS => ?_)
  have hB : bk G.1 vwCl A [[(h0, .inr (2, [.ref q1, .ref q4, .ref q9, .ref q12, .ref q15, .ref q18, .null, .null, .null]))], u2, u7, u10, u13, u16, u19] H := ⟨hP, hD⟩
  refine lv_aload_n hx hb d_RW_init_78 rfl (lv_at hl 0 rfl) ?_
  refine va_new (ci := 0) (fs := [.null, .int 0]) (C := RIL) (T := TIL) (N := 2) hx hb hts inIL tyIL tokIL hown (hts _ cl_RW_9) (hts _ ist_IL) (hts _ ini_IL) hK hB.1 hB.2 hS hA rfl (fun j hj => by rcases (show j = 0 ∨ j = 1 by omega) with rfl | rfl <;> rfl) (Nat.le_of_ble_eq_true rfl) (Nat.le_of_ble_eq_true rfl) d_RW_init_79 (fun q21 H hP hD hS => ?_)
  have hB : bk G.1 vwCl A [[(h0, .inr (2, [.ref q1, .ref q4, .ref q9, .ref q12, .ref q15, .ref q18, .null, .null, .null]))], u2, u7, u10, u13, u16, u19, [(q21, .inr (0, [.null, .int 0]))]] H := bk_push ⟨hP, hD⟩
  refine W.widen (k := 110) (n := 110) (by decide) (by decide) ?_
  refine lv_dup hx hb d_RW_init_82 rfl ?_
  refine wrI (G := G) (k := 7) (As := []) (rest := [.ref q21, .ref h0]) (kc := 110) (K := 16) (rem := 528) (Kt := 654) ⟨hx, hb, hml, hown, hts⟩ (c_IL_init l G q21 _ _ (bk_gP (k := 7) hB.1 rfl) (bk_own (k := 7) hB rfl) rfl) (cwI 0 hts (gd_c k_IL_init) rfl rmK_c rmK_s (hts _ ini_IL) (hts _ ml_RW_11) (hts _ im_IL_init) rfl (by decide +kernel) ⟨Nat.le_of_ble_eq_true rfl, Nat.le_of_ble_eq_true rfl⟩) hK hS hA hB rfl rfl ⟨rfl, rfl⟩ rfl hl.1 (Nat.le_of_ble_eq_true rfl) d_RW_init_83 (fun u22 H locs kc hu23 hB hS hk => ?_)
  obtain rfl : kc = 126 := by omega
  have hB : bk G.1 vwCl A [[(h0, .inr (2, [.ref q1, .ref q4, .ref q9, .ref q12, .ref q15, .ref q18, .null, .null, .null]))], u2, u7, u10, u13, u16, u19, u22] H := hB
  refine va_putF (D := G.1) (ci := 2) (v := .ref q21) (ty := .object "ProofPacker$IntList") (C := RRW) (T := TRW) (N := 9) hx hb hts inRW tyRW tokRW nmRW hown hK hB.1 hB.2 hS 0 rfl rfl 6 (by decide) (hts _ fl_RW_37) (fun _ h9 => h9) rfl hin rfl (by decide +kernel) rfl rfl (Nat.le_of_ble_eq_true rfl) d_RW_init_86 (fun H locs hP hD hS => ?_)
  have hB : bk G.1 vwCl A [[(h0, .inr (2, [.ref q1, .ref q4, .ref q9, .ref q12, .ref q15, .ref q18, .ref q21, .null, .null]))], u2, u7, u10, u13, u16, u19, u22] H := ⟨hP, hD⟩
  refine lv_aload_n hx hb d_RW_init_89 rfl (lv_at hl 0 rfl) ?_
  refine lv_sipush (v := 512) hx hb d_RW_init_90 (by decide) ?_
  refine va_newa (atype := .int) (ty := .int) (a0 := (512, .inl (fun _ => 0))) (N' := 512) hx hb (hts _ arr_int) rfl hK hB.1 hB.2 hS hA (fun cA => rfl) (by decide) (by decide) (by decide) (Nat.le_of_ble_eq_true rfl) (Nat.le_of_ble_eq_true rfl) d_RW_init_93 (fun q24 cA H hK2 hP hD hS => ?_)
  obtain rfl : cA = G.2.1 := ca_eq hK2 3 0 rfl rfl
  have hB : bk G.1 vwCl A [[(h0, .inr (2, [.ref q1, .ref q4, .ref q9, .ref q12, .ref q15, .ref q18, .ref q21, .null, .null]))], u2, u7, u10, u13, u16, u19, u22, [(q24, .inl (G.2.1, 512, .inl (fun _ => 0)))]] H := bk_push ⟨hP, hD⟩
  refine W.widen (k := 638) (n := 638) (by decide) (by decide) ?_
  refine va_putF (D := G.1) (ci := 2) (v := .ref q24) (ty := .array .int) (C := RRW) (T := TRW) (N := 9) hx hb hts inRW tyRW tokRW nmRW hown hK hB.1 hB.2 hS 0 rfl rfl 7 (by decide) (hts _ fl_RW_40) (fun _ h9 => h9) rfl hin rfl (by decide +kernel) rfl rfl (Nat.le_of_ble_eq_true rfl) d_RW_init_95 (fun H locs hP hD hS => ?_)
  have hB : bk G.1 vwCl A [[(h0, .inr (2, [.ref q1, .ref q4, .ref q9, .ref q12, .ref q15, .ref q18, .ref q21, .ref q24, .null]))], u2, u7, u10, u13, u16, u19, u22, [(q24, .inl (G.2.1, 512, .inl (fun _ => 0)))]] H := ⟨hP, hD⟩
  refine lv_aload_n hx hb d_RW_init_98 rfl (lv_at hl 0 rfl) ?_
  refine va_get (D := G.1) (ci := 2) (v := .ref q24) (C := RRW) (T := TRW) (N := 9) hx hb hts inRW hown hK hB.1 0 rfl rfl 7 (by decide) (hts _ fl_RW_40) (fun _ h9 => h9) rfl d_RW_init_99 ?_
  refine lv_iconst (v := (-1)) hx hb d_RW_init_102 (by decide) ?_
  refine wrS0 (G := G) (k := 8) (As := [.ref q24, .int (-1)]) (rest := []) (kc := 638) (rem := 16) (Kt := 654) ⟨hx, hb, hml, hown, hts⟩ (c_AR_fill l G q24 512 (fun _ => 0) (-1) _ _ (bk_gP (k := 8) hB.1 rfl) (bk_own (k := 8) hB rfl) rfl (by decide)) (va_cwS 2 hts (gd_S ml_RW_44 sm_AR_fill ini_AR k_AR_fill) rfl rfl rfl (by decide +kernel) ⟨Nat.le_of_ble_eq_true rfl, Nat.le_of_ble_eq_true rfl⟩) hK hS hA hB rfl rfl ⟨rfl, rfl⟩ rfl hl.1 (Nat.le_of_ble_eq_true rfl) d_RW_init_103 (fun u25 H locs hu26 hB hS => ?_)
  subst hu26
  have hB : bk G.1 vwCl A [[(h0, .inr (2, [.ref q1, .ref q4, .ref q9, .ref q12, .ref q15, .ref q18, .ref q21, .ref q24, .null]))], u2, u7, u10, u13, u16, u19, u22, [(q24, .inl (G.2.1, 512, .inl (fun _ => (-1))))]] H := hB
  refine lv_aload_n hx hb d_RW_init_106 rfl (lv_at hl 0 rfl) ?_
  refine lv_bipush (v := 16) hx hb d_RW_init_107 (by decide) ?_
  refine va_newa (atype := .long) (ty := .long) (a0 := (16, .inr (.inl (fun _ => 0)))) (N' := 16) hx hb (hts _ arr_long) rfl hK hB.1 hB.2 hS hA (fun cA => rfl) (by decide) (by decide) (by decide) (Nat.le_of_ble_eq_true rfl) (Nat.le_of_ble_eq_true rfl) d_RW_init_109 (fun q27 cA H hK2 hP hD hS => ?_)
  obtain rfl : cA = G.2.2.1 := ca_eqL hK2 3 1 rfl rfl
  have hB : bk G.1 vwCl A [[(h0, .inr (2, [.ref q1, .ref q4, .ref q9, .ref q12, .ref q15, .ref q18, .ref q21, .ref q24, .null]))], u2, u7, u10, u13, u16, u19, u22, [(q24, .inl (G.2.1, 512, .inl (fun _ => (-1))))], [(q27, .inl (G.2.2.1, 16, .inr (.inl (fun _ => 0))))]] H := bk_push ⟨hP, hD⟩
  refine W.widen (k := 654) (n := 654) (by decide) (by decide) ?_
  refine va_put (D := G.1) (ci := 2) (v := .ref q27) (ty := .array .long) (C := RRW) (T := TRW) (N := 9) hx hb hts inRW tyRW tokRW nmRW hown hK hB.1 hB.2 hS 0 rfl rfl 8 (by decide) (hts _ fl_RW_50) (fun _ h9 => h9) rfl (by decide +kernel) rfl rfl (Nat.le_of_ble_eq_true rfl) d_RW_init_111 (fun H locs hP hD hS => ?_)
  have hB : bk G.1 vwCl A [[(h0, .inr (2, [.ref q1, .ref q4, .ref q9, .ref q12, .ref q15, .ref q18, .ref q21, .ref q24, .ref q27]))], u2, u7, u10, u13, u16, u19, u22, [(q24, .inl (G.2.1, 512, .inl (fun _ => (-1))))], [(q27, .inl (G.2.2.1, 16, .inr (.inl (fun _ => 0))))]] H := ⟨hP, hD⟩
  have hB : bk G.1 vwCl A [[(h0, .inr (2, [.ref q1, .ref q4, .ref q9, .ref q12, .ref q15, .ref q18, .ref q21, .ref q24, .ref q27]))], [(q24, .inl (G.2.1, 512, .inl (fun _ => (-1))))], [(q27, .inl (G.2.2.1, 16, .inr (.inl (fun _ => 0))))], u2, u7, u10, u13, u16, u19, u22] H := bk_rot (xs := [u2, u7, u10, u13, u16, u19, u22]) hB
  exact W.vret hx hb hr (fun t ht hW => ⟨⟨[[(h0, .inr (2, [.ref q1, .ref q4, .ref q9, .ref q12, .ref q15, .ref q18, .ref q21, .ref q24, .ref q27]))], [(q24, .inl (G.2.1, 512, .inl (fun _ => (-1))))], [(q27, .inl (G.2.2.1, 16, .inr (.inl (fun _ => 0))))], u2, u7, u10, u13, u16, u19, u22].flatten, rfl, ⟨(fun i => [q1, q4, q9, q12, q15, q18, q21].getD i 0), q24, q27, u2, u7, u10, u13, u16, u19, u22, rfl, hu3, hu8, hu11, hu14, hu17, hu20, hu23, by decide⟩, by rw [ht]; exact hB.1, hB.2⟩, hS.F ht⟩) hS.2.2 d_RW_init_114

def iTL : tTL := (([], 16), ([], 16), ([], 16), iLL, (-1), 0, ([], 16), ([], 16), ([], 16), ([], 16), ([], 16), ([], 16))
set_option maxHeartbeats 4000000 in
set_option maxRecDepth 100000 in
theorem c_TL_init (l : Launch) (G : pG) (h0 : Nat) (bS bR : Nat) (H : Heap) (w : va_W) (hP0 : va_P G.1 vwCl w H) (hD0 : va_D (fun _ => True) w) (hσ : w = [(h0, .inr (4, [.null, .null, .null, .null, .null, .null, .int 0, .int 0, .null, .null, .null, .null, .null, .null]))]) : MWv l y_TL_init w_TL_init 3 52 181 G [.ref h0, .ref bS, .ref bR] H w (fun u => ∃ (ad : Nat → Nat) (adL : Nat → Nat), pTL G h0 bS bR ad adL iTL u) := by
  refine Met.ofW (cc := b_TL_init) (maxL := 3) (ret := none) (by decide) rfl ?_
  intro p e s m args below meth c s₁ B hml hv
  obtain ⟨rfl, rfl, hK⟩ := hv
  have hx := B.exec
  have hb := B.bytes
  have hr := B.returns
  have hts0 := atoms_spec (ws := w_TL_init) B.pre
  have hts := fun w (h : w ∈ lw_g) => hts0 w (List.mem_cons_of_mem _ h)
  have hown : s.vm.findClass RTL = some m.cls := findClass_of_methodNamed B.named
  have hlocks := B.notSynchronized
  have hA : ∀ q : Nat, s.heap.size ≤ q → va_A w s.heap.size q := fun _ h => Or.inr h
  have hB : bk G.1 vwCl (va_A w s.heap.size) [w] s.heap := bk_init hP0 hD0
  generalize va_A w s.heap.size = A at *
  have hS : va_S A s.heap s.heap [] := va_S.rf
  subst hσ
  have hB : bk G.1 vwCl A [[(h0, .inr (4, [.null, .null, .null, .null, .null, .null, .int 0, .int 0, .null, .null, .null, .null, .null, .null]))]] s.heap := hB
  have hin : meth.name = "<init>" := (name_of_methodNamed B.named B.method).1
  have hl := lv_entry ([.ref h0, .ref bS, .ref bR]) (n := 3) (Nat.le_of_ble_eq_true rfl)
  rw [lg_entry_eq]
  generalize (lg_sl ([.ref h0, .ref bS, .ref bR]) ++ List.replicate (3 - (lg_sl ([.ref h0, .ref bS, .ref bR])).length) Slot.unset).toArray = ls at hl ⊢
  have hl : lv_has ls 3 [(0, .ref h0), (1, .ref bS), (2, .ref bR)] := hl
  refine lv_aload_n hx hb d_TL_init_0 rfl (lv_at hl 0 rfl) ?_
  refine W.objInit hx hb hown (hts _ ml_TL_3) (hts _ im_obj_init) (hts _ k_obj_init) rfl (by rw [hml]; exact hl.1) rfl d_TL_init_1 (Nat.le_of_ble_eq_true rfl) (Nat.le_of_ble_eq_true rfl) ?_
  refine W.eq (g2 := F0 m 4 ls []) rfl ?_
  refine lv_aload_n hx hb d_TL_init_4 rfl (lv_at hl 0 rfl) ?_
  refine lv_aload_n hx hb d_TL_init_5 rfl (lv_at hl 1 rfl) ?_
  refine va_putF (D := G.1) (ci := 4) (v := .ref bS) (ty := .object "ProofPacker$Statements") (C := RTL) (T := TTL) (N := 14) hx hb hts inTL tyTL tokTL nmTL hown hK hB.1 hB.2 hS 0 rfl rfl 0 (by decide) (hts _ fl_TL_9) (fun _ h9 => h9) rfl hin rfl (by decide +kernel) rfl rfl (Nat.le_of_ble_eq_true rfl) d_TL_init_6 (fun H locs hP hD hS => ?_)
  have hB : bk G.1 vwCl A [[(h0, .inr (4, [.ref bS, .null, .null, .null, .null, .null, .int 0, .int 0, .null, .null, .null, .null, .null, .null]))]] H := ⟨hP, hD⟩
  refine lv_aload_n hx hb d_TL_init_9 rfl (lv_at hl 0 rfl) ?_
  refine lv_aload_n hx hb d_TL_init_10 rfl (lv_at hl 2 rfl) ?_
  refine va_putF (D := G.1) (ci := 4) (v := .ref bR) (ty := .object "ProofPacker$Rows") (C := RTL) (T := TTL) (N := 14) hx hb hts inTL tyTL tokTL nmTL hown hK hB.1 hB.2 hS 0 rfl rfl 1 (by decide) (hts _ fl_TL_15) (fun _ h9 => h9) rfl hin rfl (by decide +kernel) rfl rfl (Nat.le_of_ble_eq_true rfl) d_TL_init_11 (fun H locs hP hD hS => ?_)
  have hB : bk G.1 vwCl A [[(h0, .inr (4, [.ref bS, .ref bR, .null, .null, .null, .null, .int 0, .int 0, .null, .null, .null, .null, .null, .null]))]] H := ⟨hP, hD⟩
  refine lv_aload_n hx hb d_TL_init_14 rfl (lv_at hl 0 rfl) ?_
  refine va_new (ci := 0) (fs := [.null, .int 0]) (C := RIL) (T := TIL) (N := 2) hx hb hts inIL tyIL tokIL hown (hts _ cl_TL_19) (hts _ ist_IL) (hts _ ini_IL) hK hB.1 hB.2 hS hA rfl (fun j hj => by rcases (show j = 0 ∨ j = 1 by omega) with rfl | rfl <;> rfl) (Nat.le_of_ble_eq_true rfl) (Nat.le_of_ble_eq_true rfl) d_TL_init_15 (fun q1 H hP hD hS => ?_)
  have hB : bk G.1 vwCl A [[(h0, .inr (4, [.ref bS, .ref bR, .null, .null, .null, .null, .int 0, .int 0, .null, .null, .null, .null, .null, .null]))], [(q1, .inr (0, [.null, .int 0]))]] H := bk_push ⟨hP, hD⟩
  refine W.widen (k := 2) (n := 2) (by decide) (by decide) ?_
  refine lv_dup hx hb d_TL_init_18 rfl ?_
  refine wrI (G := G) (k := 1) (As := []) (rest := [.ref q1, .ref h0]) (kc := 2) (K := 16) (rem := 163) (Kt := 181) ⟨hx, hb, hml, hown, hts⟩ (c_IL_init l G q1 _ _ (bk_gP (k := 1) hB.1 rfl) (bk_own (k := 1) hB rfl) rfl) (cwI 0 hts (gd_c k_IL_init) rfl rmK_c rmK_s (hts _ ini_IL) (hts _ ml_TL_21) (hts _ im_IL_init) rfl (by decide +kernel) ⟨Nat.le_of_ble_eq_true rfl, Nat.le_of_ble_eq_true rfl⟩) hK hS hA hB rfl rfl ⟨rfl, rfl⟩ rfl hl.1 (Nat.le_of_ble_eq_true rfl) d_TL_init_19 (fun u2 H locs kc hu3 hB hS hk => ?_)
  obtain rfl : kc = 18 := by omega
  have hB : bk G.1 vwCl A [[(h0, .inr (4, [.ref bS, .ref bR, .null, .null, .null, .null, .int 0, .int 0, .null, .null, .null, .null, .null, .null]))], u2] H := hB
  refine va_putF (D := G.1) (ci := 4) (v := .ref q1) (ty := .object "ProofPacker$IntList") (C := RTL) (T := TTL) (N := 14) hx hb hts inTL tyTL tokTL nmTL hown hK hB.1 hB.2 hS 0 rfl rfl 2 (by decide) (hts _ fl_TL_22) (fun _ h9 => h9) rfl hin rfl (by decide +kernel) rfl rfl (Nat.le_of_ble_eq_true rfl) d_TL_init_22 (fun H locs hP hD hS => ?_)
  have hB : bk G.1 vwCl A [[(h0, .inr (4, [.ref bS, .ref bR, .ref q1, .null, .null, .null, .int 0, .int 0, .null, .null, .null, .null, .null, .null]))], u2] H := ⟨hP, hD⟩
  refine lv_aload_n hx hb d_TL_init_25 rfl (lv_at hl 0 rfl) ?_
  refine va_new (ci := 0) (fs := [.null, .int 0]) (C := RIL) (T := TIL) (N := 2) hx hb hts inIL tyIL tokIL hown (hts _ cl_TL_19) (hts _ ist_IL) (hts _ ini_IL) hK hB.1 hB.2 hS hA rfl (fun j hj => by rcases (show j = 0 ∨ j = 1 by omega) with rfl | rfl <;> rfl) (Nat.le_of_ble_eq_true rfl) (Nat.le_of_ble_eq_true rfl) d_TL_init_26 (fun q4 H hP hD hS => ?_)
  have hB : bk G.1 vwCl A [[(h0, .inr (4, [.ref bS, .ref bR, .ref q1, .null, .null, .null, .int 0, .int 0, .null, .null, .null, .null, .null, .null]))], u2, [(q4, .inr (0, [.null, .int 0]))]] H := bk_push ⟨hP, hD⟩
  refine W.widen (k := 20) (n := 20) (by decide) (by decide) ?_
  refine lv_dup hx hb d_TL_init_29 rfl ?_
  refine wrI (G := G) (k := 2) (As := []) (rest := [.ref q4, .ref h0]) (kc := 20) (K := 16) (rem := 145) (Kt := 181) ⟨hx, hb, hml, hown, hts⟩ (c_IL_init l G q4 _ _ (bk_gP (k := 2) hB.1 rfl) (bk_own (k := 2) hB rfl) rfl) (cwI 0 hts (gd_c k_IL_init) rfl rmK_c rmK_s (hts _ ini_IL) (hts _ ml_TL_21) (hts _ im_IL_init) rfl (by decide +kernel) ⟨Nat.le_of_ble_eq_true rfl, Nat.le_of_ble_eq_true rfl⟩) hK hS hA hB rfl rfl ⟨rfl, rfl⟩ rfl hl.1 (Nat.le_of_ble_eq_true rfl) d_TL_init_30 (fun u5 H locs kc hu6 hB hS hk => ?_)
  obtain rfl : kc = 36 := by omega
  have hB : bk G.1 vwCl A [[(h0, .inr (4, [.ref bS, .ref bR, .ref q1, .null, .null, .null, .int 0, .int 0, .null, .null, .null, .null, .null, .null]))], u2, u5] H := hB
  refine va_putF (D := G.1) (ci := 4) (v := .ref q4) (ty := .object "ProofPacker$IntList") (C := RTL) (T := TTL) (N := 14) hx hb hts inTL tyTL tokTL nmTL hown hK hB.1 hB.2 hS 0 rfl rfl 3 (by decide) (hts _ fl_TL_26) (fun _ h9 => h9) rfl hin rfl (by decide +kernel) rfl rfl (Nat.le_of_ble_eq_true rfl) d_TL_init_33 (fun H locs hP hD hS => ?_)
  have hB : bk G.1 vwCl A [[(h0, .inr (4, [.ref bS, .ref bR, .ref q1, .ref q4, .null, .null, .int 0, .int 0, .null, .null, .null, .null, .null, .null]))], u2, u5] H := ⟨hP, hD⟩
  refine lv_aload_n hx hb d_TL_init_36 rfl (lv_at hl 0 rfl) ?_
  refine va_new (ci := 0) (fs := [.null, .int 0]) (C := RIL) (T := TIL) (N := 2) hx hb hts inIL tyIL tokIL hown (hts _ cl_TL_19) (hts _ ist_IL) (hts _ ini_IL) hK hB.1 hB.2 hS hA rfl (fun j hj => by rcases (show j = 0 ∨ j = 1 by omega) with rfl | rfl <;> rfl) (Nat.le_of_ble_eq_true rfl) (Nat.le_of_ble_eq_true rfl) d_TL_init_37 (fun q7 H hP hD hS => ?_)
  have hB : bk G.1 vwCl A [[(h0, .inr (4, [.ref bS, .ref bR, .ref q1, .ref q4, .null, .null, .int 0, .int 0, .null, .null, .null, .null, .null, .null]))], u2, u5, [(q7, .inr (0, [.null, .int 0]))]] H := bk_push ⟨hP, hD⟩
  refine W.widen (k := 38) (n := 38) (by decide) (by decide) ?_
  refine lv_dup hx hb d_TL_init_40 rfl ?_
  refine wrI (G := G) (k := 3) (As := []) (rest := [.ref q7, .ref h0]) (kc := 38) (K := 16) (rem := 127) (Kt := 181) ⟨hx, hb, hml, hown, hts⟩ (c_IL_init l G q7 _ _ (bk_gP (k := 3) hB.1 rfl) (bk_own (k := 3) hB rfl) rfl) (cwI 0 hts (gd_c k_IL_init) rfl rmK_c rmK_s (hts _ ini_IL) (hts _ ml_TL_21) (hts _ im_IL_init) rfl (by decide +kernel) ⟨Nat.le_of_ble_eq_true rfl, Nat.le_of_ble_eq_true rfl⟩) hK hS hA hB rfl rfl ⟨rfl, rfl⟩ rfl hl.1 (Nat.le_of_ble_eq_true rfl) d_TL_init_41 (fun u8 H locs kc hu9 hB hS hk => ?_)
  obtain rfl : kc = 54 := by omega
  have hB : bk G.1 vwCl A [[(h0, .inr (4, [.ref bS, .ref bR, .ref q1, .ref q4, .null, .null, .int 0, .int 0, .null, .null, .null, .null, .null, .null]))], u2, u5, u8] H := hB
  refine va_putF (D := G.1) (ci := 4) (v := .ref q7) (ty := .object "ProofPacker$IntList") (C := RTL) (T := TTL) (N := 14) hx hb hts inTL tyTL tokTL nmTL hown hK hB.1 hB.2 hS 0 rfl rfl 4 (by decide) (hts _ fl_TL_29) (fun _ h9 => h9) rfl hin rfl (by decide +kernel) rfl rfl (Nat.le_of_ble_eq_true rfl) d_TL_init_44 (fun H locs hP hD hS => ?_)
  have hB : bk G.1 vwCl A [[(h0, .inr (4, [.ref bS, .ref bR, .ref q1, .ref q4, .ref q7, .null, .int 0, .int 0, .null, .null, .null, .null, .null, .null]))], u2, u5, u8] H := ⟨hP, hD⟩
  refine lv_aload_n hx hb d_TL_init_47 rfl (lv_at hl 0 rfl) ?_
  refine va_new (ci := 1) (fs := [.null]) (C := RLL) (T := TLL) (N := 1) hx hb hts inLL tyLL tokLL hown (hts _ cl_TL_32) (hts _ ist_LL) (hts _ ini_LL) hK hB.1 hB.2 hS hA rfl (fun j hj => by rcases (show j = 0 by omega) with rfl <;> rfl) (Nat.le_of_ble_eq_true rfl) (Nat.le_of_ble_eq_true rfl) d_TL_init_48 (fun q10 H hP hD hS => ?_)
  have hB : bk G.1 vwCl A [[(h0, .inr (4, [.ref bS, .ref bR, .ref q1, .ref q4, .ref q7, .null, .int 0, .int 0, .null, .null, .null, .null, .null, .null]))], u2, u5, u8, [(q10, .inr (1, [.null]))]] H := bk_push ⟨hP, hD⟩
  refine W.widen (k := 55) (n := 55) (by decide) (by decide) ?_
  refine lv_dup hx hb d_TL_init_51 rfl ?_
  refine wrI (G := G) (k := 4) (As := []) (rest := [.ref q10, .ref h0]) (kc := 55) (K := 18) (rem := 108) (Kt := 181) ⟨hx, hb, hml, hown, hts⟩ (c_LL_init l G q10 _ _ (bk_gP (k := 4) hB.1 rfl) (bk_own (k := 4) hB rfl) rfl) (cwI 0 hts (gd_c k_LL_init) rfl rmK_c rmK_s (hts _ ini_LL) (hts _ ml_TL_34) (hts _ im_LL_init) rfl (by decide +kernel) ⟨Nat.le_of_ble_eq_true rfl, Nat.le_of_ble_eq_true rfl⟩) hK hS hA hB rfl rfl ⟨rfl, rfl⟩ rfl hl.1 (Nat.le_of_ble_eq_true rfl) d_TL_init_52 (fun u11 H locs kc hu12 hB hS hk => ?_)
  obtain rfl : kc = 73 := by omega
  obtain ⟨ad13, hu12⟩ := hu12
  have hB : bk G.1 vwCl A [[(h0, .inr (4, [.ref bS, .ref bR, .ref q1, .ref q4, .ref q7, .null, .int 0, .int 0, .null, .null, .null, .null, .null, .null]))], u2, u5, u8, u11] H := hB
  refine va_putF (D := G.1) (ci := 4) (v := .ref q10) (ty := .object "ProofPacker$LetterList") (C := RTL) (T := TTL) (N := 14) hx hb hts inTL tyTL tokTL nmTL hown hK hB.1 hB.2 hS 0 rfl rfl 5 (by decide) (hts _ fl_TL_35) (fun _ h9 => h9) rfl hin rfl (by decide +kernel) rfl rfl (Nat.le_of_ble_eq_true rfl) d_TL_init_55 (fun H locs hP hD hS => ?_)
  have hB : bk G.1 vwCl A [[(h0, .inr (4, [.ref bS, .ref bR, .ref q1, .ref q4, .ref q7, .ref q10, .int 0, .int 0, .null, .null, .null, .null, .null, .null]))], u2, u5, u8, u11] H := ⟨hP, hD⟩
  refine lv_aload_n hx hb d_TL_init_58 rfl (lv_at hl 0 rfl) ?_
  refine lv_iconst (v := (-1)) hx hb d_TL_init_59 (by decide) ?_
  refine va_put (D := G.1) (ci := 4) (v := .int (-1)) (ty := .int) (C := RTL) (T := TTL) (N := 14) hx hb hts inTL tyTL tokTL nmTL hown hK hB.1 hB.2 hS 0 rfl rfl 6 (by decide) (hts _ fl_TL_39) (fun _ h9 => h9) rfl (by decide +kernel) rfl rfl (Nat.le_of_ble_eq_true rfl) d_TL_init_60 (fun H locs hP hD hS => ?_)
  have hB : bk G.1 vwCl A [[(h0, .inr (4, [.ref bS, .ref bR, .ref q1, .ref q4, .ref q7, .ref q10, .int (-1), .int 0, .null, .null, .null, .null, .null, .null]))], u2, u5, u8, u11] H := ⟨hP, hD⟩
  refine lv_aload_n hx hb d_TL_init_63 rfl (lv_at hl 0 rfl) ?_
  refine lv_iconst (v := 0) hx hb d_TL_init_64 (by decide) ?_
  refine va_put (D := G.1) (ci := 4) (v := .int 0) (ty := .int) (C := RTL) (T := TTL) (N := 14) hx hb hts inTL tyTL tokTL nmTL hown hK hB.1 hB.2 hS 0 rfl rfl 7 (by decide) (hts _ fl_TL_43) (fun _ h9 => h9) rfl (by decide +kernel) rfl rfl (Nat.le_of_ble_eq_true rfl) d_TL_init_65 (fun H locs hP hD hS => ?_)
  have hB : bk G.1 vwCl A [[(h0, .inr (4, [.ref bS, .ref bR, .ref q1, .ref q4, .ref q7, .ref q10, .int (-1), .int 0, .null, .null, .null, .null, .null, .null]))], u2, u5, u8, u11] H := ⟨hP, hD⟩
  refine lv_aload_n hx hb d_TL_init_68 rfl (lv_at hl 0 rfl) ?_
  refine va_new (ci := 0) (fs := [.null, .int 0]) (C := RIL) (T := TIL) (N := 2) hx hb hts inIL tyIL tokIL hown (hts _ cl_TL_19) (hts _ ist_IL) (hts _ ini_IL) hK hB.1 hB.2 hS hA rfl (fun j hj => by rcases (show j = 0 ∨ j = 1 by omega) with rfl | rfl <;> rfl) (Nat.le_of_ble_eq_true rfl) (Nat.le_of_ble_eq_true rfl) d_TL_init_69 (fun q14 H hP hD hS => ?_)
  have hB : bk G.1 vwCl A [[(h0, .inr (4, [.ref bS, .ref bR, .ref q1, .ref q4, .ref q7, .ref q10, .int (-1), .int 0, .null, .null, .null, .null, .null, .null]))], u2, u5, u8, u11, [(q14, .inr (0, [.null, .int 0]))]] H := bk_push ⟨hP, hD⟩
  refine W.widen (k := 75) (n := 75) (by decide) (by decide) ?_
  refine lv_dup hx hb d_TL_init_72 rfl ?_
  refine wrI (G := G) (k := 5) (As := []) (rest := [.ref q14, .ref h0]) (kc := 75) (K := 16) (rem := 90) (Kt := 181) ⟨hx, hb, hml, hown, hts⟩ (c_IL_init l G q14 _ _ (bk_gP (k := 5) hB.1 rfl) (bk_own (k := 5) hB rfl) rfl) (cwI 0 hts (gd_c k_IL_init) rfl rmK_c rmK_s (hts _ ini_IL) (hts _ ml_TL_21) (hts _ im_IL_init) rfl (by decide +kernel) ⟨Nat.le_of_ble_eq_true rfl, Nat.le_of_ble_eq_true rfl⟩) hK hS hA hB rfl rfl ⟨rfl, rfl⟩ rfl hl.1 (Nat.le_of_ble_eq_true rfl) d_TL_init_73 (fun u15 H locs kc hu16 hB hS hk => ?_)
  obtain rfl : kc = 91 := by omega
  have hB : bk G.1 vwCl A [[(h0, .inr (4, [.ref bS, .ref bR, .ref q1, .ref q4, .ref q7, .ref q10, .int (-1), .int 0, .null, .null, .null, .null, .null, .null]))], u2, u5, u8, u11, u15] H := hB
  refine va_putF (D := G.1) (ci := 4) (v := .ref q14) (ty := .object "ProofPacker$IntList") (C := RTL) (T := TTL) (N := 14) hx hb hts inTL tyTL tokTL nmTL hown hK hB.1 hB.2 hS 0 rfl rfl 8 (by decide) (hts _ fl_TL_46) (fun _ h9 => h9) rfl hin rfl (by decide +kernel) rfl rfl (Nat.le_of_ble_eq_true rfl) d_TL_init_76 (fun H locs hP hD hS => ?_)
  have hB : bk G.1 vwCl A [[(h0, .inr (4, [.ref bS, .ref bR, .ref q1, .ref q4, .ref q7, .ref q10, .int (-1), .int 0, .ref q14, .null, .null, .null, .null, .null]))], u2, u5, u8, u11, u15] H := ⟨hP, hD⟩
  refine lv_aload_n hx hb d_TL_init_79 rfl (lv_at hl 0 rfl) ?_
  refine va_new (ci := 0) (fs := [.null, .int 0]) (C := RIL) (T := TIL) (N := 2) hx hb hts inIL tyIL tokIL hown (hts _ cl_TL_19) (hts _ ist_IL) (hts _ ini_IL) hK hB.1 hB.2 hS hA rfl (fun j hj => by rcases (show j = 0 ∨ j = 1 by omega) with rfl | rfl <;> rfl) (Nat.le_of_ble_eq_true rfl) (Nat.le_of_ble_eq_true rfl) d_TL_init_80 (fun q17 H hP hD hS => ?_)
  have hB : bk G.1 vwCl A [[(h0, .inr (4, [.ref bS, .ref bR, .ref q1, .ref q4, .ref q7, .ref q10, .int (-1), .int 0, .ref q14, .null, .null, .null, .null, .null]))], u2, u5, u8, u11, u15, [(q17, .inr (0, [.null, .int 0]))]] H := bk_push ⟨hP, hD⟩
  refine W.widen (k := 93) (n := 93) (by decide) (by decide) ?_
  refine lv_dup hx hb d_TL_init_83 rfl ?_
  refine wrI (G := G) (k := 6) (As := []) (rest := [.ref q17, .ref h0]) (kc := 93) (K := 16) (rem := 72) (Kt := 181) ⟨hx, hb, hml, hown, hts⟩ (c_IL_init l G q17 _ _ (bk_gP (k := 6) hB.1 rfl) (bk_own (k := 6) hB rfl) rfl) (cwI 0 hts (gd_c k_IL_init) rfl rmK_c rmK_s (hts _ ini_IL) (hts _ ml_TL_21) (hts _ im_IL_init) rfl (by decide +kernel) ⟨Nat.le_of_ble_eq_true rfl, Nat.le_of_ble_eq_true rfl⟩) hK hS hA hB rfl rfl ⟨rfl, rfl⟩ rfl hl.1 (Nat.le_of_ble_eq_true rfl) d_TL_init_84 (fun u18 H locs kc hu19 hB hS hk => ?_)
  obtain rfl : kc = 109 := by omega
  have hB : bk G.1 vwCl A [[(h0, .inr (4, [.ref bS, .ref bR, .ref q1, .ref q4, .ref q7, .ref q10, .int (-1), .int 0, .ref q14, .null, .null, .null, .null, .null]))], u2, u5, u8, u11, u15, u18] H := hB
  refine va_putF (D := G.1) (ci := 4) (v := .ref q17) (ty := .object "ProofPacker$IntList") (C := RTL) (T := TTL) (N := 14) hx hb hts inTL tyTL tokTL nmTL hown hK hB.1 hB.2 hS 0 rfl rfl 9 (by decide) (hts _ fl_TL_49) (fun _ h9 => h9) rfl hin rfl (by decide +kernel) rfl rfl (Nat.le_of_ble_eq_true rfl) d_TL_init_87 (fun H locs hP hD hS => ?_)
  have hB : bk G.1 vwCl A [[(h0, .inr (4, [.ref bS, .ref bR, .ref q1, .ref q4, .ref q7, .ref q10, .int (-1), .int 0, .ref q14, .ref q17, .null, .null, .null, .null]))], u2, u5, u8, u11, u15, u18] H := ⟨hP, hD⟩
  refine lv_aload_n hx hb d_TL_init_90 rfl (lv_at hl 0 rfl) ?_
  refine va_new (ci := 0) (fs := [.null, .int 0]) (C := RIL) (T := TIL) (N := 2) hx hb hts inIL tyIL tokIL hown (hts _ cl_TL_19) (hts _ ist_IL) (hts _ ini_IL) hK hB.1 hB.2 hS hA rfl (fun j hj => by rcases (show j = 0 ∨ j = 1 by omega) with rfl | rfl <;> rfl) (Nat.le_of_ble_eq_true rfl) (Nat.le_of_ble_eq_true rfl) d_TL_init_91 (fun q20 H hP hD hS => ?_)
  have hB : bk G.1 vwCl A [[(h0, .inr (4, [.ref bS, .ref bR, .ref q1, .ref q4, .ref q7, .ref q10, .int (-1), .int 0, .ref q14, .ref q17, .null, .null, .null, .null]))], u2, u5, u8, u11, u15, u18, [(q20, .inr (0, [.null, .int 0]))]] H := bk_push ⟨hP, hD⟩
  refine W.widen (k := 111) (n := 111) (by decide) (by decide) ?_
  refine lv_dup hx hb d_TL_init_94 rfl ?_
  refine wrI (G := G) (k := 7) (As := []) (rest := [.ref q20, .ref h0]) (kc := 111) (K := 16) (rem := 54) (Kt := 181) ⟨hx, hb, hml, hown, hts⟩ (c_IL_init l G q20 _ _ (bk_gP (k := 7) hB.1 rfl) (bk_own (k := 7) hB rfl) rfl) (cwI 0 hts (gd_c k_IL_init) rfl rmK_c rmK_s (hts _ ini_IL) (hts _ ml_TL_21) (hts _ im_IL_init) rfl (by decide +kernel) ⟨Nat.le_of_ble_eq_true rfl, Nat.le_of_ble_eq_true rfl⟩) hK hS hA hB rfl rfl ⟨rfl, rfl⟩ rfl hl.1 (Nat.le_of_ble_eq_true rfl) d_TL_init_95 (fun u21 H locs kc hu22 hB hS hk => ?_)
  obtain rfl : kc = 127 := by omega
  have hB : bk G.1 vwCl A [[(h0, .inr (4, [.ref bS, .ref bR, .ref q1, .ref q4, .ref q7, .ref q10, .int (-1), .int 0, .ref q14, .ref q17, .null, .null, .null, .null]))], u2, u5, u8, u11, u15, u18, u21] H := hB
  refine va_putF (D := G.1) (ci := 4) (v := .ref q20) (ty := .object "ProofPacker$IntList") (C := RTL) (T := TTL) (N := 14) hx hb hts inTL tyTL tokTL nmTL hown hK hB.1 hB.2 hS 0 rfl rfl 10 (by decide) (hts _ fl_TL_52) (fun _ h9 => h9) rfl hin rfl (by decide +kernel) rfl rfl (Nat.le_of_ble_eq_true rfl) d_TL_init_98 (fun H locs hP hD hS => ?_)
  have hB : bk G.1 vwCl A [[(h0, .inr (4, [.ref bS, .ref bR, .ref q1, .ref q4, .ref q7, .ref q10, .int (-1), .int 0, .ref q14, .ref q17, .ref q20, .null, .null, .null]))], u2, u5, u8, u11, u15, u18, u21] H := ⟨hP, hD⟩
  refine lv_aload_n hx hb d_TL_init_101 rfl (lv_at hl 0 rfl) ?_
  refine va_new (ci := 0) (fs := [.null, .int 0]) (C := RIL) (T := TIL) (N := 2) hx hb hts inIL tyIL tokIL hown (hts _ cl_TL_19) (hts _ ist_IL) (hts _ ini_IL) hK hB.1 hB.2 hS hA rfl (fun j hj => by rcases (show j = 0 ∨ j = 1 by omega) with rfl | rfl <;> rfl) (Nat.le_of_ble_eq_true rfl) (Nat.le_of_ble_eq_true rfl) d_TL_init_102 (fun q23 H hP hD hS => ?_)
  have hB : bk G.1 vwCl A [[(h0, .inr (4, [.ref bS, .ref bR, .ref q1, .ref q4, .ref q7, .ref q10, .int (-1), .int 0, .ref q14, .ref q17, .ref q20, .null, .null, .null]))], u2, u5, u8, u11, u15, u18, u21, [(q23, .inr (0, [.null, .int 0]))]] H := bk_push ⟨hP, hD⟩
  refine W.widen (k := 129) (n := 129) (by decide) (by decide) ?_
  refine lv_dup hx hb d_TL_init_105 rfl ?_
  refine wrI (G := G) (k := 8) (As := []) (rest := [.ref q23, .ref h0]) (kc := 129) (K := 16) (rem := 36) (Kt := 181) ⟨hx, hb, hml, hown, hts⟩ (c_IL_init l G q23 _ _ (bk_gP (k := 8) hB.1 rfl) (bk_own (k := 8) hB rfl) rfl) (cwI 0 hts (gd_c k_IL_init) rfl rmK_c rmK_s (hts _ ini_IL) (hts _ ml_TL_21) (hts _ im_IL_init) rfl (by decide +kernel) ⟨Nat.le_of_ble_eq_true rfl, Nat.le_of_ble_eq_true rfl⟩) hK hS hA hB rfl rfl ⟨rfl, rfl⟩ rfl hl.1 (Nat.le_of_ble_eq_true rfl) d_TL_init_106 (fun u24 H locs kc hu25 hB hS hk => ?_)
  obtain rfl : kc = 145 := by omega
  have hB : bk G.1 vwCl A [[(h0, .inr (4, [.ref bS, .ref bR, .ref q1, .ref q4, .ref q7, .ref q10, .int (-1), .int 0, .ref q14, .ref q17, .ref q20, .null, .null, .null]))], u2, u5, u8, u11, u15, u18, u21, u24] H := hB
  refine va_putF (D := G.1) (ci := 4) (v := .ref q23) (ty := .object "ProofPacker$IntList") (C := RTL) (T := TTL) (N := 14) hx hb hts inTL tyTL tokTL nmTL hown hK hB.1 hB.2 hS 0 rfl rfl 11 (by decide) (hts _ fl_TL_55) (fun _ h9 => h9) rfl hin rfl (by decide +kernel) rfl rfl (Nat.le_of_ble_eq_true rfl) d_TL_init_109 (fun H locs hP hD hS => ?_)
  have hB : bk G.1 vwCl A [[(h0, .inr (4, [.ref bS, .ref bR, .ref q1, .ref q4, .ref q7, .ref q10, .int (-1), .int 0, .ref q14, .ref q17, .ref q20, .ref q23, .null, .null]))], u2, u5, u8, u11, u15, u18, u21, u24] H := ⟨hP, hD⟩
  refine lv_aload_n hx hb d_TL_init_112 rfl (lv_at hl 0 rfl) ?_
  refine va_new (ci := 0) (fs := [.null, .int 0]) (C := RIL) (T := TIL) (N := 2) hx hb hts inIL tyIL tokIL hown (hts _ cl_TL_19) (hts _ ist_IL) (hts _ ini_IL) hK hB.1 hB.2 hS hA rfl (fun j hj => by rcases (show j = 0 ∨ j = 1 by omega) with rfl | rfl <;> rfl) (Nat.le_of_ble_eq_true rfl) (Nat.le_of_ble_eq_true rfl) d_TL_init_113 (fun q26 H hP hD hS => ?_)
  have hB : bk G.1 vwCl A [[(h0, .inr (4, [.ref bS, .ref bR, .ref q1, .ref q4, .ref q7, .ref q10, .int (-1), .int 0, .ref q14, .ref q17, .ref q20, .ref q23, .null, .null]))], u2, u5, u8, u11, u15, u18, u21, u24, [(q26, .inr (0, [.null, .int 0]))]] H := bk_push ⟨hP, hD⟩
  refine W.widen (k := 147) (n := 147) (by decide) (by decide) ?_
  refine lv_dup hx hb d_TL_init_116 rfl ?_
  refine wrI (G := G) (k := 9) (As := []) (rest := [.ref q26, .ref h0]) (kc := 147) (K := 16) (rem := 18) (Kt := 181) ⟨hx, hb, hml, hown, hts⟩ (c_IL_init l G q26 _ _ (bk_gP (k := 9) hB.1 rfl) (bk_own (k := 9) hB rfl) rfl) (cwI 0 hts (gd_c k_IL_init) rfl rmK_c rmK_s (hts _ ini_IL) (hts _ ml_TL_21) (hts _ im_IL_init) rfl (by decide +kernel) ⟨Nat.le_of_ble_eq_true rfl, Nat.le_of_ble_eq_true rfl⟩) hK hS hA hB rfl rfl ⟨rfl, rfl⟩ rfl hl.1 (Nat.le_of_ble_eq_true rfl) d_TL_init_117 (fun u27 H locs kc hu28 hB hS hk => ?_)
  obtain rfl : kc = 163 := by omega
  have hB : bk G.1 vwCl A [[(h0, .inr (4, [.ref bS, .ref bR, .ref q1, .ref q4, .ref q7, .ref q10, .int (-1), .int 0, .ref q14, .ref q17, .ref q20, .ref q23, .null, .null]))], u2, u5, u8, u11, u15, u18, u21, u24, u27] H := hB
  refine va_putF (D := G.1) (ci := 4) (v := .ref q26) (ty := .object "ProofPacker$IntList") (C := RTL) (T := TTL) (N := 14) hx hb hts inTL tyTL tokTL nmTL hown hK hB.1 hB.2 hS 0 rfl rfl 12 (by decide) (hts _ fl_TL_58) (fun _ h9 => h9) rfl hin rfl (by decide +kernel) rfl rfl (Nat.le_of_ble_eq_true rfl) d_TL_init_120 (fun H locs hP hD hS => ?_)
  have hB : bk G.1 vwCl A [[(h0, .inr (4, [.ref bS, .ref bR, .ref q1, .ref q4, .ref q7, .ref q10, .int (-1), .int 0, .ref q14, .ref q17, .ref q20, .ref q23, .ref q26, .null]))], u2, u5, u8, u11, u15, u18, u21, u24, u27] H := ⟨hP, hD⟩
  refine lv_aload_n hx hb d_TL_init_123 rfl (lv_at hl 0 rfl) ?_
  refine va_new (ci := 0) (fs := [.null, .int 0]) (C := RIL) (T := TIL) (N := 2) hx hb hts inIL tyIL tokIL hown (hts _ cl_TL_19) (hts _ ist_IL) (hts _ ini_IL) hK hB.1 hB.2 hS hA rfl (fun j hj => by rcases (show j = 0 ∨ j = 1 by omega) with rfl | rfl <;> rfl) (Nat.le_of_ble_eq_true rfl) (Nat.le_of_ble_eq_true rfl) d_TL_init_124 (fun q29 H hP hD hS => ?_)
  have hB : bk G.1 vwCl A [[(h0, .inr (4, [.ref bS, .ref bR, .ref q1, .ref q4, .ref q7, .ref q10, .int (-1), .int 0, .ref q14, .ref q17, .ref q20, .ref q23, .ref q26, .null]))], u2, u5, u8, u11, u15, u18, u21, u24, u27, [(q29, .inr (0, [.null, .int 0]))]] H := bk_push ⟨hP, hD⟩
  refine W.widen (k := 165) (n := 165) (by decide) (by decide) ?_
  refine lv_dup hx hb d_TL_init_127 rfl ?_
  refine wrI (G := G) (k := 10) (As := []) (rest := [.ref q29, .ref h0]) (kc := 165) (K := 16) (rem := 0) (Kt := 181) ⟨hx, hb, hml, hown, hts⟩ (c_IL_init l G q29 _ _ (bk_gP (k := 10) hB.1 rfl) (bk_own (k := 10) hB rfl) rfl) (cwI 0 hts (gd_c k_IL_init) rfl rmK_c rmK_s (hts _ ini_IL) (hts _ ml_TL_21) (hts _ im_IL_init) rfl (by decide +kernel) ⟨Nat.le_of_ble_eq_true rfl, Nat.le_of_ble_eq_true rfl⟩) hK hS hA hB rfl rfl ⟨rfl, rfl⟩ rfl hl.1 (Nat.le_of_ble_eq_true rfl) d_TL_init_128 (fun u30 H locs kc hu31 hB hS hk => ?_)
  obtain rfl : kc = 181 := by omega
  have hB : bk G.1 vwCl A [[(h0, .inr (4, [.ref bS, .ref bR, .ref q1, .ref q4, .ref q7, .ref q10, .int (-1), .int 0, .ref q14, .ref q17, .ref q20, .ref q23, .ref q26, .null]))], u2, u5, u8, u11, u15, u18, u21, u24, u27, u30] H := hB
  refine va_putF (D := G.1) (ci := 4) (v := .ref q29) (ty := .object "ProofPacker$IntList") (C := RTL) (T := TTL) (N := 14) hx hb hts inTL tyTL tokTL nmTL hown hK hB.1 hB.2 hS 0 rfl rfl 13 (by decide) (hts _ fl_TL_61) (fun _ h9 => h9) rfl hin rfl (by decide +kernel) rfl rfl (Nat.le_of_ble_eq_true rfl) d_TL_init_131 (fun H locs hP hD hS => ?_)
  have hB : bk G.1 vwCl A [[(h0, .inr (4, [.ref bS, .ref bR, .ref q1, .ref q4, .ref q7, .ref q10, .int (-1), .int 0, .ref q14, .ref q17, .ref q20, .ref q23, .ref q26, .ref q29]))], u2, u5, u8, u11, u15, u18, u21, u24, u27, u30] H := ⟨hP, hD⟩
  exact W.vret hx hb hr (fun t ht hW => ⟨⟨[[(h0, .inr (4, [.ref bS, .ref bR, .ref q1, .ref q4, .ref q7, .ref q10, .int (-1), .int 0, .ref q14, .ref q17, .ref q20, .ref q23, .ref q26, .ref q29]))], u2, u5, u8, u11, u15, u18, u21, u24, u27, u30].flatten, rfl, ⟨(fun i => [q1, q4, q7, q10, q14, q17, q20, q23, q26, q29].getD i 0), ad13, u2, u5, u8, u11, u15, u18, u21, u24, u27, u30, rfl, hu3, hu6, hu9, hu12, hu16, hu19, hu22, hu25, hu28, hu31⟩, by rw [ht]; exact hB.1, hB.2⟩, hS.F ht⟩) hS.2.2 d_TL_init_134

def iPP : tPP := (iST, iRW, iTL, ([], 16), 0)
set_option maxHeartbeats 4000000 in
set_option maxRecDepth 100000 in
theorem c_PP_init (l : Launch) (G : pG) (h0 : Nat) (H : Heap) (w : va_W) (hP0 : va_P G.1 vwCl w H) (hD0 : va_D (fun _ => True) w) (hσ : w = [(h0, .inr (5, [.null, .null, .null, .null, .int 0]))]) : MWv l y_PP_init w_PP_init 4 123 915 G [.ref h0] H w (fun u => ∃ (ad : Nat → Nat) (adS : Nat → Nat) (adR : Nat → Nat) (adT : Nat → Nat) (adL : Nat → Nat), pPP G h0 ad adS adR adT adL iPP u) := by
  refine Met.ofW (cc := b_PP_init) (maxL := 1) (ret := none) (by decide) rfl ?_
  intro p e s m args below meth c s₁ B hml hv
  obtain ⟨rfl, rfl, hK⟩ := hv
  have hx := B.exec
  have hb := B.bytes
  have hr := B.returns
  have hts0 := atoms_spec (ws := w_PP_init) B.pre
  have hts := fun w (h : w ∈ lw_g) => hts0 w (List.mem_cons_of_mem _ h)
  have hown : s.vm.findClass RPP = some m.cls := findClass_of_methodNamed B.named
  have hlocks := B.notSynchronized
  have hA : ∀ q : Nat, s.heap.size ≤ q → va_A w s.heap.size q := fun _ h => Or.inr h
  have hB : bk G.1 vwCl (va_A w s.heap.size) [w] s.heap := bk_init hP0 hD0
  generalize va_A w s.heap.size = A at *
  have hS : va_S A s.heap s.heap [] := va_S.rf
  subst hσ
  have hB : bk G.1 vwCl A [[(h0, .inr (5, [.null, .null, .null, .null, .int 0]))]] s.heap := hB
  have hin : meth.name = "<init>" := (name_of_methodNamed B.named B.method).1
  have hl := lv_entry ([.ref h0]) (n := 1) (Nat.le_of_ble_eq_true rfl)
  rw [lg_entry_eq]
  generalize (lg_sl ([.ref h0]) ++ List.replicate (1 - (lg_sl ([.ref h0])).length) Slot.unset).toArray = ls at hl ⊢
  have hl : lv_has ls 1 [(0, .ref h0)] := hl
  refine lv_aload_n hx hb d_PP_init_0 rfl (lv_at hl 0 rfl) ?_
  refine W.objInit hx hb hown (hts _ ml_PP_1) (hts _ im_obj_init) (hts _ k_obj_init) rfl (by rw [hml]; exact hl.1) rfl d_PP_init_1 (Nat.le_of_ble_eq_true rfl) (Nat.le_of_ble_eq_true rfl) ?_
  refine W.eq (g2 := F0 m 4 ls []) rfl ?_
  refine lv_aload_n hx hb d_PP_init_4 rfl (lv_at hl 0 rfl) ?_
  refine va_new (ci := 3) (fs := [.null, .null, .int 0]) (C := RST) (T := TST) (N := 3) hx hb hts inST tyST tokST hown (hts _ cl_PP_7) (hts _ ist_ST) (hts _ ini_ST) hK hB.1 hB.2 hS hA rfl (fun j hj => by rcases (show j = 0 ∨ j = 1 ∨ j = 2 by omega) with rfl | rfl | rfl <;> rfl) (Nat.le_of_ble_eq_true rfl) (Nat.le_of_ble_eq_true rfl) d_PP_init_5 (fun q1 H hP hD hS => ?_)
  have hB : bk G.1 vwCl A [[(h0, .inr (5, [.null, .null, .null, .null, .int 0]))], [(q1, .inr (3, [.null, .null, .int 0]))]] H := bk_push ⟨hP, hD⟩
  refine W.widen (k := 3) (n := 3) (by decide) (by decide) ?_
  refine lv_dup hx hb d_PP_init_8 rfl ?_
  refine wrI (G := G) (k := 1) (As := []) (rest := [.ref q1, .ref h0]) (kc := 3) (K := 36) (rem := 876) (Kt := 915) ⟨hx, hb, hml, hown, hts⟩ (c_ST_init l G q1 _ _ (bk_gP (k := 1) hB.1 rfl) (bk_own (k := 1) hB rfl) rfl) (cwI 0 hts (gd_c k_ST_init) rfl rmK_c rmK_s (hts _ ini_ST) (hts _ ml_PP_9) (hts _ im_ST_init) rfl (by decide +kernel) ⟨Nat.le_of_ble_eq_true rfl, Nat.le_of_ble_eq_true rfl⟩) hK hS hA hB rfl rfl ⟨rfl, rfl⟩ rfl hl.1 (Nat.le_of_ble_eq_true rfl) d_PP_init_9 (fun u2 H locs kc hu3 hB hS hk => ?_)
  obtain rfl : kc = 39 := by omega
  obtain ⟨ad4, hu3⟩ := hu3
  have hB : bk G.1 vwCl A [[(h0, .inr (5, [.null, .null, .null, .null, .int 0]))], u2] H := hB
  refine va_putF (D := G.1) (ci := 5) (v := .ref q1) (ty := .object "ProofPacker$Statements") (C := RPP) (T := TPP) (N := 5) hx hb hts inPP tyPP tokPP nmPP hown hK hB.1 hB.2 hS 0 rfl rfl 0 (by decide) (hts _ fl_PP_10) (fun _ h9 => h9) rfl hin rfl (by decide +kernel) rfl rfl (Nat.le_of_ble_eq_true rfl) d_PP_init_12 (fun H locs hP hD hS => ?_)
  have hB : bk G.1 vwCl A [[(h0, .inr (5, [.ref q1, .null, .null, .null, .int 0]))], u2] H := ⟨hP, hD⟩
  refine lv_aload_n hx hb d_PP_init_15 rfl (lv_at hl 0 rfl) ?_
  refine va_new (ci := 2) (fs := [.null, .null, .null, .null, .null, .null, .null, .null, .null]) (C := RRW) (T := TRW) (N := 9) hx hb hts inRW tyRW tokRW hown (hts _ cl_PP_16) (hts _ ist_RW) (hts _ ini_RW) hK hB.1 hB.2 hS hA rfl (fun j hj => by rcases (show j = 0 ∨ j = 1 ∨ j = 2 ∨ j = 3 ∨ j = 4 ∨ j = 5 ∨ j = 6 ∨ j = 7 ∨ j = 8 by omega) with rfl | rfl | rfl | rfl | rfl | rfl | rfl | rfl | rfl <;> rfl) (Nat.le_of_ble_eq_true rfl) (Nat.le_of_ble_eq_true rfl) d_PP_init_16 (fun q5 H hP hD hS => ?_)
  have hB : bk G.1 vwCl A [[(h0, .inr (5, [.ref q1, .null, .null, .null, .int 0]))], u2, [(q5, .inr (2, [.null, .null, .null, .null, .null, .null, .null, .null, .null]))]] H := bk_push ⟨hP, hD⟩
  refine W.widen (k := 48) (n := 48) (by decide) (by decide) ?_
  refine lv_dup hx hb d_PP_init_19 rfl ?_
  refine wrI (G := G) (k := 2) (As := []) (rest := [.ref q5, .ref h0]) (kc := 48) (K := 654) (rem := 213) (Kt := 915) ⟨hx, hb, hml, hown, hts⟩ (c_RW_init l G q5 _ _ (bk_gP (k := 2) hB.1 rfl) (bk_own (k := 2) hB rfl) rfl) (cwI 0 hts (gd_c k_RW_init) rfl rmK_c rmK_s (hts _ ini_RW) (hts _ ml_PP_18) (hts _ im_RW_init) rfl (by decide +kernel) ⟨Nat.le_of_ble_eq_true rfl, Nat.le_of_ble_eq_true rfl⟩) hK hS hA hB rfl rfl ⟨rfl, rfl⟩ rfl hl.1 (Nat.le_of_ble_eq_true rfl) d_PP_init_20 (fun u6 H locs kc hu7 hB hS hk => ?_)
  obtain rfl : kc = 702 := by omega
  obtain ⟨ad8, hu7⟩ := hu7
  have hB : bk G.1 vwCl A [[(h0, .inr (5, [.ref q1, .null, .null, .null, .int 0]))], u2, u6] H := hB
  refine va_putF (D := G.1) (ci := 5) (v := .ref q5) (ty := .object "ProofPacker$Rows") (C := RPP) (T := TPP) (N := 5) hx hb hts inPP tyPP tokPP nmPP hown hK hB.1 hB.2 hS 0 rfl rfl 1 (by decide) (hts _ fl_PP_19) (fun _ h9 => h9) rfl hin rfl (by decide +kernel) rfl rfl (Nat.le_of_ble_eq_true rfl) d_PP_init_23 (fun H locs hP hD hS => ?_)
  have hB : bk G.1 vwCl A [[(h0, .inr (5, [.ref q1, .ref q5, .null, .null, .int 0]))], u2, u6] H := ⟨hP, hD⟩
  refine lv_aload_n hx hb d_PP_init_26 rfl (lv_at hl 0 rfl) ?_
  refine va_new (ci := 4) (fs := [.null, .null, .null, .null, .null, .null, .int 0, .int 0, .null, .null, .null, .null, .null, .null]) (C := RTL) (T := TTL) (N := 14) hx hb hts inTL tyTL tokTL hown (hts _ cl_PP_23) (hts _ ist_TL) (hts _ ini_TL) hK hB.1 hB.2 hS hA rfl (fun j hj => by rcases (show j = 0 ∨ j = 1 ∨ j = 2 ∨ j = 3 ∨ j = 4 ∨ j = 5 ∨ j = 6 ∨ j = 7 ∨ j = 8 ∨ j = 9 ∨ j = 10 ∨ j = 11 ∨ j = 12 ∨ j = 13 by omega) with rfl | rfl | rfl | rfl | rfl | rfl | rfl | rfl | rfl | rfl | rfl | rfl | rfl | rfl <;> rfl) (Nat.le_of_ble_eq_true rfl) (Nat.le_of_ble_eq_true rfl) d_PP_init_27 (fun q9 H hP hD hS => ?_)
  have hB : bk G.1 vwCl A [[(h0, .inr (5, [.ref q1, .ref q5, .null, .null, .int 0]))], u2, u6, [(q9, .inr (4, [.null, .null, .null, .null, .null, .null, .int 0, .int 0, .null, .null, .null, .null, .null, .null]))]] H := bk_push ⟨hP, hD⟩
  refine W.widen (k := 716) (n := 716) (by decide) (by decide) ?_
  refine lv_dup hx hb d_PP_init_30 rfl ?_
  refine lv_aload_n hx hb d_PP_init_31 rfl (lv_at hl 0 rfl) ?_
  refine va_get (D := G.1) (ci := 5) (v := .ref q1) (C := RPP) (T := TPP) (N := 5) hx hb hts inPP hown hK hB.1 0 rfl rfl 0 (by decide) (hts _ fl_PP_10) (fun _ h9 => h9) rfl d_PP_init_32 ?_
  refine lv_aload_n hx hb d_PP_init_35 rfl (lv_at hl 0 rfl) ?_
  refine va_get (D := G.1) (ci := 5) (v := .ref q5) (C := RPP) (T := TPP) (N := 5) hx hb hts inPP hown hK hB.1 0 rfl rfl 1 (by decide) (hts _ fl_PP_19) (fun _ h9 => h9) rfl d_PP_init_36 ?_
  refine wrI (G := G) (k := 3) (As := [.ref q1, .ref q5]) (rest := [.ref q9, .ref h0]) (kc := 716) (K := 181) (rem := 18) (Kt := 915) ⟨hx, hb, hml, hown, hts⟩ (c_TL_init l G q9 q1 q5 _ _ (bk_gP (k := 3) hB.1 rfl) (bk_own (k := 3) hB rfl) rfl) (cwI 2 hts (gd_c k_TL_init) rfl rmK_c rmK_s (hts _ ini_TL) (hts _ ml_PP_25) (hts _ im_TL_init) rfl (by decide +kernel) ⟨Nat.le_of_ble_eq_true rfl, Nat.le_of_ble_eq_true rfl⟩) hK hS hA hB rfl rfl ⟨rfl, rfl⟩ rfl hl.1 (Nat.le_of_ble_eq_true rfl) d_PP_init_39 (fun u10 H locs kc hu11 hB hS hk => ?_)
  obtain rfl : kc = 897 := by omega
  obtain ⟨ad12, ad13, hu11⟩ := hu11
  have hB : bk G.1 vwCl A [[(h0, .inr (5, [.ref q1, .ref q5, .null, .null, .int 0]))], u2, u6, u10] H := hB
  refine va_putF (D := G.1) (ci := 5) (v := .ref q9) (ty := .object "ProofPacker$Telling") (C := RPP) (T := TPP) (N := 5) hx hb hts inPP tyPP tokPP nmPP hown hK hB.1 hB.2 hS 0 rfl rfl 2 (by decide) (hts _ fl_PP_28) (fun _ h9 => h9) rfl hin rfl (by decide +kernel) rfl rfl (Nat.le_of_ble_eq_true rfl) d_PP_init_42 (fun H locs hP hD hS => ?_)
  have hB : bk G.1 vwCl A [[(h0, .inr (5, [.ref q1, .ref q5, .ref q9, .null, .int 0]))], u2, u6, u10] H := ⟨hP, hD⟩
  refine lv_aload_n hx hb d_PP_init_45 rfl (lv_at hl 0 rfl) ?_
  refine va_new (ci := 0) (fs := [.null, .int 0]) (C := RIL) (T := TIL) (N := 2) hx hb hts inIL tyIL tokIL hown (hts _ cl_PP_32) (hts _ ist_IL) (hts _ ini_IL) hK hB.1 hB.2 hS hA rfl (fun j hj => by rcases (show j = 0 ∨ j = 1 by omega) with rfl | rfl <;> rfl) (Nat.le_of_ble_eq_true rfl) (Nat.le_of_ble_eq_true rfl) d_PP_init_46 (fun q14 H hP hD hS => ?_)
  have hB : bk G.1 vwCl A [[(h0, .inr (5, [.ref q1, .ref q5, .ref q9, .null, .int 0]))], u2, u6, u10, [(q14, .inr (0, [.null, .int 0]))]] H := bk_push ⟨hP, hD⟩
  refine W.widen (k := 899) (n := 899) (by decide) (by decide) ?_
  refine lv_dup hx hb d_PP_init_49 rfl ?_
  refine wrI (G := G) (k := 4) (As := []) (rest := [.ref q14, .ref h0]) (kc := 899) (K := 16) (rem := 0) (Kt := 915) ⟨hx, hb, hml, hown, hts⟩ (c_IL_init l G q14 _ _ (bk_gP (k := 4) hB.1 rfl) (bk_own (k := 4) hB rfl) rfl) (cwI 0 hts (gd_c k_IL_init) rfl rmK_c rmK_s (hts _ ini_IL) (hts _ ml_PP_34) (hts _ im_IL_init) rfl (by decide +kernel) ⟨Nat.le_of_ble_eq_true rfl, Nat.le_of_ble_eq_true rfl⟩) hK hS hA hB rfl rfl ⟨rfl, rfl⟩ rfl hl.1 (Nat.le_of_ble_eq_true rfl) d_PP_init_50 (fun u15 H locs kc hu16 hB hS hk => ?_)
  obtain rfl : kc = 915 := by omega
  have hB : bk G.1 vwCl A [[(h0, .inr (5, [.ref q1, .ref q5, .ref q9, .null, .int 0]))], u2, u6, u10, u15] H := hB
  refine va_putF (D := G.1) (ci := 5) (v := .ref q14) (ty := .object "ProofPacker$IntList") (C := RPP) (T := TPP) (N := 5) hx hb hts inPP tyPP tokPP nmPP hown hK hB.1 hB.2 hS 0 rfl rfl 3 (by decide) (hts _ fl_PP_35) (fun _ h9 => h9) rfl hin rfl (by decide +kernel) rfl rfl (Nat.le_of_ble_eq_true rfl) d_PP_init_53 (fun H locs hP hD hS => ?_)
  have hB : bk G.1 vwCl A [[(h0, .inr (5, [.ref q1, .ref q5, .ref q9, .ref q14, .int 0]))], u2, u6, u10, u15] H := ⟨hP, hD⟩
  refine lv_aload_n hx hb d_PP_init_56 rfl (lv_at hl 0 rfl) ?_
  refine lv_iconst (v := 0) hx hb d_PP_init_57 (by decide) ?_
  refine va_put (D := G.1) (ci := 5) (v := .int 0) (ty := .int) (C := RPP) (T := TPP) (N := 5) hx hb hts inPP tyPP tokPP nmPP hown hK hB.1 hB.2 hS 0 rfl rfl 4 (by decide) (hts _ fl_PP_39) (fun _ h9 => h9) rfl (by decide +kernel) rfl rfl (Nat.le_of_ble_eq_true rfl) d_PP_init_58 (fun H locs hP hD hS => ?_)
  have hB : bk G.1 vwCl A [[(h0, .inr (5, [.ref q1, .ref q5, .ref q9, .ref q14, .int 0]))], u2, u6, u10, u15] H := ⟨hP, hD⟩
  exact W.vret hx hb hr (fun t ht hW => ⟨⟨[[(h0, .inr (5, [.ref q1, .ref q5, .ref q9, .ref q14, .int 0]))], u2, u6, u10, u15].flatten, rfl, ⟨(fun i => [q1, q5, q9, q14].getD i 0), ad4, ad8, ad12, ad13, u2, u6, u10, u15, rfl, hu3, hu7, hu11, hu16⟩, by rw [ht]; exact hB.1, hB.2⟩, hS.F ht⟩) hS.2.2 d_PP_init_61
end
