-- ===== PART A: goes FIRST, ahead of the names: the tables' words, and 'selects' of the private methods out of them =====
/-- a private method of a class that the tables say can be made, by its rows of tables_1 -/
def lw_okq (q : MethodName × Nat) : Prop := (q.1.cls ≠ "java/lang/invoke/MethodHandle" ∧ q.1.cls ≠ "java/lang/invoke/VarHandle") ∧ Cond.instantiable q.1.cls q.2 ∈ tables_1 ∧ Cond.privateMethod q.1 ∈ tables_1 ∧ Cond.instanceMethod q.1 ∈ tables_1
theorem lw_p0 : lw_okq (⟨"ProofPacker", "mayPutOn", "(I)Z"⟩, 5) := ⟨⟨by decide +kernel, by decide +kernel⟩, List.mem_of_getElem? (i := 12) (by decide +kernel), List.mem_of_getElem? (i := 250) (by decide +kernel), List.mem_of_getElem? (i := 251) (by decide +kernel)⟩
theorem lw_p1 : lw_okq (⟨"ProofPacker$Rows", "kindOfNewRow", "(II)I"⟩, 9) := ⟨⟨by decide +kernel, by decide +kernel⟩, List.mem_of_getElem? (i := 50) (by decide +kernel), List.mem_of_getElem? (i := 264) (by decide +kernel), List.mem_of_getElem? (i := 265) (by decide +kernel)⟩
theorem lw_p2 : lw_okq (⟨"ProofPacker$Rows", "bucketOf", "(ILProofPacker$IntList;I)I"⟩, 9) := ⟨⟨by decide +kernel, by decide +kernel⟩, List.mem_of_getElem? (i := 50) (by decide +kernel), List.mem_of_getElem? (i := 276) (by decide +kernel), List.mem_of_getElem? (i := 277) (by decide +kernel)⟩
theorem lw_p3 : lw_okq (⟨"ProofPacker$Rows", "isMadeOf", "(IILProofPacker$IntList;I)Z"⟩, 9) := ⟨⟨by decide +kernel, by decide +kernel⟩, List.mem_of_getElem? (i := 50) (by decide +kernel), List.mem_of_getElem? (i := 284) (by decide +kernel), List.mem_of_getElem? (i := 285) (by decide +kernel)⟩
theorem lw_p4 : lw_okq (⟨"ProofPacker$Rows", "countSteps", "(I)J"⟩, 9) := ⟨⟨by decide +kernel, by decide +kernel⟩, List.mem_of_getElem? (i := 50) (by decide +kernel), List.mem_of_getElem? (i := 288) (by decide +kernel), List.mem_of_getElem? (i := 289) (by decide +kernel)⟩
theorem lw_p5 : lw_okq (⟨"ProofPacker$Rows", "keepSteps", "(IJ)V"⟩, 9) := ⟨⟨by decide +kernel, by decide +kernel⟩, List.mem_of_getElem? (i := 50) (by decide +kernel), List.mem_of_getElem? (i := 312) (by decide +kernel), List.mem_of_getElem? (i := 313) (by decide +kernel)⟩
theorem lw_p6 : lw_okq (⟨"ProofPacker", "putOn", "(I)V"⟩, 5) := ⟨⟨by decide +kernel, by decide +kernel⟩, List.mem_of_getElem? (i := 12) (by decide +kernel), List.mem_of_getElem? (i := 328) (by decide +kernel), List.mem_of_getElem? (i := 329) (by decide +kernel)⟩
theorem lw_p7 : lw_okq (⟨"ProofPacker$Telling", "tellSteps", "()V"⟩, 14) := ⟨⟨by decide +kernel, by decide +kernel⟩, List.mem_of_getElem? (i := 110) (by decide +kernel), List.mem_of_getElem? (i := 387) (by decide +kernel), List.mem_of_getElem? (i := 388) (by decide +kernel)⟩
theorem lw_p8 : lw_okq (⟨"ProofPacker$Telling", "open", "(I)V"⟩, 14) := ⟨⟨by decide +kernel, by decide +kernel⟩, List.mem_of_getElem? (i := 110) (by decide +kernel), List.mem_of_getElem? (i := 397) (by decide +kernel), List.mem_of_getElem? (i := 398) (by decide +kernel)⟩
theorem lw_p9 : lw_okq (⟨"ProofPacker$Telling", "tellPart", "(I)V"⟩, 14) := ⟨⟨by decide +kernel, by decide +kernel⟩, List.mem_of_getElem? (i := 110) (by decide +kernel), List.mem_of_getElem? (i := 408) (by decide +kernel), List.mem_of_getElem? (i := 409) (by decide +kernel)⟩
theorem lw_p10 : lw_okq (⟨"ProofPacker$Telling", "addStep", "(I)V"⟩, 14) := ⟨⟨by decide +kernel, by decide +kernel⟩, List.mem_of_getElem? (i := 110) (by decide +kernel), List.mem_of_getElem? (i := 413) (by decide +kernel), List.mem_of_getElem? (i := 414) (by decide +kernel)⟩
theorem lw_p11 : lw_okq (⟨"ProofPacker$Telling", "numberSavedRows", "()V"⟩, 14) := ⟨⟨by decide +kernel, by decide +kernel⟩, List.mem_of_getElem? (i := 110) (by decide +kernel), List.mem_of_getElem? (i := 418) (by decide +kernel), List.mem_of_getElem? (i := 419) (by decide +kernel)⟩
theorem lw_p12 : lw_okq (⟨"ProofPacker$Telling", "numberStatements", "()V"⟩, 14) := ⟨⟨by decide +kernel, by decide +kernel⟩, List.mem_of_getElem? (i := 110) (by decide +kernel), List.mem_of_getElem? (i := 426) (by decide +kernel), List.mem_of_getElem? (i := 427) (by decide +kernel)⟩
theorem lw_p13 : lw_okq (⟨"ProofPacker$Telling", "numberOfNew", "(I)I"⟩, 14) := ⟨⟨by decide +kernel, by decide +kernel⟩, List.mem_of_getElem? (i := 110) (by decide +kernel), List.mem_of_getElem? (i := 431) (by decide +kernel), List.mem_of_getElem? (i := 432) (by decide +kernel)⟩
theorem lw_p14 : lw_okq (⟨"ProofPacker$Telling", "tellLetters", "()V"⟩, 14) := ⟨⟨by decide +kernel, by decide +kernel⟩, List.mem_of_getElem? (i := 110) (by decide +kernel), List.mem_of_getElem? (i := 441) (by decide +kernel), List.mem_of_getElem? (i := 442) (by decide +kernel)⟩
theorem lw_p15 : lw_okq (⟨"ProofPacker$Telling", "rowsTakenAt", "(I)I"⟩, 14) := ⟨⟨by decide +kernel, by decide +kernel⟩, List.mem_of_getElem? (i := 110) (by decide +kernel), List.mem_of_getElem? (i := 544) (by decide +kernel), List.mem_of_getElem? (i := 545) (by decide +kernel)⟩
def lw_privs_1 : List (MethodName × Nat) := [(⟨"ProofPacker", "mayPutOn", "(I)Z"⟩, 5), (⟨"ProofPacker$Rows", "kindOfNewRow", "(II)I"⟩, 9), (⟨"ProofPacker$Rows", "bucketOf", "(ILProofPacker$IntList;I)I"⟩, 9), (⟨"ProofPacker$Rows", "isMadeOf", "(IILProofPacker$IntList;I)Z"⟩, 9), (⟨"ProofPacker$Rows", "countSteps", "(I)J"⟩, 9), (⟨"ProofPacker$Rows", "keepSteps", "(IJ)V"⟩, 9), (⟨"ProofPacker", "putOn", "(I)V"⟩, 5), (⟨"ProofPacker$Telling", "tellSteps", "()V"⟩, 14), (⟨"ProofPacker$Telling", "open", "(I)V"⟩, 14), (⟨"ProofPacker$Telling", "tellPart", "(I)V"⟩, 14), (⟨"ProofPacker$Telling", "addStep", "(I)V"⟩, 14), (⟨"ProofPacker$Telling", "numberSavedRows", "()V"⟩, 14), (⟨"ProofPacker$Telling", "numberStatements", "()V"⟩, 14), (⟨"ProofPacker$Telling", "numberOfNew", "(I)I"⟩, 14), (⟨"ProofPacker$Telling", "tellLetters", "()V"⟩, 14), (⟨"ProofPacker$Telling", "rowsTakenAt", "(I)I"⟩, 14)]
theorem lw_r1 : ∀ q ∈ lw_privs_1, lw_okq q := List.forall_mem_cons.mpr ⟨lw_p0, List.forall_mem_cons.mpr ⟨lw_p1, List.forall_mem_cons.mpr ⟨lw_p2, List.forall_mem_cons.mpr ⟨lw_p3, List.forall_mem_cons.mpr ⟨lw_p4, List.forall_mem_cons.mpr ⟨lw_p5, List.forall_mem_cons.mpr ⟨lw_p6, List.forall_mem_cons.mpr ⟨lw_p7, List.forall_mem_cons.mpr ⟨lw_p8, List.forall_mem_cons.mpr ⟨lw_p9, List.forall_mem_cons.mpr ⟨lw_p10, List.forall_mem_cons.mpr ⟨lw_p11, List.forall_mem_cons.mpr ⟨lw_p12, List.forall_mem_cons.mpr ⟨lw_p13, List.forall_mem_cons.mpr ⟨lw_p14, List.forall_mem_cons.mpr ⟨lw_p15, fun _ h => absurd h List.not_mem_nil⟩⟩⟩⟩⟩⟩⟩⟩⟩⟩⟩⟩⟩⟩⟩⟩
theorem lw_p16 : lw_okq (⟨"ProofPacker$Telling", "kindMadeAt", "(II)I"⟩, 14) := ⟨⟨by decide +kernel, by decide +kernel⟩, List.mem_of_getElem? (i := 110) (by decide +kernel), List.mem_of_getElem? (i := 549) (by decide +kernel), List.mem_of_getElem? (i := 550) (by decide +kernel)⟩
theorem lw_p17 : lw_okq (⟨"ProofPackerModel", "isStatement", "(I)Z"⟩, 28) := ⟨⟨by decide +kernel, by decide +kernel⟩, List.mem_of_getElem? (i := 554) (by decide +kernel), List.mem_of_getElem? (i := 655) (by decide +kernel), List.mem_of_getElem? (i := 656) (by decide +kernel)⟩
theorem lw_p18 : lw_okq (⟨"ProofPackerModel", "mandatoryOf", "(I)I"⟩, 28) := ⟨⟨by decide +kernel, by decide +kernel⟩, List.mem_of_getElem? (i := 554) (by decide +kernel), List.mem_of_getElem? (i := 659) (by decide +kernel), List.mem_of_getElem? (i := 660) (by decide +kernel)⟩
theorem lw_p19 : lw_okq (⟨"ProofPackerModel", "findSame", "(I)V"⟩, 28) := ⟨⟨by decide +kernel, by decide +kernel⟩, List.mem_of_getElem? (i := 554) (by decide +kernel), List.mem_of_getElem? (i := 667) (by decide +kernel), List.mem_of_getElem? (i := 668) (by decide +kernel)⟩
theorem lw_p20 : lw_okq (⟨"ProofPackerModel", "isAlike", "(II)Z"⟩, 28) := ⟨⟨by decide +kernel, by decide +kernel⟩, List.mem_of_getElem? (i := 554) (by decide +kernel), List.mem_of_getElem? (i := 671) (by decide +kernel), List.mem_of_getElem? (i := 672) (by decide +kernel)⟩
theorem lw_p21 : lw_okq (⟨"ProofPackerModel", "findSize", "(I)V"⟩, 28) := ⟨⟨by decide +kernel, by decide +kernel⟩, List.mem_of_getElem? (i := 554) (by decide +kernel), List.mem_of_getElem? (i := 675) (by decide +kernel), List.mem_of_getElem? (i := 676) (by decide +kernel)⟩
theorem lw_p22 : lw_okq (⟨"ProofPackerModel", "isRow", "(I)Z"⟩, 28) := ⟨⟨by decide +kernel, by decide +kernel⟩, List.mem_of_getElem? (i := 554) (by decide +kernel), List.mem_of_getElem? (i := 685) (by decide +kernel), List.mem_of_getElem? (i := 686) (by decide +kernel)⟩
theorem lw_p23 : lw_okq (⟨"ProofPackerModel", "tellAll", "(I)V"⟩, 28) := ⟨⟨by decide +kernel, by decide +kernel⟩, List.mem_of_getElem? (i := 554) (by decide +kernel), List.mem_of_getElem? (i := 713) (by decide +kernel), List.mem_of_getElem? (i := 714) (by decide +kernel)⟩
theorem lw_p24 : lw_okq (⟨"ProofPackerModel", "tell", "(II)V"⟩, 28) := ⟨⟨by decide +kernel, by decide +kernel⟩, List.mem_of_getElem? (i := 554) (by decide +kernel), List.mem_of_getElem? (i := 717) (by decide +kernel), List.mem_of_getElem? (i := 718) (by decide +kernel)⟩
theorem lw_p25 : lw_okq (⟨"ProofPackerModel", "numberSaved", "()V"⟩, 28) := ⟨⟨by decide +kernel, by decide +kernel⟩, List.mem_of_getElem? (i := 554) (by decide +kernel), List.mem_of_getElem? (i := 721) (by decide +kernel), List.mem_of_getElem? (i := 722) (by decide +kernel)⟩
theorem lw_p26 : lw_okq (⟨"ProofPackerModel", "findLabels", "()V"⟩, 28) := ⟨⟨by decide +kernel, by decide +kernel⟩, List.mem_of_getElem? (i := 554) (by decide +kernel), List.mem_of_getElem? (i := 725) (by decide +kernel), List.mem_of_getElem? (i := 726) (by decide +kernel)⟩
theorem lw_p27 : lw_okq (⟨"ProofPackerModel", "labelOf", "(I)I"⟩, 28) := ⟨⟨by decide +kernel, by decide +kernel⟩, List.mem_of_getElem? (i := 554) (by decide +kernel), List.mem_of_getElem? (i := 729) (by decide +kernel), List.mem_of_getElem? (i := 730) (by decide +kernel)⟩
theorem lw_p28 : lw_okq (⟨"ProofPackerModel", "layLetters", "()V"⟩, 28) := ⟨⟨by decide +kernel, by decide +kernel⟩, List.mem_of_getElem? (i := 554) (by decide +kernel), List.mem_of_getElem? (i := 733) (by decide +kernel), List.mem_of_getElem? (i := 734) (by decide +kernel)⟩
theorem lw_p29 : lw_okq (⟨"ProofPackerModel", "layNumber", "(I)V"⟩, 28) := ⟨⟨by decide +kernel, by decide +kernel⟩, List.mem_of_getElem? (i := 554) (by decide +kernel), List.mem_of_getElem? (i := 737) (by decide +kernel), List.mem_of_getElem? (i := 738) (by decide +kernel)⟩
theorem lw_p30 : lw_okq (⟨"ProofPackerModel", "putLetter", "(CI)V"⟩, 28) := ⟨⟨by decide +kernel, by decide +kernel⟩, List.mem_of_getElem? (i := 554) (by decide +kernel), List.mem_of_getElem? (i := 741) (by decide +kernel), List.mem_of_getElem? (i := 742) (by decide +kernel)⟩
def lw_privs_2 : List (MethodName × Nat) := [(⟨"ProofPacker$Telling", "kindMadeAt", "(II)I"⟩, 14), (⟨"ProofPackerModel", "isStatement", "(I)Z"⟩, 28), (⟨"ProofPackerModel", "mandatoryOf", "(I)I"⟩, 28), (⟨"ProofPackerModel", "findSame", "(I)V"⟩, 28), (⟨"ProofPackerModel", "isAlike", "(II)Z"⟩, 28), (⟨"ProofPackerModel", "findSize", "(I)V"⟩, 28), (⟨"ProofPackerModel", "isRow", "(I)Z"⟩, 28), (⟨"ProofPackerModel", "tellAll", "(I)V"⟩, 28), (⟨"ProofPackerModel", "tell", "(II)V"⟩, 28), (⟨"ProofPackerModel", "numberSaved", "()V"⟩, 28), (⟨"ProofPackerModel", "findLabels", "()V"⟩, 28), (⟨"ProofPackerModel", "labelOf", "(I)I"⟩, 28), (⟨"ProofPackerModel", "layLetters", "()V"⟩, 28), (⟨"ProofPackerModel", "layNumber", "(I)V"⟩, 28), (⟨"ProofPackerModel", "putLetter", "(CI)V"⟩, 28)]
theorem lw_r2 : ∀ q ∈ lw_privs_2, lw_okq q := List.forall_mem_cons.mpr ⟨lw_p16, List.forall_mem_cons.mpr ⟨lw_p17, List.forall_mem_cons.mpr ⟨lw_p18, List.forall_mem_cons.mpr ⟨lw_p19, List.forall_mem_cons.mpr ⟨lw_p20, List.forall_mem_cons.mpr ⟨lw_p21, List.forall_mem_cons.mpr ⟨lw_p22, List.forall_mem_cons.mpr ⟨lw_p23, List.forall_mem_cons.mpr ⟨lw_p24, List.forall_mem_cons.mpr ⟨lw_p25, List.forall_mem_cons.mpr ⟨lw_p26, List.forall_mem_cons.mpr ⟨lw_p27, List.forall_mem_cons.mpr ⟨lw_p28, List.forall_mem_cons.mpr ⟨lw_p29, List.forall_mem_cons.mpr ⟨lw_p30, fun _ h => absurd h List.not_mem_nil⟩⟩⟩⟩⟩⟩⟩⟩⟩⟩⟩⟩⟩⟩⟩
def lw_privs : List (MethodName × Nat) := lw_privs_1 ++ (lw_privs_2)
def lw_tbl : List Cond := k2_sels lw_privs ++ tables_1
theorem lw_privs_ok : ∀ q ∈ lw_privs, lw_okq q := by
  show ∀ q ∈ lw_privs_1 ++ (lw_privs_2), lw_okq q
  exact List.forall_mem_append.mpr ⟨lw_r1, lw_r2⟩

def RIL : String := "ProofPacker$IntList"
def RLL : String := "ProofPacker$LetterList"
def RRW : String := "ProofPacker$Rows"
def RST : String := "ProofPacker$Statements"
def RTL : String := "ProofPacker$Telling"
def RPP : String := "ProofPacker"
def RMD : String := "ProofPackerModel"
def RAR : String := "java/util/Arrays"
def RLW : String := "ProofPackerLaw"
def TIL : u_T := fun k => match k with
  | 0 => ("ProofPacker$IntList", "items", "[I", false)
  | _ => ("ProofPacker$IntList", "used", "I", false)
def tyIL : Nat → FieldType := fun k => match k with
  | 0 => .array .int
  | _ => .int
theorem nmIL : ∀ a, a < 2 → ∀ b, b < 2 → a ≠ b → (TIL a).2.1 ≠ (TIL b).2.1 := by decide +kernel
theorem tokIL : ∀ k, k < 2 → parseFieldDescriptor (TIL k).2.2.1 = some (tyIL k) := by decide +kernel
def TLL : u_T := fun k => match k with
  | _ => ("ProofPacker$LetterList", "letters", "LProofPacker$IntList;", true)
def tyLL : Nat → FieldType := fun k => match k with
  | _ => .object "ProofPacker$IntList"
theorem nmLL : ∀ a, a < 1 → ∀ b, b < 1 → a ≠ b → (TLL a).2.1 ≠ (TLL b).2.1 := by decide +kernel
theorem tokLL : ∀ k, k < 1 → parseFieldDescriptor (TLL k).2.2.1 = some (tyLL k) := by decide +kernel
def TRW : u_T := fun k => match k with
  | 0 => ("ProofPacker$Rows", "statements", "LProofPacker$IntList;", true)
  | 1 => ("ProofPacker$Rows", "starts", "LProofPacker$IntList;", true)
  | 2 => ("ProofPacker$Rows", "parts", "LProofPacker$IntList;", true)
  | 3 => ("ProofPacker$Rows", "partKinds", "LProofPacker$IntList;", true)
  | 4 => ("ProofPacker$Rows", "kinds", "LProofPacker$IntList;", true)
  | 5 => ("ProofPacker$Rows", "firstOfKind", "LProofPacker$IntList;", true)
  | 6 => ("ProofPacker$Rows", "olderKind", "LProofPacker$IntList;", true)
  | 7 => ("ProofPacker$Rows", "newestKind", "[I", true)
  | _ => ("ProofPacker$Rows", "steps", "[J", false)
def tyRW : Nat → FieldType := fun k => match k with
  | 0 => .object "ProofPacker$IntList"
  | 1 => .object "ProofPacker$IntList"
  | 2 => .object "ProofPacker$IntList"
  | 3 => .object "ProofPacker$IntList"
  | 4 => .object "ProofPacker$IntList"
  | 5 => .object "ProofPacker$IntList"
  | 6 => .object "ProofPacker$IntList"
  | 7 => .array .int
  | _ => .array .long
theorem nmRW : ∀ a, a < 9 → ∀ b, b < 9 → a ≠ b → (TRW a).2.1 ≠ (TRW b).2.1 := by decide +kernel
theorem tokRW : ∀ k, k < 9 → parseFieldDescriptor (TRW k).2.2.1 = some (tyRW k) := by decide +kernel
def TST : u_T := fun k => match k with
  | 0 => ("ProofPacker$Statements", "takings", "LProofPacker$IntList;", true)
  | 1 => ("ProofPacker$Statements", "places", "LProofPacker$IntList;", true)
  | _ => ("ProofPacker$Statements", "mandatories", "I", false)
def tyST : Nat → FieldType := fun k => match k with
  | 0 => .object "ProofPacker$IntList"
  | 1 => .object "ProofPacker$IntList"
  | _ => .int
theorem nmST : ∀ a, a < 3 → ∀ b, b < 3 → a ≠ b → (TST a).2.1 ≠ (TST b).2.1 := by decide +kernel
theorem tokST : ∀ k, k < 3 → parseFieldDescriptor (TST k).2.2.1 = some (tyST k) := by decide +kernel
def TTL : u_T := fun k => match k with
  | 0 => ("ProofPacker$Telling", "statements", "LProofPacker$Statements;", true)
  | 1 => ("ProofPacker$Telling", "rows", "LProofPacker$Rows;", true)
  | 2 => ("ProofPacker$Telling", "steps", "LProofPacker$IntList;", true)
  | 3 => ("ProofPacker$Telling", "savedAs", "LProofPacker$IntList;", true)
  | 4 => ("ProofPacker$Telling", "labels", "LProofPacker$IntList;", true)
  | 5 => ("ProofPacker$Telling", "letters", "LProofPacker$LetterList;", true)
  | 6 => ("ProofPacker$Telling", "rowTold", "I", false)
  | 7 => ("ProofPacker$Telling", "savedRows", "I", false)
  | 8 => ("ProofPacker$Telling", "openRows", "LProofPacker$IntList;", true)
  | 9 => ("ProofPacker$Telling", "openParts", "LProofPacker$IntList;", true)
  | 10 => ("ProofPacker$Telling", "toldAt", "LProofPacker$IntList;", true)
  | 11 => ("ProofPacker$Telling", "numbers", "LProofPacker$IntList;", true)
  | 12 => ("ProofPacker$Telling", "remade", "LProofPacker$IntList;", true)
  | _ => ("ProofPacker$Telling", "savedKinds", "LProofPacker$IntList;", true)
def tyTL : Nat → FieldType := fun k => match k with
  | 0 => .object "ProofPacker$Statements"
  | 1 => .object "ProofPacker$Rows"
  | 2 => .object "ProofPacker$IntList"
  | 3 => .object "ProofPacker$IntList"
  | 4 => .object "ProofPacker$IntList"
  | 5 => .object "ProofPacker$LetterList"
  | 6 => .int
  | 7 => .int
  | 8 => .object "ProofPacker$IntList"
  | 9 => .object "ProofPacker$IntList"
  | 10 => .object "ProofPacker$IntList"
  | 11 => .object "ProofPacker$IntList"
  | 12 => .object "ProofPacker$IntList"
  | _ => .object "ProofPacker$IntList"
theorem nmTL : ∀ a, a < 14 → ∀ b, b < 14 → a ≠ b → (TTL a).2.1 ≠ (TTL b).2.1 := by decide +kernel
theorem tokTL : ∀ k, k < 14 → parseFieldDescriptor (TTL k).2.2.1 = some (tyTL k) := by decide +kernel
def TPP : u_T := fun k => match k with
  | 0 => ("ProofPacker", "statements", "LProofPacker$Statements;", true)
  | 1 => ("ProofPacker", "rows", "LProofPacker$Rows;", true)
  | 2 => ("ProofPacker", "telling", "LProofPacker$Telling;", true)
  | 3 => ("ProofPacker", "pile", "LProofPacker$IntList;", true)
  | _ => ("ProofPacker", "puts", "I", false)
def tyPP : Nat → FieldType := fun k => match k with
  | 0 => .object "ProofPacker$Statements"
  | 1 => .object "ProofPacker$Rows"
  | 2 => .object "ProofPacker$Telling"
  | 3 => .object "ProofPacker$IntList"
  | _ => .int
theorem nmPP : ∀ a, a < 5 → ∀ b, b < 5 → a ≠ b → (TPP a).2.1 ≠ (TPP b).2.1 := by decide +kernel
theorem tokPP : ∀ k, k < 5 → parseFieldDescriptor (TPP k).2.2.1 = some (tyPP k) := by decide +kernel
def TMD : u_T := fun k => match k with
  | 0 => ("ProofPackerModel", "statements", "I", false)
  | 1 => ("ProofPackerModel", "takes", "[I", true)
  | 2 => ("ProofPackerModel", "mandatories", "[I", true)
  | 3 => ("ProofPackerModel", "mandatoryCount", "I", false)
  | 4 => ("ProofPackerModel", "rows", "I", false)
  | 5 => ("ProofPackerModel", "makers", "[I", true)
  | 6 => ("ProofPackerModel", "fromAt", "[I", true)
  | 7 => ("ProofPackerModel", "firstSame", "[I", true)
  | 8 => ("ProofPackerModel", "sizes", "[J", true)
  | 9 => ("ProofPackerModel", "froms", "[I", true)
  | 10 => ("ProofPackerModel", "fromCount", "I", false)
  | 11 => ("ProofPackerModel", "pile", "[I", true)
  | 12 => ("ProofPackerModel", "piled", "I", false)
  | 13 => ("ProofPackerModel", "puts", "I", false)
  | 14 => ("ProofPackerModel", "steps", "I", false)
  | 15 => ("ProofPackerModel", "toldStep", "[I", true)
  | 16 => ("ProofPackerModel", "stepRow", "[I", true)
  | 17 => ("ProofPackerModel", "isSaved", "[Z", true)
  | 18 => ("ProofPackerModel", "isTold", "[Z", true)
  | 19 => ("ProofPackerModel", "savedNumber", "[I", true)
  | 20 => ("ProofPackerModel", "savedCount", "I", false)
  | 21 => ("ProofPackerModel", "labels", "[I", true)
  | 22 => ("ProofPackerModel", "labelCount", "I", false)
  | 23 => ("ProofPackerModel", "letters", "[I", true)
  | 24 => ("ProofPackerModel", "letterCount", "I", false)
  | 25 => ("ProofPackerModel", "saving", "[Z", true)
  | 26 => ("ProofPackerModel", "walk", "[I", true)
  | _ => ("ProofPackerModel", "walkAt", "[I", true)
def tyMD : Nat → FieldType := fun k => match k with
  | 0 => .int
  | 1 => .array .int
  | 2 => .array .int
  | 3 => .int
  | 4 => .int
  | 5 => .array .int
  | 6 => .array .int
  | 7 => .array .int
  | 8 => .array .long
  | 9 => .array .int
  | 10 => .int
  | 11 => .array .int
  | 12 => .int
  | 13 => .int
  | 14 => .int
  | 15 => .array .int
  | 16 => .array .int
  | 17 => .array .boolean
  | 18 => .array .boolean
  | 19 => .array .int
  | 20 => .int
  | 21 => .array .int
  | 22 => .int
  | 23 => .array .int
  | 24 => .int
  | 25 => .array .boolean
  | 26 => .array .int
  | _ => .array .int
theorem nmMD : ∀ a, a < 28 → ∀ b, b < 28 → a ≠ b → (TMD a).2.1 ≠ (TMD b).2.1 := by decide +kernel
theorem tokMD : ∀ k, k < 28 → parseFieldDescriptor (TMD k).2.2.1 = some (tyMD k) := by decide +kernel
abbrev vwCl : List vw_C := [(RIL, TIL, 2), (RLL, TLL, 1), (RRW, TRW, 9), (RST, TST, 3), (RTL, TTL, 14), (RPP, TPP, 5), (RMD, TMD, 28)]
theorem tbm {w : Cond} (i : Nat) (h : tables_1[i]? = some w) : w ∈ lw_tbl := List.mem_append_right _ (List.mem_of_getElem? h)
theorem tbs {w : Cond} (i : Nat) (h : (k2_sels lw_privs)[i]? = some w) : w ∈ lw_tbl := List.mem_append_left _ (List.mem_of_getElem? h)
theorem inIL : ∀ w ∈ u_ws RIL TIL 2, w ∈ lw_tbl := by
  intro w hw
  obtain ⟨k, hk, rfl⟩ := List.mem_map.mp hw
  have hk := List.mem_range.mp hk
  match k, hk with
  | 0, _ => exact tbm 33 rfl
  | 1, _ => exact tbm 35 rfl
  | k + 2, hk => exact absurd hk (by omega)
theorem inLL : ∀ w ∈ u_ws RLL TLL 1, w ∈ lw_tbl := by
  intro w hw
  obtain ⟨k, hk, rfl⟩ := List.mem_map.mp hw
  have hk := List.mem_range.mp hk
  match k, hk with
  | 0, _ => exact tbm 126 rfl
  | k + 1, hk => exact absurd hk (by omega)
theorem inRW : ∀ w ∈ u_ws RRW TRW 9, w ∈ lw_tbl := by
  intro w hw
  obtain ⟨k, hk, rfl⟩ := List.mem_map.mp hw
  have hk := List.mem_range.mp hk
  match k, hk with
  | 0, _ => exact tbm 89 rfl
  | 1, _ => exact tbm 91 rfl
  | 2, _ => exact tbm 93 rfl
  | 3, _ => exact tbm 95 rfl
  | 4, _ => exact tbm 97 rfl
  | 5, _ => exact tbm 99 rfl
  | 6, _ => exact tbm 101 rfl
  | 7, _ => exact tbm 103 rfl
  | 8, _ => exact tbm 105 rfl
  | k + 9, hk => exact absurd hk (by omega)
theorem inST : ∀ w ∈ u_ws RST TST 3, w ∈ lw_tbl := by
  intro w hw
  obtain ⟨k, hk, rfl⟩ := List.mem_map.mp hw
  have hk := List.mem_range.mp hk
  match k, hk with
  | 0, _ => exact tbm 42 rfl
  | 1, _ => exact tbm 44 rfl
  | 2, _ => exact tbm 46 rfl
  | k + 3, hk => exact absurd hk (by omega)
theorem inTL : ∀ w ∈ u_ws RTL TTL 14, w ∈ lw_tbl := by
  intro w hw
  obtain ⟨k, hk, rfl⟩ := List.mem_map.mp hw
  have hk := List.mem_range.mp hk
  match k, hk with
  | 0, _ => exact tbm 143 rfl
  | 1, _ => exact tbm 145 rfl
  | 2, _ => exact tbm 147 rfl
  | 3, _ => exact tbm 149 rfl
  | 4, _ => exact tbm 151 rfl
  | 5, _ => exact tbm 153 rfl
  | 6, _ => exact tbm 155 rfl
  | 7, _ => exact tbm 157 rfl
  | 8, _ => exact tbm 159 rfl
  | 9, _ => exact tbm 161 rfl
  | 10, _ => exact tbm 163 rfl
  | 11, _ => exact tbm 165 rfl
  | 12, _ => exact tbm 167 rfl
  | 13, _ => exact tbm 169 rfl
  | k + 14, hk => exact absurd hk (by omega)
theorem inPP : ∀ w ∈ u_ws RPP TPP 5, w ∈ lw_tbl := by
  intro w hw
  obtain ⟨k, hk, rfl⟩ := List.mem_map.mp hw
  have hk := List.mem_range.mp hk
  match k, hk with
  | 0, _ => exact tbm 179 rfl
  | 1, _ => exact tbm 181 rfl
  | 2, _ => exact tbm 183 rfl
  | 3, _ => exact tbm 185 rfl
  | 4, _ => exact tbm 187 rfl
  | k + 5, hk => exact absurd hk (by omega)
theorem inMD : ∀ w ∈ u_ws RMD TMD 28, w ∈ lw_tbl := by
  intro w hw
  obtain ⟨k, hk, rfl⟩ := List.mem_map.mp hw
  have hk := List.mem_range.mp hk
  match k, hk with
  | 0, _ => exact tbm 588 rfl
  | 1, _ => exact tbm 590 rfl
  | 2, _ => exact tbm 592 rfl
  | 3, _ => exact tbm 594 rfl
  | 4, _ => exact tbm 596 rfl
  | 5, _ => exact tbm 598 rfl
  | 6, _ => exact tbm 600 rfl
  | 7, _ => exact tbm 602 rfl
  | 8, _ => exact tbm 604 rfl
  | 9, _ => exact tbm 606 rfl
  | 10, _ => exact tbm 608 rfl
  | 11, _ => exact tbm 610 rfl
  | 12, _ => exact tbm 612 rfl
  | 13, _ => exact tbm 614 rfl
  | 14, _ => exact tbm 616 rfl
  | 15, _ => exact tbm 618 rfl
  | 16, _ => exact tbm 620 rfl
  | 17, _ => exact tbm 622 rfl
  | 18, _ => exact tbm 624 rfl
  | 19, _ => exact tbm 626 rfl
  | 20, _ => exact tbm 628 rfl
  | 21, _ => exact tbm 630 rfl
  | 22, _ => exact tbm 632 rfl
  | 23, _ => exact tbm 634 rfl
  | 24, _ => exact tbm 636 rfl
  | 25, _ => exact tbm 638 rfl
  | 26, _ => exact tbm 640 rfl
  | 27, _ => exact tbm 642 rfl
  | k + 28, hk => exact absurd hk (by omega)
theorem ini_LW : Cond.initialized RLW ∈ lw_tbl := tbm 0 rfl
theorem ini_PP : Cond.initialized RPP ∈ lw_tbl := tbm 1 rfl
theorem ini_ST : Cond.initialized RST ∈ lw_tbl := tbm 2 rfl
theorem ini_IL : Cond.initialized RIL ∈ lw_tbl := tbm 3 rfl
theorem ini_RW : Cond.initialized RRW ∈ lw_tbl := tbm 4 rfl
theorem ini_AR : Cond.initialized RAR ∈ lw_tbl := tbm 5 rfl
theorem ini_java_lang_Math : Cond.initialized "java/lang/Math" ∈ lw_tbl := tbm 6 rfl
theorem ini_java_lang_System : Cond.initialized "java/lang/System" ∈ lw_tbl := tbm 7 rfl
theorem ini_TL : Cond.initialized RTL ∈ lw_tbl := tbm 8 rfl
theorem ini_LL : Cond.initialized RLL ∈ lw_tbl := tbm 9 rfl
theorem ini_MD : Cond.initialized RMD ∈ lw_tbl := tbm 10 rfl
theorem cl_LW_7 : Cond.classLink RLW 7 RPP ∈ lw_tbl := tbm 11 rfl
theorem ist_PP : Cond.instantiable RPP 5 ∈ lw_tbl := tbm 12 rfl
theorem cl_PP_7 : Cond.classLink RPP 7 RST ∈ lw_tbl := tbm 19 rfl
theorem ist_ST : Cond.instantiable RST 3 ∈ lw_tbl := tbm 20 rfl
theorem cl_ST_9 : Cond.classLink RST 9 RIL ∈ lw_tbl := tbm 25 rfl
theorem ist_IL : Cond.instantiable RIL 2 ∈ lw_tbl := tbm 26 rfl
theorem fl_IL_11 : Cond.fieldLink RIL 11 "ProofPacker$IntList" "items" "[I" ∈ lw_tbl := tbm 31 rfl
theorem fl_IL_15 : Cond.fieldLink RIL 15 "ProofPacker$IntList" "used" "I" ∈ lw_tbl := tbm 32 rfl
theorem arr_int : Cond.arrayClass .int ∈ lw_tbl := tbm 38 rfl
theorem fl_ST_12 : Cond.fieldLink RST 12 "ProofPacker$Statements" "takings" "LProofPacker$IntList;" ∈ lw_tbl := tbm 39 rfl
theorem fl_ST_18 : Cond.fieldLink RST 18 "ProofPacker$Statements" "places" "LProofPacker$IntList;" ∈ lw_tbl := tbm 40 rfl
theorem fl_ST_21 : Cond.fieldLink RST 21 "ProofPacker$Statements" "mandatories" "I" ∈ lw_tbl := tbm 41 rfl
theorem cl_PP_16 : Cond.classLink RPP 16 RRW ∈ lw_tbl := tbm 49 rfl
theorem ist_RW : Cond.instantiable RRW 9 ∈ lw_tbl := tbm 50 rfl
theorem cl_RW_9 : Cond.classLink RRW 9 RIL ∈ lw_tbl := tbm 55 rfl
theorem cl_AR_317 : Cond.classLink RAR 317 "[I" ∈ lw_tbl := tbm 70 rfl
theorem fl_RW_12 : Cond.fieldLink RRW 12 "ProofPacker$Rows" "statements" "LProofPacker$IntList;" ∈ lw_tbl := tbm 80 rfl
theorem fl_RW_18 : Cond.fieldLink RRW 18 "ProofPacker$Rows" "starts" "LProofPacker$IntList;" ∈ lw_tbl := tbm 81 rfl
theorem fl_RW_25 : Cond.fieldLink RRW 25 "ProofPacker$Rows" "parts" "LProofPacker$IntList;" ∈ lw_tbl := tbm 82 rfl
theorem fl_RW_28 : Cond.fieldLink RRW 28 "ProofPacker$Rows" "partKinds" "LProofPacker$IntList;" ∈ lw_tbl := tbm 83 rfl
theorem fl_RW_31 : Cond.fieldLink RRW 31 "ProofPacker$Rows" "kinds" "LProofPacker$IntList;" ∈ lw_tbl := tbm 84 rfl
theorem fl_RW_34 : Cond.fieldLink RRW 34 "ProofPacker$Rows" "firstOfKind" "LProofPacker$IntList;" ∈ lw_tbl := tbm 85 rfl
theorem fl_RW_37 : Cond.fieldLink RRW 37 "ProofPacker$Rows" "olderKind" "LProofPacker$IntList;" ∈ lw_tbl := tbm 86 rfl
theorem fl_RW_40 : Cond.fieldLink RRW 40 "ProofPacker$Rows" "newestKind" "[I" ∈ lw_tbl := tbm 87 rfl
theorem fl_RW_50 : Cond.fieldLink RRW 50 "ProofPacker$Rows" "steps" "[J" ∈ lw_tbl := tbm 88 rfl
theorem arr_long : Cond.arrayClass .long ∈ lw_tbl := tbm 108 rfl
theorem cl_PP_23 : Cond.classLink RPP 23 RTL ∈ lw_tbl := tbm 109 rfl
theorem ist_TL : Cond.instantiable RTL 14 ∈ lw_tbl := tbm 110 rfl
theorem cl_TL_19 : Cond.classLink RTL 19 RIL ∈ lw_tbl := tbm 115 rfl
theorem cl_TL_32 : Cond.classLink RTL 32 RLL ∈ lw_tbl := tbm 117 rfl
theorem ist_LL : Cond.instantiable RLL 1 ∈ lw_tbl := tbm 118 rfl
theorem cl_LL_7 : Cond.classLink RLL 7 RIL ∈ lw_tbl := tbm 123 rfl
theorem fl_LL_10 : Cond.fieldLink RLL 10 "ProofPacker$LetterList" "letters" "LProofPacker$IntList;" ∈ lw_tbl := tbm 125 rfl
theorem fl_TL_9 : Cond.fieldLink RTL 9 "ProofPacker$Telling" "statements" "LProofPacker$Statements;" ∈ lw_tbl := tbm 129 rfl
theorem fl_TL_15 : Cond.fieldLink RTL 15 "ProofPacker$Telling" "rows" "LProofPacker$Rows;" ∈ lw_tbl := tbm 130 rfl
theorem fl_TL_22 : Cond.fieldLink RTL 22 "ProofPacker$Telling" "steps" "LProofPacker$IntList;" ∈ lw_tbl := tbm 131 rfl
theorem fl_TL_26 : Cond.fieldLink RTL 26 "ProofPacker$Telling" "savedAs" "LProofPacker$IntList;" ∈ lw_tbl := tbm 132 rfl
theorem fl_TL_29 : Cond.fieldLink RTL 29 "ProofPacker$Telling" "labels" "LProofPacker$IntList;" ∈ lw_tbl := tbm 133 rfl
theorem fl_TL_35 : Cond.fieldLink RTL 35 "ProofPacker$Telling" "letters" "LProofPacker$LetterList;" ∈ lw_tbl := tbm 134 rfl
theorem fl_TL_39 : Cond.fieldLink RTL 39 "ProofPacker$Telling" "rowTold" "I" ∈ lw_tbl := tbm 135 rfl
theorem fl_TL_43 : Cond.fieldLink RTL 43 "ProofPacker$Telling" "savedRows" "I" ∈ lw_tbl := tbm 136 rfl
theorem fl_TL_46 : Cond.fieldLink RTL 46 "ProofPacker$Telling" "openRows" "LProofPacker$IntList;" ∈ lw_tbl := tbm 137 rfl
theorem fl_TL_49 : Cond.fieldLink RTL 49 "ProofPacker$Telling" "openParts" "LProofPacker$IntList;" ∈ lw_tbl := tbm 138 rfl
theorem fl_TL_52 : Cond.fieldLink RTL 52 "ProofPacker$Telling" "toldAt" "LProofPacker$IntList;" ∈ lw_tbl := tbm 139 rfl
theorem fl_TL_55 : Cond.fieldLink RTL 55 "ProofPacker$Telling" "numbers" "LProofPacker$IntList;" ∈ lw_tbl := tbm 140 rfl
theorem fl_TL_58 : Cond.fieldLink RTL 58 "ProofPacker$Telling" "remade" "LProofPacker$IntList;" ∈ lw_tbl := tbm 141 rfl
theorem fl_TL_61 : Cond.fieldLink RTL 61 "ProofPacker$Telling" "savedKinds" "LProofPacker$IntList;" ∈ lw_tbl := tbm 142 rfl
theorem cl_PP_32 : Cond.classLink RPP 32 RIL ∈ lw_tbl := tbm 172 rfl
theorem fl_PP_10 : Cond.fieldLink RPP 10 "ProofPacker" "statements" "LProofPacker$Statements;" ∈ lw_tbl := tbm 174 rfl
theorem fl_PP_19 : Cond.fieldLink RPP 19 "ProofPacker" "rows" "LProofPacker$Rows;" ∈ lw_tbl := tbm 175 rfl
theorem fl_PP_28 : Cond.fieldLink RPP 28 "ProofPacker" "telling" "LProofPacker$Telling;" ∈ lw_tbl := tbm 176 rfl
theorem fl_PP_35 : Cond.fieldLink RPP 35 "ProofPacker" "pile" "LProofPacker$IntList;" ∈ lw_tbl := tbm 177 rfl
theorem fl_PP_39 : Cond.fieldLink RPP 39 "ProofPacker" "puts" "I" ∈ lw_tbl := tbm 178 rfl
theorem cl2_RW_113 : Cond.constantLong RRW 113 1000000000000000001 ∈ lw_tbl := tbm 307 rfl
theorem cl_AR_320 : Cond.classLink RAR 320 "[J" ∈ lw_tbl := tbm 322 rfl
theorem cn_TL_110 : Cond.constant RTL 110 1000000 ∈ lw_tbl := tbm 401 rfl
theorem cl2_PP_132 : Cond.constantLong RPP 132 (-1) ∈ lw_tbl := tbm 522 rfl
theorem cl2_PP_138 : Cond.constantLong RPP 138 1000000000000000000 ∈ lw_tbl := tbm 524 rfl
theorem cl2_PP_140 : Cond.constantLong RPP 140 (-2) ∈ lw_tbl := tbm 525 rfl
theorem cl2_PP_142 : Cond.constantLong RPP 142 4000 ∈ lw_tbl := tbm 530 rfl
theorem cl_LW_10 : Cond.classLink RLW 10 RMD ∈ lw_tbl := tbm 553 rfl
theorem ist_MD : Cond.instantiable RMD 28 ∈ lw_tbl := tbm 554 rfl
theorem cn_MD_54 : Cond.constant RMD 54 120000 ∈ lw_tbl := tbm 559 rfl
theorem fl_MD_67 : Cond.fieldLink RMD 67 "ProofPackerModel" "statements" "I" ∈ lw_tbl := tbm 560 rfl
theorem fl_MD_7 : Cond.fieldLink RMD 7 "ProofPackerModel" "takes" "[I" ∈ lw_tbl := tbm 561 rfl
theorem fl_MD_13 : Cond.fieldLink RMD 13 "ProofPackerModel" "mandatories" "[I" ∈ lw_tbl := tbm 562 rfl
theorem fl_MD_71 : Cond.fieldLink RMD 71 "ProofPackerModel" "mandatoryCount" "I" ∈ lw_tbl := tbm 563 rfl
theorem fl_MD_93 : Cond.fieldLink RMD 93 "ProofPackerModel" "rows" "I" ∈ lw_tbl := tbm 564 rfl
theorem fl_MD_16 : Cond.fieldLink RMD 16 "ProofPackerModel" "makers" "[I" ∈ lw_tbl := tbm 565 rfl
theorem fl_MD_19 : Cond.fieldLink RMD 19 "ProofPackerModel" "fromAt" "[I" ∈ lw_tbl := tbm 566 rfl
theorem fl_MD_22 : Cond.fieldLink RMD 22 "ProofPackerModel" "firstSame" "[I" ∈ lw_tbl := tbm 567 rfl
theorem fl_MD_25 : Cond.fieldLink RMD 25 "ProofPackerModel" "sizes" "[J" ∈ lw_tbl := tbm 568 rfl
theorem fl_MD_29 : Cond.fieldLink RMD 29 "ProofPackerModel" "froms" "[I" ∈ lw_tbl := tbm 569 rfl
theorem fl_MD_99 : Cond.fieldLink RMD 99 "ProofPackerModel" "fromCount" "I" ∈ lw_tbl := tbm 570 rfl
theorem fl_MD_32 : Cond.fieldLink RMD 32 "ProofPackerModel" "pile" "[I" ∈ lw_tbl := tbm 571 rfl
theorem fl_MD_90 : Cond.fieldLink RMD 90 "ProofPackerModel" "piled" "I" ∈ lw_tbl := tbm 572 rfl
theorem fl_MD_96 : Cond.fieldLink RMD 96 "ProofPackerModel" "puts" "I" ∈ lw_tbl := tbm 573 rfl
theorem fl_MD_112 : Cond.fieldLink RMD 112 "ProofPackerModel" "steps" "I" ∈ lw_tbl := tbm 574 rfl
theorem fl_MD_35 : Cond.fieldLink RMD 35 "ProofPackerModel" "toldStep" "[I" ∈ lw_tbl := tbm 575 rfl
theorem fl_MD_38 : Cond.fieldLink RMD 38 "ProofPackerModel" "stepRow" "[I" ∈ lw_tbl := tbm 576 rfl
theorem fl_MD_41 : Cond.fieldLink RMD 41 "ProofPackerModel" "isSaved" "[Z" ∈ lw_tbl := tbm 577 rfl
theorem fl_MD_45 : Cond.fieldLink RMD 45 "ProofPackerModel" "isTold" "[Z" ∈ lw_tbl := tbm 578 rfl
theorem fl_MD_48 : Cond.fieldLink RMD 48 "ProofPackerModel" "savedNumber" "[I" ∈ lw_tbl := tbm 579 rfl
theorem fl_MD_121 : Cond.fieldLink RMD 121 "ProofPackerModel" "savedCount" "I" ∈ lw_tbl := tbm 580 rfl
theorem fl_MD_51 : Cond.fieldLink RMD 51 "ProofPackerModel" "labels" "[I" ∈ lw_tbl := tbm 581 rfl
theorem fl_MD_115 : Cond.fieldLink RMD 115 "ProofPackerModel" "labelCount" "I" ∈ lw_tbl := tbm 582 rfl
theorem fl_MD_55 : Cond.fieldLink RMD 55 "ProofPackerModel" "letters" "[I" ∈ lw_tbl := tbm 583 rfl
theorem fl_MD_118 : Cond.fieldLink RMD 118 "ProofPackerModel" "letterCount" "I" ∈ lw_tbl := tbm 584 rfl
theorem fl_MD_58 : Cond.fieldLink RMD 58 "ProofPackerModel" "saving" "[Z" ∈ lw_tbl := tbm 585 rfl
theorem fl_MD_61 : Cond.fieldLink RMD 61 "ProofPackerModel" "walk" "[I" ∈ lw_tbl := tbm 586 rfl
theorem fl_MD_64 : Cond.fieldLink RMD 64 "ProofPackerModel" "walkAt" "[I" ∈ lw_tbl := tbm 587 rfl
theorem arr_boolean : Cond.arrayClass .boolean ∈ lw_tbl := tbm 645 rfl
theorem cl2_MD_86 : Cond.constantLong RMD 86 1000000000000000000 ∈ lw_tbl := tbm 678 rfl
theorem cl2_MD_88 : Cond.constantLong RMD 88 1000000000000000001 ∈ lw_tbl := tbm 679 rfl
theorem cl2_MD_150 : Cond.constantLong RMD 150 (-1) ∈ lw_tbl := tbm 768 rfl
theorem cl2_MD_152 : Cond.constantLong RMD 152 (-2) ∈ lw_tbl := tbm 769 rfl
theorem cl2_MD_154 : Cond.constantLong RMD 154 4000 ∈ lw_tbl := tbm 774 rfl
