-- ===== PART A: goes FIRST, ahead of the names: the tables' words, and 'selects' of the private methods out of them =====
/-- a private method of a class that the tables say can be made, by its rows of tables_1 -/
def lw_okq (q : MethodName × Nat) : Prop := (q.1.cls ≠ "java/lang/invoke/MethodHandle" ∧ q.1.cls ≠ "java/lang/invoke/VarHandle") ∧ Cond.instantiable q.1.cls q.2 ∈ tables_1 ∧ Cond.privateMethod q.1 ∈ tables_1 ∧ Cond.instanceMethod q.1 ∈ tables_1
theorem lw_p0 : lw_okq (⟨"ProofPacker", "mayPutOn", "(I)Z"⟩, 5) := ⟨⟨by decide +kernel, by decide +kernel⟩, List.mem_of_getElem? (i := 12) (by decide +kernel), List.mem_of_getElem? (i := 250) (by decide +kernel), List.mem_of_getElem? (i := 251) (by decide +kernel)⟩
theorem lw_p1 : lw_okq (⟨"ProofPacker$Rows", "kindOfNewRow", "(II)I"⟩, 9) := ⟨⟨by decide +kernel, by decide +kernel⟩, List.mem_of_getElem? (i := 50) (by decide +kernel), List.mem_of_getElem? (i := 264) (by decide +kernel), List.mem_of_getElem? (i := 265) (by decide +kernel)⟩
theorem lw_p2 : lw_okq (⟨"ProofPacker$Rows", "bucketOf", "(ILProofPacker$IntList;I)I"⟩, 9) := ⟨⟨by decide +kernel, by decide +kernel⟩, List.mem_of_getElem? (i := 50) (by decide +kernel), List.mem_of_getElem? (i := 276) (by decide +kernel), List.mem_of_getElem? (i := 277) (by decide +kernel)⟩
theorem lw_p3 : lw_okq (⟨"ProofPacker$Rows", "isMadeOf", "(IILProofPacker$IntList;I)Z"⟩, 9) := ⟨⟨by decide +kernel, by decide +kernel⟩, List.mem_of_getElem? (i := 50) (by decide +kernel), List.mem_of_getElem? (i := 284) (by decide +kernel), List.mem_of_getElem? (i := 285) (by decide +kernel)⟩
theorem lw_p4 : lw_okq (⟨"ProofPacker$Rows", "countSteps", "(I)J"⟩, 9) := ⟨⟨by decide +kernel, by decide +kernel⟩, List.mem_of_getElem? (i := 50) (by decide +kernel), List.mem_of_getElem? (i := 288) (by decide +kernel), List.mem_of_getElem? (i := 289) (by decide +kernel)⟩
theorem lw_p5 : lw_okq (⟨"ProofPacker$Rows", "keepSteps", "(IJ)V"⟩, 9) := ⟨⟨by decide +kernel, by decide +kernel⟩, List.mem_of_getElem? (i := 50) (by decide +kernel), List.mem_of_getElem? (i := 312) (by decide +kernel), List.mem_of_getElem? (i := 313) (by decide +kernel)⟩
theorem lw_p6 : lw_okq (⟨"ProofPacker", "putOn", "(I)V"⟩, 5) := ⟨⟨by decide +kernel, by decide +kernel⟩, List.mem_of_getElem? (i := 12) (by decide +kernel), List.mem_of_getElem? (i := 328) (by decide +kernel), List.mem_of_getElem? (i := 329) (by decide +kernel)⟩
theorem lw_p7 : lw_okq (⟨"ProofPacker$Telling", "tellSteps", "()V"⟩, 14) := ⟨⟨by decide +kernel, by decide +kernel⟩, List.mem_of_getElem? (i := 110) (by decide +kernel), List.mem_of_getElem? (i := 387) (by decide +kernel), List.mem_of_getElem? (i := 388) (by decide +kernel)⟩
theorem lw_p8 : lw_okq (⟨"ProofPacker$Telling", "open", "(I)V"⟩, 14) := ⟨⟨by decide +kernel, by decide +kernel⟩, List.mem_of_getElem? (i := 110) (by decide +kernel), List.mem_of_getElem? (i := 397) (by decide +kernel), List.mem_of_getElem? (i := 398) (by decide +kernel)⟩
theorem lw_p9 : lw_okq (⟨"ProofPacker$Telling", "tellPart", "(I)V"⟩, 14) := ⟨⟨by decide +kernel, by decide +kernel⟩, List.mem_of_getElem? (i := 110) (by decide +kernel), List.mem_of_getElem? (i := 408) (by decide +kernel), List.mem_of_getElem? (i := 409) (by decide +kernel)⟩
theorem lw_p10 : lw_okq (⟨"ProofPacker$Telling", "addStep", "(I)V"⟩, 14) := ⟨⟨by decide +kernel, by decide +kernel⟩, List.mem_of_getElem? (i := 110) (by decide +kernel), List.mem_of_getElem? (i := 413) (by decide +kernel), List.mem_of_getElem? (i := 414) (by decide +kernel)⟩
theorem lw_p11 : lw_okq (⟨"ProofPacker$Telling", "numberSavedRows", "()V"⟩, 14) := ⟨⟨by decide +kernel, by decide +kernel⟩, List.mem_of_getElem? (i := 110) (by decide +kernel), List.mem_of_getElem? (i := 418) (by decide +kernel), List.mem_of_getElem? (i := 419) (by decide +kernel)⟩
theorem lw_p12 : lw_okq (⟨"ProofPacker$Telling", "numberStatements", "()V"⟩, 14) := ⟨⟨by decide +kernel, by decide +kernel⟩, List.mem_of_getElem? (i := 110) (by decide +kernel), List.mem_of_getElem? (i := 426) (by decide +kernel), List.mem_of_getElem? (i := 427) (by decide +kernel)⟩
theorem lw_p13 : lw_okq (⟨"ProofPacker$Telling", "numberOfNew", "(I)I"⟩, 14) := ⟨⟨by decide +kernel, by decide +kernel⟩, List.mem_of_getElem? (i := 110) (by decide +kernel), List.mem_of_getElem? (i := 431) (by decide +kernel), List.mem_of_getElem? (i := 432) (by decide +kernel)⟩
theorem lw_p14 : lw_okq (⟨"ProofPacker$Telling", "tellLetters", "()V"⟩, 14) := ⟨⟨by decide +kernel, by decide +kernel⟩, List.mem_of_getElem? (i := 110) (by decide +kernel), List.mem_of_getElem? (i := 441) (by decide +kernel), List.mem_of_getElem? (i := 442) (by decide +kernel)⟩
theorem lw_p15 : lw_okq (⟨"ProofPacker$Telling", "rowsTakenAt", "(I)I"⟩, 14) := ⟨⟨by decide +kernel, by decide +kernel⟩, List.mem_of_getElem? (i := 110) (by decide +kernel), List.mem_of_getElem? (i := 544) (by decide +kernel), List.mem_of_getElem? (i := 545) (by decide +kernel)⟩
def lw_privs_1 : List (MethodName × Nat) := [(⟨"ProofPacker", "mayPutOn", "(I)Z"⟩, 5), (⟨"ProofPacker$Rows", "kindOfNewRow", "(II)I"⟩, 9), (⟨"ProofPacker$Rows", "bucketOf", "(ILProofPacker$IntList;I)I"⟩, 9), (⟨"ProofPacker$Rows", "isMadeOf", "(IILProofPacker$IntList;I)Z"⟩, 9), (⟨"ProofPacker$Rows", "countSteps", "(I)J"⟩, 9), (⟨"ProofPacker$Rows", "keepSteps", "(IJ)V"⟩, 9), (⟨"ProofPacker", "putOn", "(I)V"⟩, 5), (⟨"ProofPacker$Telling", "tellSteps", "()V"⟩, 14), (⟨"ProofPacker$Telling", "open", "(I)V"⟩, 14), (⟨"ProofPacker$Telling", "tellPart", "(I)V"⟩, 14), (⟨"ProofPacker$Telling", "addStep", "(I)V"⟩, 14), (⟨"ProofPacker$Telling", "numberSavedRows", "()V"⟩, 14), (⟨"ProofPacker$Telling", "numberStatements", "()V"⟩, 14), (⟨"ProofPacker$Telling", "numberOfNew", "(I)I"⟩, 14), (⟨"ProofPacker$Telling", "tellLetters", "()V"⟩, 14), (⟨"ProofPacker$Telling", "rowsTakenAt", "(I)I"⟩, 14)]
theorem lw_r1 : ∀ q ∈ lw_privs_1, lw_okq q := List.forall_mem_cons.mpr ⟨lw_p0, List.forall_mem_cons.mpr ⟨lw_p1, List.forall_mem_cons.mpr ⟨lw_p2, List.forall_mem_cons.mpr ⟨lw_p3, List.forall_mem_cons.mpr ⟨lw_p4, List.forall_mem_cons.mpr ⟨lw_p5, List.forall_mem_cons.mpr ⟨lw_p6, List.forall_mem_cons.mpr ⟨lw_p7, List.forall_mem_cons.mpr ⟨lw_p8, List.forall_mem_cons.mpr ⟨lw_p9, List.forall_mem_cons.mpr ⟨lw_p10, List.forall_mem_cons.mpr ⟨lw_p11, List.forall_mem_cons.mpr ⟨lw_p12, List.forall_mem_cons.mpr ⟨lw_p13, List.forall_mem_cons.mpr ⟨lw_p14, List.forall_mem_cons.mpr ⟨lw_p15, fun _ h => absurd h List.not_mem_nil⟩⟩⟩⟩⟩⟩⟩⟩⟩⟩⟩⟩⟩⟩⟩⟩
theorem lw_p16 : lw_okq (⟨"ProofPacker$Telling", "kindMadeAt", "(II)I"⟩, 14) := ⟨⟨by decide +kernel, by decide +kernel⟩, List.mem_of_getElem? (i := 110) (by decide +kernel), List.mem_of_getElem? (i := 549) (by decide +kernel), List.mem_of_getElem? (i := 550) (by decide +kernel)⟩
theorem lw_p17 : lw_okq (⟨"ProofPackerModel", "isStatement", "(I)Z"⟩, 28) := ⟨⟨by decide +kernel, by decide +kernel⟩, List.mem_of_getElem? (i := 554) (by decide +kernel), List.mem_of_getElem? (i := 655) (by decide +kernel), List.mem_of_getElem? (i := 656) (by decide +kernel)⟩
theorem lw_p18 : lw_okq (⟨"ProofPackerModel", "mandatoryOf", "(I)I"⟩, 28) := ⟨⟨by decide +kernel, by decide +kernel⟩, List.mem_of_getElem? (i := 554) (by decide +kernel), List.mem_of_getElem? (i := 659) (by decide +kernel), List.mem_of_getElem? (i := 660) (by decide +kernel)⟩
theorem lw_p19 : lw_okq (⟨"ProofPackerModel", "findSame", "(I)V"⟩, 28) := ⟨⟨by decide +kernel, by decide +kernel⟩, List.mem_of_getElem? (i := 554) (by decide +kernel), List.mem_of_getElem? (i := 667) (by decide +kernel), List.mem_of_getElem? (i := 668) (by decide +kernel)⟩
theorem lw_p20 : lw_okq (⟨"ProofPackerModel", "isAlike", "(II)Z"⟩, 28) := ⟨⟨by decide +kernel, by decide +kernel⟩, List.mem_of_getElem? (i := 554) (by decide +kernel), List.mem_of_getElem? (i := 671) (by decide +kernel), List.mem_of_getElem? (i := 672) (by decide +kernel)⟩
theorem lw_p21 : lw_okq (⟨"ProofPackerModel", "findSize", "(I)V"⟩, 28) := ⟨⟨by decide +kernel, by decide +kernel⟩, List.mem_of_getElem? (i := 554) (by decide +kernel), List.mem_of_getElem? (i := 675) (by decide +kernel), List.mem_of_getElem? (i := 676) (by decide +kernel)⟩
theorem lw_p22 : lw_okq (⟨"ProofPackerModel", "isRow", "(I)Z"⟩, 28) := ⟨⟨by decide +kernel, by decide +kernel⟩, List.mem_of_getElem? (i := 554) (by decide +kernel), List.mem_of_getElem? (i := 685) (by decide +kernel), List.mem_of_getElem? (i := 686) (by decide +kernel)⟩
theorem lw_p23 : lw_okq (⟨"ProofPackerModel", "tellAll", "(I)V"⟩, 28) := ⟨⟨by decide +kernel, by decide +kernel⟩, List.mem_of_getElem? (i := 554) (by decide +kernel), List.mem_of_getElem? (i := 713) (by decide +kernel), List.mem_of_getElem? (i := 714) (by decide +kernel)⟩
theorem lw_p24 : lw_okq (⟨"ProofPackerModel", "tell", "(II)V"⟩, 28) := ⟨⟨by decide +kernel, by decide +kernel⟩, List.mem_of_getElem? (i := 554) (by decide +kernel), List.mem_of_getElem? (i := 717) (by decide +kernel), List.mem_of_getElem? (i := 718) (by decide +kernel)⟩
theorem lw_p25 : lw_okq (⟨"ProofPackerModel", "numberSaved", "()V"⟩, 28) := ⟨⟨by decide +kernel, by decide +kernel⟩, List.mem_of_getElem? (i := 554) (by decide +kernel), List.mem_of_getElem? (i := 721) (by decide +kernel), List.mem_of_getElem? (i := 722) (by decide +kernel)⟩
theorem lw_p26 : lw_okq (⟨"ProofPackerModel", "findLabels", "()V"⟩, 28) := ⟨⟨by decide +kernel, by decide +kernel⟩, List.mem_of_getElem? (i := 554) (by decide +kernel), List.mem_of_getElem? (i := 725) (by decide +kernel), List.mem_of_getElem? (i := 726) (by decide +kernel)⟩
theorem lw_p27 : lw_okq (⟨"ProofPackerModel", "labelOf", "(I)I"⟩, 28) := ⟨⟨by decide +kernel, by decide +kernel⟩, List.mem_of_getElem? (i := 554) (by decide +kernel), List.mem_of_getElem? (i := 729) (by decide +kernel), List.mem_of_getElem? (i := 730) (by decide +kernel)⟩
theorem lw_p28 : lw_okq (⟨"ProofPackerModel", "layLetters", "()V"⟩, 28) := ⟨⟨by decide +kernel, by decide +kernel⟩, List.mem_of_getElem? (i := 554) (by decide +kernel), List.mem_of_getElem? (i := 733) (by decide +kernel), List.mem_of_getElem? (i := 734) (by decide +kernel)⟩
theorem lw_p29 : lw_okq (⟨"ProofPackerModel", "layNumber", "(I)V"⟩, 28) := ⟨⟨by decide +kernel, by decide +kernel⟩, List.mem_of_getElem? (i := 554) (by decide +kernel), List.mem_of_getElem? (i := 737) (by decide +kernel), List.mem_of_getElem? (i := 738) (by decide +kernel)⟩
theorem lw_p30 : lw_okq (⟨"ProofPackerModel", "putLetter", "(CI)V"⟩, 28) := ⟨⟨by decide +kernel, by decide +kernel⟩, List.mem_of_getElem? (i := 554) (by decide +kernel), List.mem_of_getElem? (i := 741) (by decide +kernel), List.mem_of_getElem? (i := 742) (by decide +kernel)⟩
def lw_privs_2 : List (MethodName × Nat) := [(⟨"ProofPacker$Telling", "kindMadeAt", "(II)I"⟩, 14), (⟨"ProofPackerModel", "isStatement", "(I)Z"⟩, 28), (⟨"ProofPackerModel", "mandatoryOf", "(I)I"⟩, 28), (⟨"ProofPackerModel", "findSame", "(I)V"⟩, 28), (⟨"ProofPackerModel", "isAlike", "(II)Z"⟩, 28), (⟨"ProofPackerModel", "findSize", "(I)V"⟩, 28), (⟨"ProofPackerModel", "isRow", "(I)Z"⟩, 28), (⟨"ProofPackerModel", "tellAll", "(I)V"⟩, 28), (⟨"ProofPackerModel", "tell", "(II)V"⟩, 28), (⟨"ProofPackerModel", "numberSaved", "()V"⟩, 28), (⟨"ProofPackerModel", "findLabels", "()V"⟩, 28), (⟨"ProofPackerModel", "labelOf", "(I)I"⟩, 28), (⟨"ProofPackerModel", "layLetters", "()V"⟩, 28), (⟨"ProofPackerModel", "layNumber", "(I)V"⟩, 28), (⟨"ProofPackerModel", "putLetter", "(CI)V"⟩, 28)]
theorem lw_r2 : ∀ q ∈ lw_privs_2, lw_okq q := List.forall_mem_cons.mpr ⟨lw_p16, List.forall_mem_cons.mpr ⟨lw_p17, List.forall_mem_cons.mpr ⟨lw_p18, List.forall_mem_cons.mpr ⟨lw_p19, List.forall_mem_cons.mpr ⟨lw_p20, List.forall_mem_cons.mpr ⟨lw_p21, List.forall_mem_cons.mpr ⟨lw_p22, List.forall_mem_cons.mpr ⟨lw_p23, List.forall_mem_cons.mpr ⟨lw_p24, List.forall_mem_cons.mpr ⟨lw_p25, List.forall_mem_cons.mpr ⟨lw_p26, List.forall_mem_cons.mpr ⟨lw_p27, List.forall_mem_cons.mpr ⟨lw_p28, List.forall_mem_cons.mpr ⟨lw_p29, List.forall_mem_cons.mpr ⟨lw_p30, fun _ h => absurd h List.not_mem_nil⟩⟩⟩⟩⟩⟩⟩⟩⟩⟩⟩⟩⟩⟩⟩
def lw_privs : List (MethodName × Nat) := lw_privs_1 ++ (lw_privs_2)
def lw_tbl : List Cond := k2_sels lw_privs ++ tables_1
theorem lw_privs_ok : ∀ q ∈ lw_privs, lw_okq q := by
  show ∀ q ∈ lw_privs_1 ++ (lw_privs_2), lw_okq q
  exact List.forall_mem_append.mpr ⟨lw_r1, lw_r2⟩

def RIL : String := "ProofPacker$IntList"
def RLL : String := "ProofPacker$LetterList"
def RRW : String := "ProofPacker$Rows"
def RST : String := "ProofPacker$Statements"
def RTL : String := "ProofPacker$Telling"
def RPP : String := "ProofPacker"
def RMD : String := "ProofPackerModel"
def RAR : String := "java/util/Arrays"
def RLW : String := "ProofPackerLaw"
def TIL : u_T := fun k => match k with
  | 0 => ("ProofPacker$IntList", "items", "[I", false)
  | _ => ("ProofPacker$IntList", "used", "I", false)
def tyIL : Nat → FieldType := fun k => match k with
  | 0 => .array .int
  | _ => .int
theorem nmIL : ∀ a, a < 2 → ∀ b, b < 2 → a ≠ b → (TIL a).2.1 ≠ (TIL b).2.1 := by decide +kernel
theorem tokIL : ∀ k, k < 2 → parseFieldDescriptor (TIL k).2.2.1 = some (tyIL k) := by decide +kernel
def TLL : u_T := fun k => match k with
  | _ => ("ProofPacker$LetterList", "letters", "LProofPacker$IntList;", true)
def tyLL : Nat → FieldType := fun k => match k with
  | _ => .object "ProofPacker$IntList"
theorem nmLL : ∀ a, a < 1 → ∀ b, b < 1 → a ≠ b → (TLL a).2.1 ≠ (TLL b).2.1 := by decide +kernel
theorem tokLL : ∀ k, k < 1 → parseFieldDescriptor (TLL k).2.2.1 = some (tyLL k) := by decide +kernel
def TRW : u_T := fun k => match k with
  | 0 => ("ProofPacker$Rows", "statements", "LProofPacker$IntList;", true)
  | 1 => ("ProofPacker$Rows", "starts", "LProofPacker$IntList;", true)
  | 2 => ("ProofPacker$Rows", "parts", "LProofPacker$IntList;", true)
  | 3 => ("ProofPacker$Rows", "partKinds", "LProofPacker$IntList;", true)
  | 4 => ("ProofPacker$Rows", "kinds", "LProofPacker$IntList;", true)
  | 5 => ("ProofPacker$Rows", "firstOfKind", "LProofPacker$IntList;", true)
  | 6 => ("ProofPacker$Rows", "olderKind", "LProofPacker$IntList;", true)
  | 7 => ("ProofPacker$Rows", "newestKind", "[I", true)
  | _ => ("ProofPacker$Rows", "steps", "[J", false)
def tyRW : Nat → FieldType := fun k => match k with
  | 0 => .object "ProofPacker$IntList"
  | 1 => .object "ProofPacker$IntList"
  | 2 => .object "ProofPacker$IntList"
  | 3 => .object "ProofPacker$IntList"
  | 4 => .object "ProofPacker$IntList"
  | 5 => .object "ProofPacker$IntList"
  | 6 => .object "ProofPacker$IntList"
  | 7 => .array .int
  | _ => .array .long
theorem nmRW : ∀ a, a < 9 → ∀ b, b < 9 → a ≠ b → (TRW a).2.1 ≠ (TRW b).2.1 := by decide +kernel
theorem tokRW : ∀ k, k < 9 → parseFieldDescriptor (TRW k).2.2.1 = some (tyRW k) := by decide +kernel
def TST : u_T := fun k => match k with
  | 0 => ("ProofPacker$Statements", "takings", "LProofPacker$IntList;", true)
  | 1 => ("ProofPacker$Statements", "places", "LProofPacker$IntList;", true)
  | _ => ("ProofPacker$Statements", "mandatories", "I", false)
def tyST : Nat → FieldType := fun k => match k with
  | 0 => .object "ProofPacker$IntList"
  | 1 => .object "ProofPacker$IntList"
  | _ => .int
theorem nmST : ∀ a, a < 3 → ∀ b, b < 3 → a ≠ b → (TST a).2.1 ≠ (TST b).2.1 := by decide +kernel
theorem tokST : ∀ k, k < 3 → parseFieldDescriptor (TST k).2.2.1 = some (tyST k) := by decide +kernel
def TTL : u_T := fun k => match k with
  | 0 => ("ProofPacker$Telling", "statements", "LProofPacker$Statements;", true)
  | 1 => ("ProofPacker$Telling", "rows", "LProofPacker$Rows;", true)
  | 2 => ("ProofPacker$Telling", "steps", "LProofPacker$IntList;", true)
  | 3 => ("ProofPacker$Telling", "savedAs", "LProofPacker$IntList;", true)
  | 4 => ("ProofPacker$Telling", "labels", "LProofPacker$IntList;", true)
  | 5 => ("ProofPacker$Telling", "letters", "LProofPacker$LetterList;", true)
  | 6 => ("ProofPacker$Telling", "rowTold", "I", false)
  | 7 => ("ProofPacker$Telling", "savedRows", "I", false)
  | 8 => ("ProofPacker$Telling", "openRows", "LProofPacker$IntList;", true)
  | 9 => ("ProofPacker$Telling", "openParts", "LProofPacker$IntList;", true)
  | 10 => ("ProofPacker$Telling", "toldAt", "LProofPacker$IntList;", true)
  | 11 => ("ProofPacker$Telling", "numbers", "LProofPacker$IntList;", true)
  | 12 => ("ProofPacker$Telling", "remade", "LProofPacker$IntList;", true)
  | _ => ("ProofPacker$Telling", "savedKinds", "LProofPacker$IntList;", true)
def tyTL : Nat → FieldType := fun k => match k with
  | 0 => .object "ProofPacker$Statements"
  | 1 => .object "ProofPacker$Rows"
  | 2 => .object "ProofPacker$IntList"
  | 3 => .object "ProofPacker$IntList"
  | 4 => .object "ProofPacker$IntList"
  | 5 => .object "ProofPacker$LetterList"
  | 6 => .int
  | 7 => .int
  | 8 => .object "ProofPacker$IntList"
  | 9 => .object "ProofPacker$IntList"
  | 10 => .object "ProofPacker$IntList"
  | 11 => .object "ProofPacker$IntList"
  | 12 => .object "ProofPacker$IntList"
  | _ => .object "ProofPacker$IntList"
theorem nmTL : ∀ a, a < 14 → ∀ b, b < 14 → a ≠ b → (TTL a).2.1 ≠ (TTL b).2.1 := by decide +kernel
theorem tokTL : ∀ k, k < 14 → parseFieldDescriptor (TTL k).2.2.1 = some (tyTL k) := by decide +kernel
def TPP : u_T := fun k => match k with
  | 0 => ("ProofPacker", "statements", "LProofPacker$Statements;", true)
  | 1 => ("ProofPacker", "rows", "LProofPacker$Rows;", true)
  | 2 => ("ProofPacker", "telling", "LProofPacker$Telling;", true)
  | 3 => ("ProofPacker", "pile", "LProofPacker$IntList;", true)
  | _ => ("ProofPacker", "puts", "I", false)
def tyPP : Nat → FieldType := fun k => match k with
  | 0 => .object "ProofPacker$Statements"
  | 1 => .object "ProofPacker$Rows"
  | 2 => .object "ProofPacker$Telling"
  | 3 => .object "ProofPacker$IntList"
  | _ => .int
theorem nmPP : ∀ a, a < 5 → ∀ b, b < 5 → a ≠ b → (TPP a).2.1 ≠ (TPP b).2.1 := by decide +kernel
theorem tokPP : ∀ k, k < 5 → parseFieldDescriptor (TPP k).2.2.1 = some (tyPP k) := by decide +kernel
def TMD : u_T := fun k => match k with
  | 0 => ("ProofPackerModel", "statements", "I", false)
  | 1 => ("ProofPackerModel", "takes", "[I", true)
  | 2 => ("ProofPackerModel", "mandatories", "[I", true)
  | 3 => ("ProofPackerModel", "mandatoryCount", "I", false)
  | 4 => ("ProofPackerModel", "rows", "I", false)
  | 5 => ("ProofPackerModel", "makers", "[I", true)
  | 6 => ("ProofPackerModel", "fromAt", "[I", true)
  | 7 => ("ProofPackerModel", "firstSame", "[I", true)
  | 8 => ("ProofPackerModel", "sizes", "[J", true)
  | 9 => ("ProofPackerModel", "froms", "[I", true)
  | 10 => ("ProofPackerModel", "fromCount", "I", false)
  | 11 => ("ProofPackerModel", "pile", "[I", true)
  | 12 => ("ProofPackerModel", "piled", "I", false)
  | 13 => ("ProofPackerModel", "puts", "I", false)
  | 14 => ("ProofPackerModel", "steps", "I", false)
  | 15 => ("ProofPackerModel", "toldStep", "[I", true)
  | 16 => ("ProofPackerModel", "stepRow", "[I", true)
  | 17 => ("ProofPackerModel", "isSaved", "[Z", true)
  | 18 => ("ProofPackerModel", "isTold", "[Z", true)
  | 19 => ("ProofPackerModel", "savedNumber", "[I", true)
  | 20 => ("ProofPackerModel", "savedCount", "I", false)
  | 21 => ("ProofPackerModel", "labels", "[I", true)
  | 22 => ("ProofPackerModel", "labelCount", "I", false)
  | 23 => ("ProofPackerModel", "letters", "[I", true)
  | 24 => ("ProofPackerModel", "letterCount", "I", false)
  | 25 => ("ProofPackerModel", "saving", "[Z", true)
  | 26 => ("ProofPackerModel", "walk", "[I", true)
  | _ => ("ProofPackerModel", "walkAt", "[I", true)
def tyMD : Nat → FieldType := fun k => match k with
  | 0 => .int
  | 1 => .array .int
  | 2 => .array .int
  | 3 => .int
  | 4 => .int
  | 5 => .array .int
  | 6 => .array .int
  | 7 => .array .int
  | 8 => .array .long
  | 9 => .array .int
  | 10 => .int
  | 11 => .array .int
  | 12 => .int
  | 13 => .int
  | 14 => .int
  | 15 => .array .int
  | 16 => .array .int
  | 17 => .array .boolean
  | 18 => .array .boolean
  | 19 => .array .int
  | 20 => .int
  | 21 => .array .int
  | 22 => .int
  | 23 => .array .int
  | 24 => .int
  | 25 => .array .boolean
  | 26 => .array .int
  | _ => .array .int
theorem nmMD : ∀ a, a < 28 → ∀ b, b < 28 → a ≠ b → (TMD a).2.1 ≠ (TMD b).2.1 := by decide +kernel
theorem tokMD : ∀ k, k < 28 → parseFieldDescriptor (TMD k).2.2.1 = some (tyMD k) := by decide +kernel
abbrev vwCl : List vw_C := [(RIL, TIL, 2), (RLL, TLL, 1), (RRW, TRW, 9), (RST, TST, 3), (RTL, TTL, 14), (RPP, TPP, 5), (RMD, TMD, 28)]
def lw_g : List Cond := lw_tbl.filter goodWord
theorem lw_gm {w : Cond} (h : w ∈ lw_tbl) (hg : goodWord w = true) : w ∈ lw_g := List.mem_filter.mpr ⟨h, hg⟩
theorem lw_gt {w : Cond} (h : w ∈ lw_g) : w ∈ lw_tbl := (List.mem_filter.mp h).1
theorem tbm0 {w : Cond} (i : Nat) (h : tables_1_1[i]? = some w) (hg : goodWord w = true) : w ∈ lw_g := lw_gm (List.mem_append_right _ (show w ∈ tables_1 from List.mem_append_left _ (List.mem_of_getElem? h))) hg
theorem tbm1 {w : Cond} (i : Nat) (h : tables_1_2[i]? = some w) (hg : goodWord w = true) : w ∈ lw_g := lw_gm (List.mem_append_right _ (show w ∈ tables_1 from List.mem_append_right _ (List.mem_append_left _ (List.mem_of_getElem? h)))) hg
theorem tbm2 {w : Cond} (i : Nat) (h : tables_1_3[i]? = some w) (hg : goodWord w = true) : w ∈ lw_g := lw_gm (List.mem_append_right _ (show w ∈ tables_1 from List.mem_append_right _ (List.mem_append_right _ (List.mem_append_left _ (List.mem_of_getElem? h))))) hg
theorem tbm3 {w : Cond} (i : Nat) (h : tables_1_4[i]? = some w) (hg : goodWord w = true) : w ∈ lw_g := lw_gm (List.mem_append_right _ (show w ∈ tables_1 from List.mem_append_right _ (List.mem_append_right _ (List.mem_append_right _ (List.mem_of_getElem? h))))) hg
theorem tbs {w : Cond} (i : Nat) (h : (k2_sels lw_privs)[i]? = some w) (hg : goodWord w = true) : w ∈ lw_g := lw_gm (List.mem_append_left _ (List.mem_of_getElem? h)) hg
theorem inIL : ∀ w ∈ u_ws RIL TIL 2, w ∈ lw_g := by
  intro w hw
  obtain ⟨k, hk, rfl⟩ := List.mem_map.mp hw
  have hk := List.mem_range.mp hk
  match k, hk with
  | 0, _ => exact tbm0 33 rfl rfl
  | 1, _ => exact tbm0 35 rfl rfl
  | k + 2, hk => exact absurd hk (by omega)
theorem inLL : ∀ w ∈ u_ws RLL TLL 1, w ∈ lw_g := by
  intro w hw
  obtain ⟨k, hk, rfl⟩ := List.mem_map.mp hw
  have hk := List.mem_range.mp hk
  match k, hk with
  | 0, _ => exact tbm0 126 rfl rfl
  | k + 1, hk => exact absurd hk (by omega)
theorem inRW : ∀ w ∈ u_ws RRW TRW 9, w ∈ lw_g := by
  intro w hw
  obtain ⟨k, hk, rfl⟩ := List.mem_map.mp hw
  have hk := List.mem_range.mp hk
  match k, hk with
  | 0, _ => exact tbm0 89 rfl rfl
  | 1, _ => exact tbm0 91 rfl rfl
  | 2, _ => exact tbm0 93 rfl rfl
  | 3, _ => exact tbm0 95 rfl rfl
  | 4, _ => exact tbm0 97 rfl rfl
  | 5, _ => exact tbm0 99 rfl rfl
  | 6, _ => exact tbm0 101 rfl rfl
  | 7, _ => exact tbm0 103 rfl rfl
  | 8, _ => exact tbm0 105 rfl rfl
  | k + 9, hk => exact absurd hk (by omega)
theorem inST : ∀ w ∈ u_ws RST TST 3, w ∈ lw_g := by
  intro w hw
  obtain ⟨k, hk, rfl⟩ := List.mem_map.mp hw
  have hk := List.mem_range.mp hk
  match k, hk with
  | 0, _ => exact tbm0 42 rfl rfl
  | 1, _ => exact tbm0 44 rfl rfl
  | 2, _ => exact tbm0 46 rfl rfl
  | k + 3, hk => exact absurd hk (by omega)
theorem inTL : ∀ w ∈ u_ws RTL TTL 14, w ∈ lw_g := by
  intro w hw
  obtain ⟨k, hk, rfl⟩ := List.mem_map.mp hw
  have hk := List.mem_range.mp hk
  match k, hk with
  | 0, _ => exact tbm0 143 rfl rfl
  | 1, _ => exact tbm0 145 rfl rfl
  | 2, _ => exact tbm0 147 rfl rfl
  | 3, _ => exact tbm0 149 rfl rfl
  | 4, _ => exact tbm0 151 rfl rfl
  | 5, _ => exact tbm0 153 rfl rfl
  | 6, _ => exact tbm0 155 rfl rfl
  | 7, _ => exact tbm0 157 rfl rfl
  | 8, _ => exact tbm0 159 rfl rfl
  | 9, _ => exact tbm0 161 rfl rfl
  | 10, _ => exact tbm0 163 rfl rfl
  | 11, _ => exact tbm0 165 rfl rfl
  | 12, _ => exact tbm0 167 rfl rfl
  | 13, _ => exact tbm0 169 rfl rfl
  | k + 14, hk => exact absurd hk (by omega)
theorem inPP : ∀ w ∈ u_ws RPP TPP 5, w ∈ lw_g := by
  intro w hw
  obtain ⟨k, hk, rfl⟩ := List.mem_map.mp hw
  have hk := List.mem_range.mp hk
  match k, hk with
  | 0, _ => exact tbm0 179 rfl rfl
  | 1, _ => exact tbm0 181 rfl rfl
  | 2, _ => exact tbm0 183 rfl rfl
  | 3, _ => exact tbm0 185 rfl rfl
  | 4, _ => exact tbm0 187 rfl rfl
  | k + 5, hk => exact absurd hk (by omega)
theorem inMD : ∀ w ∈ u_ws RMD TMD 28, w ∈ lw_g := by
  intro w hw
  obtain ⟨k, hk, rfl⟩ := List.mem_map.mp hw
  have hk := List.mem_range.mp hk
  match k, hk with
  | 0, _ => exact tbm2 108 rfl rfl
  | 1, _ => exact tbm2 110 rfl rfl
  | 2, _ => exact tbm2 112 rfl rfl
  | 3, _ => exact tbm2 114 rfl rfl
  | 4, _ => exact tbm2 116 rfl rfl
  | 5, _ => exact tbm2 118 rfl rfl
  | 6, _ => exact tbm2 120 rfl rfl
  | 7, _ => exact tbm2 122 rfl rfl
  | 8, _ => exact tbm2 124 rfl rfl
  | 9, _ => exact tbm2 126 rfl rfl
  | 10, _ => exact tbm2 128 rfl rfl
  | 11, _ => exact tbm2 130 rfl rfl
  | 12, _ => exact tbm2 132 rfl rfl
  | 13, _ => exact tbm2 134 rfl rfl
  | 14, _ => exact tbm2 136 rfl rfl
  | 15, _ => exact tbm2 138 rfl rfl
  | 16, _ => exact tbm2 140 rfl rfl
  | 17, _ => exact tbm2 142 rfl rfl
  | 18, _ => exact tbm2 144 rfl rfl
  | 19, _ => exact tbm2 146 rfl rfl
  | 20, _ => exact tbm2 148 rfl rfl
  | 21, _ => exact tbm2 150 rfl rfl
  | 22, _ => exact tbm2 152 rfl rfl
  | 23, _ => exact tbm2 154 rfl rfl
  | 24, _ => exact tbm2 156 rfl rfl
  | 25, _ => exact tbm2 158 rfl rfl
  | 26, _ => exact tbm2 160 rfl rfl
  | 27, _ => exact tbm2 162 rfl rfl
  | k + 28, hk => exact absurd hk (by omega)
theorem ini_LW : Cond.initialized RLW ∈ lw_g := tbm0 0 rfl rfl
theorem ini_PP : Cond.initialized RPP ∈ lw_g := tbm0 1 rfl rfl
theorem ini_ST : Cond.initialized RST ∈ lw_g := tbm0 2 rfl rfl
theorem ini_IL : Cond.initialized RIL ∈ lw_g := tbm0 3 rfl rfl
theorem ini_RW : Cond.initialized RRW ∈ lw_g := tbm0 4 rfl rfl
theorem ini_AR : Cond.initialized RAR ∈ lw_g := tbm0 5 rfl rfl
theorem ini_java_lang_Math : Cond.initialized "java/lang/Math" ∈ lw_g := tbm0 6 rfl rfl
theorem ini_java_lang_System : Cond.initialized "java/lang/System" ∈ lw_g := tbm0 7 rfl rfl
theorem ini_TL : Cond.initialized RTL ∈ lw_g := tbm0 8 rfl rfl
theorem ini_LL : Cond.initialized RLL ∈ lw_g := tbm0 9 rfl rfl
theorem ini_MD : Cond.initialized RMD ∈ lw_g := tbm0 10 rfl rfl
theorem cl_LW_7 : Cond.classLink RLW 7 RPP ∈ lw_g := tbm0 11 rfl rfl
theorem ist_PP : Cond.instantiable RPP 5 ∈ lw_g := tbm0 12 rfl rfl
theorem cl_PP_7 : Cond.classLink RPP 7 RST ∈ lw_g := tbm0 19 rfl rfl
theorem ist_ST : Cond.instantiable RST 3 ∈ lw_g := tbm0 20 rfl rfl
theorem cl_ST_9 : Cond.classLink RST 9 RIL ∈ lw_g := tbm0 25 rfl rfl
theorem ist_IL : Cond.instantiable RIL 2 ∈ lw_g := tbm0 26 rfl rfl
theorem fl_IL_11 : Cond.fieldLink RIL 11 "ProofPacker$IntList" "items" "[I" ∈ lw_g := tbm0 31 rfl rfl
theorem fl_IL_15 : Cond.fieldLink RIL 15 "ProofPacker$IntList" "used" "I" ∈ lw_g := tbm0 32 rfl rfl
theorem arr_int : Cond.arrayClass .int ∈ lw_g := tbm0 38 rfl rfl
theorem fl_ST_12 : Cond.fieldLink RST 12 "ProofPacker$Statements" "takings" "LProofPacker$IntList;" ∈ lw_g := tbm0 39 rfl rfl
theorem fl_ST_18 : Cond.fieldLink RST 18 "ProofPacker$Statements" "places" "LProofPacker$IntList;" ∈ lw_g := tbm0 40 rfl rfl
theorem fl_ST_21 : Cond.fieldLink RST 21 "ProofPacker$Statements" "mandatories" "I" ∈ lw_g := tbm0 41 rfl rfl
theorem cl_PP_16 : Cond.classLink RPP 16 RRW ∈ lw_g := tbm0 49 rfl rfl
theorem ist_RW : Cond.instantiable RRW 9 ∈ lw_g := tbm0 50 rfl rfl
theorem cl_RW_9 : Cond.classLink RRW 9 RIL ∈ lw_g := tbm0 55 rfl rfl
theorem cl_AR_317 : Cond.classLink RAR 317 "[I" ∈ lw_g := tbm0 70 rfl rfl
theorem fl_RW_12 : Cond.fieldLink RRW 12 "ProofPacker$Rows" "statements" "LProofPacker$IntList;" ∈ lw_g := tbm0 80 rfl rfl
theorem fl_RW_18 : Cond.fieldLink RRW 18 "ProofPacker$Rows" "starts" "LProofPacker$IntList;" ∈ lw_g := tbm0 81 rfl rfl
theorem fl_RW_25 : Cond.fieldLink RRW 25 "ProofPacker$Rows" "parts" "LProofPacker$IntList;" ∈ lw_g := tbm0 82 rfl rfl
theorem fl_RW_28 : Cond.fieldLink RRW 28 "ProofPacker$Rows" "partKinds" "LProofPacker$IntList;" ∈ lw_g := tbm0 83 rfl rfl
theorem fl_RW_31 : Cond.fieldLink RRW 31 "ProofPacker$Rows" "kinds" "LProofPacker$IntList;" ∈ lw_g := tbm0 84 rfl rfl
theorem fl_RW_34 : Cond.fieldLink RRW 34 "ProofPacker$Rows" "firstOfKind" "LProofPacker$IntList;" ∈ lw_g := tbm0 85 rfl rfl
theorem fl_RW_37 : Cond.fieldLink RRW 37 "ProofPacker$Rows" "olderKind" "LProofPacker$IntList;" ∈ lw_g := tbm0 86 rfl rfl
theorem fl_RW_40 : Cond.fieldLink RRW 40 "ProofPacker$Rows" "newestKind" "[I" ∈ lw_g := tbm0 87 rfl rfl
theorem fl_RW_50 : Cond.fieldLink RRW 50 "ProofPacker$Rows" "steps" "[J" ∈ lw_g := tbm0 88 rfl rfl
theorem arr_long : Cond.arrayClass .long ∈ lw_g := tbm0 108 rfl rfl
theorem cl_PP_23 : Cond.classLink RPP 23 RTL ∈ lw_g := tbm0 109 rfl rfl
theorem ist_TL : Cond.instantiable RTL 14 ∈ lw_g := tbm0 110 rfl rfl
theorem cl_TL_19 : Cond.classLink RTL 19 RIL ∈ lw_g := tbm0 115 rfl rfl
theorem cl_TL_32 : Cond.classLink RTL 32 RLL ∈ lw_g := tbm0 117 rfl rfl
theorem ist_LL : Cond.instantiable RLL 1 ∈ lw_g := tbm0 118 rfl rfl
theorem cl_LL_7 : Cond.classLink RLL 7 RIL ∈ lw_g := tbm0 123 rfl rfl
theorem fl_LL_10 : Cond.fieldLink RLL 10 "ProofPacker$LetterList" "letters" "LProofPacker$IntList;" ∈ lw_g := tbm0 125 rfl rfl
theorem fl_TL_9 : Cond.fieldLink RTL 9 "ProofPacker$Telling" "statements" "LProofPacker$Statements;" ∈ lw_g := tbm0 129 rfl rfl
theorem fl_TL_15 : Cond.fieldLink RTL 15 "ProofPacker$Telling" "rows" "LProofPacker$Rows;" ∈ lw_g := tbm0 130 rfl rfl
theorem fl_TL_22 : Cond.fieldLink RTL 22 "ProofPacker$Telling" "steps" "LProofPacker$IntList;" ∈ lw_g := tbm0 131 rfl rfl
theorem fl_TL_26 : Cond.fieldLink RTL 26 "ProofPacker$Telling" "savedAs" "LProofPacker$IntList;" ∈ lw_g := tbm0 132 rfl rfl
theorem fl_TL_29 : Cond.fieldLink RTL 29 "ProofPacker$Telling" "labels" "LProofPacker$IntList;" ∈ lw_g := tbm0 133 rfl rfl
theorem fl_TL_35 : Cond.fieldLink RTL 35 "ProofPacker$Telling" "letters" "LProofPacker$LetterList;" ∈ lw_g := tbm0 134 rfl rfl
theorem fl_TL_39 : Cond.fieldLink RTL 39 "ProofPacker$Telling" "rowTold" "I" ∈ lw_g := tbm0 135 rfl rfl
theorem fl_TL_43 : Cond.fieldLink RTL 43 "ProofPacker$Telling" "savedRows" "I" ∈ lw_g := tbm0 136 rfl rfl
theorem fl_TL_46 : Cond.fieldLink RTL 46 "ProofPacker$Telling" "openRows" "LProofPacker$IntList;" ∈ lw_g := tbm0 137 rfl rfl
theorem fl_TL_49 : Cond.fieldLink RTL 49 "ProofPacker$Telling" "openParts" "LProofPacker$IntList;" ∈ lw_g := tbm0 138 rfl rfl
theorem fl_TL_52 : Cond.fieldLink RTL 52 "ProofPacker$Telling" "toldAt" "LProofPacker$IntList;" ∈ lw_g := tbm0 139 rfl rfl
theorem fl_TL_55 : Cond.fieldLink RTL 55 "ProofPacker$Telling" "numbers" "LProofPacker$IntList;" ∈ lw_g := tbm0 140 rfl rfl
theorem fl_TL_58 : Cond.fieldLink RTL 58 "ProofPacker$Telling" "remade" "LProofPacker$IntList;" ∈ lw_g := tbm0 141 rfl rfl
theorem fl_TL_61 : Cond.fieldLink RTL 61 "ProofPacker$Telling" "savedKinds" "LProofPacker$IntList;" ∈ lw_g := tbm0 142 rfl rfl
theorem cl_PP_32 : Cond.classLink RPP 32 RIL ∈ lw_g := tbm0 172 rfl rfl
theorem fl_PP_10 : Cond.fieldLink RPP 10 "ProofPacker" "statements" "LProofPacker$Statements;" ∈ lw_g := tbm0 174 rfl rfl
theorem fl_PP_19 : Cond.fieldLink RPP 19 "ProofPacker" "rows" "LProofPacker$Rows;" ∈ lw_g := tbm0 175 rfl rfl
theorem fl_PP_28 : Cond.fieldLink RPP 28 "ProofPacker" "telling" "LProofPacker$Telling;" ∈ lw_g := tbm0 176 rfl rfl
theorem fl_PP_35 : Cond.fieldLink RPP 35 "ProofPacker" "pile" "LProofPacker$IntList;" ∈ lw_g := tbm0 177 rfl rfl
theorem fl_PP_39 : Cond.fieldLink RPP 39 "ProofPacker" "puts" "I" ∈ lw_g := tbm0 178 rfl rfl
theorem cl2_RW_113 : Cond.constantLong RRW 113 1000000000000000001 ∈ lw_g := tbm1 67 rfl rfl
theorem cl_AR_320 : Cond.classLink RAR 320 "[J" ∈ lw_g := tbm1 82 rfl rfl
theorem cn_TL_110 : Cond.constant RTL 110 1000000 ∈ lw_g := tbm1 161 rfl rfl
theorem cl2_PP_132 : Cond.constantLong RPP 132 (-1) ∈ lw_g := tbm2 42 rfl rfl
theorem cl2_PP_138 : Cond.constantLong RPP 138 1000000000000000000 ∈ lw_g := tbm2 44 rfl rfl
theorem cl2_PP_140 : Cond.constantLong RPP 140 (-2) ∈ lw_g := tbm2 45 rfl rfl
theorem cl2_PP_142 : Cond.constantLong RPP 142 4000 ∈ lw_g := tbm2 50 rfl rfl
theorem cl_LW_10 : Cond.classLink RLW 10 RMD ∈ lw_g := tbm2 73 rfl rfl
theorem ist_MD : Cond.instantiable RMD 28 ∈ lw_g := tbm2 74 rfl rfl
theorem cn_MD_54 : Cond.constant RMD 54 120000 ∈ lw_g := tbm2 79 rfl rfl
theorem fl_MD_67 : Cond.fieldLink RMD 67 "ProofPackerModel" "statements" "I" ∈ lw_g := tbm2 80 rfl rfl
theorem fl_MD_7 : Cond.fieldLink RMD 7 "ProofPackerModel" "takes" "[I" ∈ lw_g := tbm2 81 rfl rfl
theorem fl_MD_13 : Cond.fieldLink RMD 13 "ProofPackerModel" "mandatories" "[I" ∈ lw_g := tbm2 82 rfl rfl
theorem fl_MD_71 : Cond.fieldLink RMD 71 "ProofPackerModel" "mandatoryCount" "I" ∈ lw_g := tbm2 83 rfl rfl
theorem fl_MD_93 : Cond.fieldLink RMD 93 "ProofPackerModel" "rows" "I" ∈ lw_g := tbm2 84 rfl rfl
theorem fl_MD_16 : Cond.fieldLink RMD 16 "ProofPackerModel" "makers" "[I" ∈ lw_g := tbm2 85 rfl rfl
theorem fl_MD_19 : Cond.fieldLink RMD 19 "ProofPackerModel" "fromAt" "[I" ∈ lw_g := tbm2 86 rfl rfl
theorem fl_MD_22 : Cond.fieldLink RMD 22 "ProofPackerModel" "firstSame" "[I" ∈ lw_g := tbm2 87 rfl rfl
theorem fl_MD_25 : Cond.fieldLink RMD 25 "ProofPackerModel" "sizes" "[J" ∈ lw_g := tbm2 88 rfl rfl
theorem fl_MD_29 : Cond.fieldLink RMD 29 "ProofPackerModel" "froms" "[I" ∈ lw_g := tbm2 89 rfl rfl
theorem fl_MD_99 : Cond.fieldLink RMD 99 "ProofPackerModel" "fromCount" "I" ∈ lw_g := tbm2 90 rfl rfl
theorem fl_MD_32 : Cond.fieldLink RMD 32 "ProofPackerModel" "pile" "[I" ∈ lw_g := tbm2 91 rfl rfl
theorem fl_MD_90 : Cond.fieldLink RMD 90 "ProofPackerModel" "piled" "I" ∈ lw_g := tbm2 92 rfl rfl
theorem fl_MD_96 : Cond.fieldLink RMD 96 "ProofPackerModel" "puts" "I" ∈ lw_g := tbm2 93 rfl rfl
theorem fl_MD_112 : Cond.fieldLink RMD 112 "ProofPackerModel" "steps" "I" ∈ lw_g := tbm2 94 rfl rfl
theorem fl_MD_35 : Cond.fieldLink RMD 35 "ProofPackerModel" "toldStep" "[I" ∈ lw_g := tbm2 95 rfl rfl
theorem fl_MD_38 : Cond.fieldLink RMD 38 "ProofPackerModel" "stepRow" "[I" ∈ lw_g := tbm2 96 rfl rfl
theorem fl_MD_41 : Cond.fieldLink RMD 41 "ProofPackerModel" "isSaved" "[Z" ∈ lw_g := tbm2 97 rfl rfl
theorem fl_MD_45 : Cond.fieldLink RMD 45 "ProofPackerModel" "isTold" "[Z" ∈ lw_g := tbm2 98 rfl rfl
theorem fl_MD_48 : Cond.fieldLink RMD 48 "ProofPackerModel" "savedNumber" "[I" ∈ lw_g := tbm2 99 rfl rfl
theorem fl_MD_121 : Cond.fieldLink RMD 121 "ProofPackerModel" "savedCount" "I" ∈ lw_g := tbm2 100 rfl rfl
theorem fl_MD_51 : Cond.fieldLink RMD 51 "ProofPackerModel" "labels" "[I" ∈ lw_g := tbm2 101 rfl rfl
theorem fl_MD_115 : Cond.fieldLink RMD 115 "ProofPackerModel" "labelCount" "I" ∈ lw_g := tbm2 102 rfl rfl
theorem fl_MD_55 : Cond.fieldLink RMD 55 "ProofPackerModel" "letters" "[I" ∈ lw_g := tbm2 103 rfl rfl
theorem fl_MD_118 : Cond.fieldLink RMD 118 "ProofPackerModel" "letterCount" "I" ∈ lw_g := tbm2 104 rfl rfl
theorem fl_MD_58 : Cond.fieldLink RMD 58 "ProofPackerModel" "saving" "[Z" ∈ lw_g := tbm2 105 rfl rfl
theorem fl_MD_61 : Cond.fieldLink RMD 61 "ProofPackerModel" "walk" "[I" ∈ lw_g := tbm2 106 rfl rfl
theorem fl_MD_64 : Cond.fieldLink RMD 64 "ProofPackerModel" "walkAt" "[I" ∈ lw_g := tbm2 107 rfl rfl
theorem arr_boolean : Cond.arrayClass .boolean ∈ lw_g := tbm2 165 rfl rfl
theorem cl2_MD_86 : Cond.constantLong RMD 86 1000000000000000000 ∈ lw_g := tbm2 198 rfl rfl
theorem cl2_MD_88 : Cond.constantLong RMD 88 1000000000000000001 ∈ lw_g := tbm2 199 rfl rfl
theorem cl2_MD_150 : Cond.constantLong RMD 150 (-1) ∈ lw_g := tbm3 48 rfl rfl
theorem cl2_MD_152 : Cond.constantLong RMD 152 (-2) ∈ lw_g := tbm3 49 rfl rfl
theorem cl2_MD_154 : Cond.constantLong RMD 154 4000 ∈ lw_g := tbm3 54 rfl rfl
