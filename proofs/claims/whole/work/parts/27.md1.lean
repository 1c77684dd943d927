abbrev tMD : Type := Int32 × (Nat → Int32) × (Nat → Int32) × Int32 × Int32 × (Nat → Int32) × (Nat → Int32) × (Nat → Int32) × (Nat → Int64) × (Nat → Int32) × Int32 × (Nat → Int32) × Int32 × Int32 × Int32 × (Nat → Int32) × (Nat → Int32) × (Nat → Int32) × (Nat → Int32) × (Nat → Int32) × Int32 × (Nat → Int32) × Int32 × (Nat → Int32) × Int32 × (Nat → Int32) × (Nat → Int32) × (Nat → Int32)
abbrev gMD_statements (σ : tMD) : Int32 := σ.1
abbrev gMD_takes (σ : tMD) : Nat → Int32 := σ.2.1
abbrev gMD_mandatories (σ : tMD) : Nat → Int32 := σ.2.2.1
abbrev gMD_mandatoryCount (σ : tMD) : Int32 := σ.2.2.2.1
abbrev gMD_rows (σ : tMD) : Int32 := σ.2.2.2.2.1
abbrev gMD_makers (σ : tMD) : Nat → Int32 := σ.2.2.2.2.2.1
abbrev gMD_fromAt (σ : tMD) : Nat → Int32 := σ.2.2.2.2.2.2.1
abbrev gMD_firstSame (σ : tMD) : Nat → Int32 := σ.2.2.2.2.2.2.2.1
abbrev gMD_sizes (σ : tMD) : Nat → Int64 := σ.2.2.2.2.2.2.2.2.1
abbrev gMD_froms (σ : tMD) : Nat → Int32 := σ.2.2.2.2.2.2.2.2.2.1
abbrev gMD_fromCount (σ : tMD) : Int32 := σ.2.2.2.2.2.2.2.2.2.2.1
abbrev gMD_pile (σ : tMD) : Nat → Int32 := σ.2.2.2.2.2.2.2.2.2.2.2.1
abbrev gMD_piled (σ : tMD) : Int32 := σ.2.2.2.2.2.2.2.2.2.2.2.2.1
abbrev gMD_puts (σ : tMD) : Int32 := σ.2.2.2.2.2.2.2.2.2.2.2.2.2.1
abbrev gMD_steps (σ : tMD) : Int32 := σ.2.2.2.2.2.2.2.2.2.2.2.2.2.2.1
abbrev gMD_toldStep (σ : tMD) : Nat → Int32 := σ.2.2.2.2.2.2.2.2.2.2.2.2.2.2.2.1
abbrev gMD_stepRow (σ : tMD) : Nat → Int32 := σ.2.2.2.2.2.2.2.2.2.2.2.2.2.2.2.2.1
abbrev gMD_isSaved (σ : tMD) : Nat → Int32 := σ.2.2.2.2.2.2.2.2.2.2.2.2.2.2.2.2.2.1
abbrev gMD_isTold (σ : tMD) : Nat → Int32 := σ.2.2.2.2.2.2.2.2.2.2.2.2.2.2.2.2.2.2.1
abbrev gMD_savedNumber (σ : tMD) : Nat → Int32 := σ.2.2.2.2.2.2.2.2.2.2.2.2.2.2.2.2.2.2.2.1
abbrev gMD_savedCount (σ : tMD) : Int32 := σ.2.2.2.2.2.2.2.2.2.2.2.2.2.2.2.2.2.2.2.2.1
abbrev gMD_labels (σ : tMD) : Nat → Int32 := σ.2.2.2.2.2.2.2.2.2.2.2.2.2.2.2.2.2.2.2.2.2.1
abbrev gMD_labelCount (σ : tMD) : Int32 := σ.2.2.2.2.2.2.2.2.2.2.2.2.2.2.2.2.2.2.2.2.2.2.1
abbrev gMD_letters (σ : tMD) : Nat → Int32 := σ.2.2.2.2.2.2.2.2.2.2.2.2.2.2.2.2.2.2.2.2.2.2.2.1
abbrev gMD_letterCount (σ : tMD) : Int32 := σ.2.2.2.2.2.2.2.2.2.2.2.2.2.2.2.2.2.2.2.2.2.2.2.2.1
abbrev gMD_saving (σ : tMD) : Nat → Int32 := σ.2.2.2.2.2.2.2.2.2.2.2.2.2.2.2.2.2.2.2.2.2.2.2.2.2.1
abbrev gMD_walk (σ : tMD) : Nat → Int32 := σ.2.2.2.2.2.2.2.2.2.2.2.2.2.2.2.2.2.2.2.2.2.2.2.2.2.2.1
abbrev gMD_walkAt (σ : tMD) : Nat → Int32 := σ.2.2.2.2.2.2.2.2.2.2.2.2.2.2.2.2.2.2.2.2.2.2.2.2.2.2.2
def uMD_statements (σ : tMD) (v : Int32) : tMD := (v, gMD_takes σ, gMD_mandatories σ, gMD_mandatoryCount σ, gMD_rows σ, gMD_makers σ, gMD_fromAt σ, gMD_firstSame σ, gMD_sizes σ, gMD_froms σ, gMD_fromCount σ, gMD_pile σ, gMD_piled σ, gMD_puts σ, gMD_steps σ, gMD_toldStep σ, gMD_stepRow σ, gMD_isSaved σ, gMD_isTold σ, gMD_savedNumber σ, gMD_savedCount σ, gMD_labels σ, gMD_labelCount σ, gMD_letters σ, gMD_letterCount σ, gMD_saving σ, gMD_walk σ, gMD_walkAt σ)
def uMD_takes (σ : tMD) (v : Nat → Int32) : tMD := (gMD_statements σ, v, gMD_mandatories σ, gMD_mandatoryCount σ, gMD_rows σ, gMD_makers σ, gMD_fromAt σ, gMD_firstSame σ, gMD_sizes σ, gMD_froms σ, gMD_fromCount σ, gMD_pile σ, gMD_piled σ, gMD_puts σ, gMD_steps σ, gMD_toldStep σ, gMD_stepRow σ, gMD_isSaved σ, gMD_isTold σ, gMD_savedNumber σ, gMD_savedCount σ, gMD_labels σ, gMD_labelCount σ, gMD_letters σ, gMD_letterCount σ, gMD_saving σ, gMD_walk σ, gMD_walkAt σ)
def uMD_mandatories (σ : tMD) (v : Nat → Int32) : tMD := (gMD_statements σ, gMD_takes σ, v, gMD_mandatoryCount σ, gMD_rows σ, gMD_makers σ, gMD_fromAt σ, gMD_firstSame σ, gMD_sizes σ, gMD_froms σ, gMD_fromCount σ, gMD_pile σ, gMD_piled σ, gMD_puts σ, gMD_steps σ, gMD_toldStep σ, gMD_stepRow σ, gMD_isSaved σ, gMD_isTold σ, gMD_savedNumber σ, gMD_savedCount σ, gMD_labels σ, gMD_labelCount σ, gMD_letters σ, gMD_letterCount σ, gMD_saving σ, gMD_walk σ, gMD_walkAt σ)
def uMD_mandatoryCount (σ : tMD) (v : Int32) : tMD := (gMD_statements σ, gMD_takes σ, gMD_mandatories σ, v, gMD_rows σ, gMD_makers σ, gMD_fromAt σ, gMD_firstSame σ, gMD_sizes σ, gMD_froms σ, gMD_fromCount σ, gMD_pile σ, gMD_piled σ, gMD_puts σ, gMD_steps σ, gMD_toldStep σ, gMD_stepRow σ, gMD_isSaved σ, gMD_isTold σ, gMD_savedNumber σ, gMD_savedCount σ, gMD_labels σ, gMD_labelCount σ, gMD_letters σ, gMD_letterCount σ, gMD_saving σ, gMD_walk σ, gMD_walkAt σ)
def uMD_rows (σ : tMD) (v : Int32) : tMD := (gMD_statements σ, gMD_takes σ, gMD_mandatories σ, gMD_mandatoryCount σ, v, gMD_makers σ, gMD_fromAt σ, gMD_firstSame σ, gMD_sizes σ, gMD_froms σ, gMD_fromCount σ, gMD_pile σ, gMD_piled σ, gMD_puts σ, gMD_steps σ, gMD_toldStep σ, gMD_stepRow σ, gMD_isSaved σ, gMD_isTold σ, gMD_savedNumber σ, gMD_savedCount σ, gMD_labels σ, gMD_labelCount σ, gMD_letters σ, gMD_letterCount σ, gMD_saving σ, gMD_walk σ, gMD_walkAt σ)
def uMD_makers (σ : tMD) (v : Nat → Int32) : tMD := (gMD_statements σ, gMD_takes σ, gMD_mandatories σ, gMD_mandatoryCount σ, gMD_rows σ, v, gMD_fromAt σ, gMD_firstSame σ, gMD_sizes σ, gMD_froms σ, gMD_fromCount σ, gMD_pile σ, gMD_piled σ, gMD_puts σ, gMD_steps σ, gMD_toldStep σ, gMD_stepRow σ, gMD_isSaved σ, gMD_isTold σ, gMD_savedNumber σ, gMD_savedCount σ, gMD_labels σ, gMD_labelCount σ, gMD_letters σ, gMD_letterCount σ, gMD_saving σ, gMD_walk σ, gMD_walkAt σ)
def uMD_fromAt (σ : tMD) (v : Nat → Int32) : tMD := (gMD_statements σ, gMD_takes σ, gMD_mandatories σ, gMD_mandatoryCount σ, gMD_rows σ, gMD_makers σ, v, gMD_firstSame σ, gMD_sizes σ, gMD_froms σ, gMD_fromCount σ, gMD_pile σ, gMD_piled σ, gMD_puts σ, gMD_steps σ, gMD_toldStep σ, gMD_stepRow σ, gMD_isSaved σ, gMD_isTold σ, gMD_savedNumber σ, gMD_savedCount σ, gMD_labels σ, gMD_labelCount σ, gMD_letters σ, gMD_letterCount σ, gMD_saving σ, gMD_walk σ, gMD_walkAt σ)
def uMD_firstSame (σ : tMD) (v : Nat → Int32) : tMD := (gMD_statements σ, gMD_takes σ, gMD_mandatories σ, gMD_mandatoryCount σ, gMD_rows σ, gMD_makers σ, gMD_fromAt σ, v, gMD_sizes σ, gMD_froms σ, gMD_fromCount σ, gMD_pile σ, gMD_piled σ, gMD_puts σ, gMD_steps σ, gMD_toldStep σ, gMD_stepRow σ, gMD_isSaved σ, gMD_isTold σ, gMD_savedNumber σ, gMD_savedCount σ, gMD_labels σ, gMD_labelCount σ, gMD_letters σ, gMD_letterCount σ, gMD_saving σ, gMD_walk σ, gMD_walkAt σ)
def uMD_sizes (σ : tMD) (v : Nat → Int64) : tMD := (gMD_statements σ, gMD_takes σ, gMD_mandatories σ, gMD_mandatoryCount σ, gMD_rows σ, gMD_makers σ, gMD_fromAt σ, gMD_firstSame σ, v, gMD_froms σ, gMD_fromCount σ, gMD_pile σ, gMD_piled σ, gMD_puts σ, gMD_steps σ, gMD_toldStep σ, gMD_stepRow σ, gMD_isSaved σ, gMD_isTold σ, gMD_savedNumber σ, gMD_savedCount σ, gMD_labels σ, gMD_labelCount σ, gMD_letters σ, gMD_letterCount σ, gMD_saving σ, gMD_walk σ, gMD_walkAt σ)
def uMD_froms (σ : tMD) (v : Nat → Int32) : tMD := (gMD_statements σ, gMD_takes σ, gMD_mandatories σ, gMD_mandatoryCount σ, gMD_rows σ, gMD_makers σ, gMD_fromAt σ, gMD_firstSame σ, gMD_sizes σ, v, gMD_fromCount σ, gMD_pile σ, gMD_piled σ, gMD_puts σ, gMD_steps σ, gMD_toldStep σ, gMD_stepRow σ, gMD_isSaved σ, gMD_isTold σ, gMD_savedNumber σ, gMD_savedCount σ, gMD_labels σ, gMD_labelCount σ, gMD_letters σ, gMD_letterCount σ, gMD_saving σ, gMD_walk σ, gMD_walkAt σ)
def uMD_fromCount (σ : tMD) (v : Int32) : tMD := (gMD_statements σ, gMD_takes σ, gMD_mandatories σ, gMD_mandatoryCount σ, gMD_rows σ, gMD_makers σ, gMD_fromAt σ, gMD_firstSame σ, gMD_sizes σ, gMD_froms σ, v, gMD_pile σ, gMD_piled σ, gMD_puts σ, gMD_steps σ, gMD_toldStep σ, gMD_stepRow σ, gMD_isSaved σ, gMD_isTold σ, gMD_savedNumber σ, gMD_savedCount σ, gMD_labels σ, gMD_labelCount σ, gMD_letters σ, gMD_letterCount σ, gMD_saving σ, gMD_walk σ, gMD_walkAt σ)
def uMD_pile (σ : tMD) (v : Nat → Int32) : tMD := (gMD_statements σ, gMD_takes σ, gMD_mandatories σ, gMD_mandatoryCount σ, gMD_rows σ, gMD_makers σ, gMD_fromAt σ, gMD_firstSame σ, gMD_sizes σ, gMD_froms σ, gMD_fromCount σ, v, gMD_piled σ, gMD_puts σ, gMD_steps σ, gMD_toldStep σ, gMD_stepRow σ, gMD_isSaved σ, gMD_isTold σ, gMD_savedNumber σ, gMD_savedCount σ, gMD_labels σ, gMD_labelCount σ, gMD_letters σ, gMD_letterCount σ, gMD_saving σ, gMD_walk σ, gMD_walkAt σ)
def uMD_piled (σ : tMD) (v : Int32) : tMD := (gMD_statements σ, gMD_takes σ, gMD_mandatories σ, gMD_mandatoryCount σ, gMD_rows σ, gMD_makers σ, gMD_fromAt σ, gMD_firstSame σ, gMD_sizes σ, gMD_froms σ, gMD_fromCount σ, gMD_pile σ, v, gMD_puts σ, gMD_steps σ, gMD_toldStep σ, gMD_stepRow σ, gMD_isSaved σ, gMD_isTold σ, gMD_savedNumber σ, gMD_savedCount σ, gMD_labels σ, gMD_labelCount σ, gMD_letters σ, gMD_letterCount σ, gMD_saving σ, gMD_walk σ, gMD_walkAt σ)
def uMD_puts (σ : tMD) (v : Int32) : tMD := (gMD_statements σ, gMD_takes σ, gMD_mandatories σ, gMD_mandatoryCount σ, gMD_rows σ, gMD_makers σ, gMD_fromAt σ, gMD_firstSame σ, gMD_sizes σ, gMD_froms σ, gMD_fromCount σ, gMD_pile σ, gMD_piled σ, v, gMD_steps σ, gMD_toldStep σ, gMD_stepRow σ, gMD_isSaved σ, gMD_isTold σ, gMD_savedNumber σ, gMD_savedCount σ, gMD_labels σ, gMD_labelCount σ, gMD_letters σ, gMD_letterCount σ, gMD_saving σ, gMD_walk σ, gMD_walkAt σ)
def uMD_steps (σ : tMD) (v : Int32) : tMD := (gMD_statements σ, gMD_takes σ, gMD_mandatories σ, gMD_mandatoryCount σ, gMD_rows σ, gMD_makers σ, gMD_fromAt σ, gMD_firstSame σ, gMD_sizes σ, gMD_froms σ, gMD_fromCount σ, gMD_pile σ, gMD_piled σ, gMD_puts σ, v, gMD_toldStep σ, gMD_stepRow σ, gMD_isSaved σ, gMD_isTold σ, gMD_savedNumber σ, gMD_savedCount σ, gMD_labels σ, gMD_labelCount σ, gMD_letters σ, gMD_letterCount σ, gMD_saving σ, gMD_walk σ, gMD_walkAt σ)
def uMD_toldStep (σ : tMD) (v : Nat → Int32) : tMD := (gMD_statements σ, gMD_takes σ, gMD_mandatories σ, gMD_mandatoryCount σ, gMD_rows σ, gMD_makers σ, gMD_fromAt σ, gMD_firstSame σ, gMD_sizes σ, gMD_froms σ, gMD_fromCount σ, gMD_pile σ, gMD_piled σ, gMD_puts σ, gMD_steps σ, v, gMD_stepRow σ, gMD_isSaved σ, gMD_isTold σ, gMD_savedNumber σ, gMD_savedCount σ, gMD_labels σ, gMD_labelCount σ, gMD_letters σ, gMD_letterCount σ, gMD_saving σ, gMD_walk σ, gMD_walkAt σ)
def uMD_stepRow (σ : tMD) (v : Nat → Int32) : tMD := (gMD_statements σ, gMD_takes σ, gMD_mandatories σ, gMD_mandatoryCount σ, gMD_rows σ, gMD_makers σ, gMD_fromAt σ, gMD_firstSame σ, gMD_sizes σ, gMD_froms σ, gMD_fromCount σ, gMD_pile σ, gMD_piled σ, gMD_puts σ, gMD_steps σ, gMD_toldStep σ, v, gMD_isSaved σ, gMD_isTold σ, gMD_savedNumber σ, gMD_savedCount σ, gMD_labels σ, gMD_labelCount σ, gMD_letters σ, gMD_letterCount σ, gMD_saving σ, gMD_walk σ, gMD_walkAt σ)
def uMD_isSaved (σ : tMD) (v : Nat → Int32) : tMD := (gMD_statements σ, gMD_takes σ, gMD_mandatories σ, gMD_mandatoryCount σ, gMD_rows σ, gMD_makers σ, gMD_fromAt σ, gMD_firstSame σ, gMD_sizes σ, gMD_froms σ, gMD_fromCount σ, gMD_pile σ, gMD_piled σ, gMD_puts σ, gMD_steps σ, gMD_toldStep σ, gMD_stepRow σ, v, gMD_isTold σ, gMD_savedNumber σ, gMD_savedCount σ, gMD_labels σ, gMD_labelCount σ, gMD_letters σ, gMD_letterCount σ, gMD_saving σ, gMD_walk σ, gMD_walkAt σ)
def uMD_isTold (σ : tMD) (v : Nat → Int32) : tMD := (gMD_statements σ, gMD_takes σ, gMD_mandatories σ, gMD_mandatoryCount σ, gMD_rows σ, gMD_makers σ, gMD_fromAt σ, gMD_firstSame σ, gMD_sizes σ, gMD_froms σ, gMD_fromCount σ, gMD_pile σ, gMD_piled σ, gMD_puts σ, gMD_steps σ, gMD_toldStep σ, gMD_stepRow σ, gMD_isSaved σ, v, gMD_savedNumber σ, gMD_savedCount σ, gMD_labels σ, gMD_labelCount σ, gMD_letters σ, gMD_letterCount σ, gMD_saving σ, gMD_walk σ, gMD_walkAt σ)
def uMD_savedNumber (σ : tMD) (v : Nat → Int32) : tMD := (gMD_statements σ, gMD_takes σ, gMD_mandatories σ, gMD_mandatoryCount σ, gMD_rows σ, gMD_makers σ, gMD_fromAt σ, gMD_firstSame σ, gMD_sizes σ, gMD_froms σ, gMD_fromCount σ, gMD_pile σ, gMD_piled σ, gMD_puts σ, gMD_steps σ, gMD_toldStep σ, gMD_stepRow σ, gMD_isSaved σ, gMD_isTold σ, v, gMD_savedCount σ, gMD_labels σ, gMD_labelCount σ, gMD_letters σ, gMD_letterCount σ, gMD_saving σ, gMD_walk σ, gMD_walkAt σ)
def uMD_savedCount (σ : tMD) (v : Int32) : tMD := (gMD_statements σ, gMD_takes σ, gMD_mandatories σ, gMD_mandatoryCount σ, gMD_rows σ, gMD_makers σ, gMD_fromAt σ, gMD_firstSame σ, gMD_sizes σ, gMD_froms σ, gMD_fromCount σ, gMD_pile σ, gMD_piled σ, gMD_puts σ, gMD_steps σ, gMD_toldStep σ, gMD_stepRow σ, gMD_isSaved σ, gMD_isTold σ, gMD_savedNumber σ, v, gMD_labels σ, gMD_labelCount σ, gMD_letters σ, gMD_letterCount σ, gMD_saving σ, gMD_walk σ, gMD_walkAt σ)
def uMD_labels (σ : tMD) (v : Nat → Int32) : tMD := (gMD_statements σ, gMD_takes σ, gMD_mandatories σ, gMD_mandatoryCount σ, gMD_rows σ, gMD_makers σ, gMD_fromAt σ, gMD_firstSame σ, gMD_sizes σ, gMD_froms σ, gMD_fromCount σ, gMD_pile σ, gMD_piled σ, gMD_puts σ, gMD_steps σ, gMD_toldStep σ, gMD_stepRow σ, gMD_isSaved σ, gMD_isTold σ, gMD_savedNumber σ, gMD_savedCount σ, v, gMD_labelCount σ, gMD_letters σ, gMD_letterCount σ, gMD_saving σ, gMD_walk σ, gMD_walkAt σ)
def uMD_labelCount (σ : tMD) (v : Int32) : tMD := (gMD_statements σ, gMD_takes σ, gMD_mandatories σ, gMD_mandatoryCount σ, gMD_rows σ, gMD_makers σ, gMD_fromAt σ, gMD_firstSame σ, gMD_sizes σ, gMD_froms σ, gMD_fromCount σ, gMD_pile σ, gMD_piled σ, gMD_puts σ, gMD_steps σ, gMD_toldStep σ, gMD_stepRow σ, gMD_isSaved σ, gMD_isTold σ, gMD_savedNumber σ, gMD_savedCount σ, gMD_labels σ, v, gMD_letters σ, gMD_letterCount σ, gMD_saving σ, gMD_walk σ, gMD_walkAt σ)
def uMD_letters (σ : tMD) (v : Nat → Int32) : tMD := (gMD_statements σ, gMD_takes σ, gMD_mandatories σ, gMD_mandatoryCount σ, gMD_rows σ, gMD_makers σ, gMD_fromAt σ, gMD_firstSame σ, gMD_sizes σ, gMD_froms σ, gMD_fromCount σ, gMD_pile σ, gMD_piled σ, gMD_puts σ, gMD_steps σ, gMD_toldStep σ, gMD_stepRow σ, gMD_isSaved σ, gMD_isTold σ, gMD_savedNumber σ, gMD_savedCount σ, gMD_labels σ, gMD_labelCount σ, v, gMD_letterCount σ, gMD_saving σ, gMD_walk σ, gMD_walkAt σ)
def uMD_letterCount (σ : tMD) (v : Int32) : tMD := (gMD_statements σ, gMD_takes σ, gMD_mandatories σ, gMD_mandatoryCount σ, gMD_rows σ, gMD_makers σ, gMD_fromAt σ, gMD_firstSame σ, gMD_sizes σ, gMD_froms σ, gMD_fromCount σ, gMD_pile σ, gMD_piled σ, gMD_puts σ, gMD_steps σ, gMD_toldStep σ, gMD_stepRow σ, gMD_isSaved σ, gMD_isTold σ, gMD_savedNumber σ, gMD_savedCount σ, gMD_labels σ, gMD_labelCount σ, gMD_letters σ, v, gMD_saving σ, gMD_walk σ, gMD_walkAt σ)
def uMD_saving (σ : tMD) (v : Nat → Int32) : tMD := (gMD_statements σ, gMD_takes σ, gMD_mandatories σ, gMD_mandatoryCount σ, gMD_rows σ, gMD_makers σ, gMD_fromAt σ, gMD_firstSame σ, gMD_sizes σ, gMD_froms σ, gMD_fromCount σ, gMD_pile σ, gMD_piled σ, gMD_puts σ, gMD_steps σ, gMD_toldStep σ, gMD_stepRow σ, gMD_isSaved σ, gMD_isTold σ, gMD_savedNumber σ, gMD_savedCount σ, gMD_labels σ, gMD_labelCount σ, gMD_letters σ, gMD_letterCount σ, v, gMD_walk σ, gMD_walkAt σ)
def uMD_walk (σ : tMD) (v : Nat → Int32) : tMD := (gMD_statements σ, gMD_takes σ, gMD_mandatories σ, gMD_mandatoryCount σ, gMD_rows σ, gMD_makers σ, gMD_fromAt σ, gMD_firstSame σ, gMD_sizes σ, gMD_froms σ, gMD_fromCount σ, gMD_pile σ, gMD_piled σ, gMD_puts σ, gMD_steps σ, gMD_toldStep σ, gMD_stepRow σ, gMD_isSaved σ, gMD_isTold σ, gMD_savedNumber σ, gMD_savedCount σ, gMD_labels σ, gMD_labelCount σ, gMD_letters σ, gMD_letterCount σ, gMD_saving σ, v, gMD_walkAt σ)
def uMD_walkAt (σ : tMD) (v : Nat → Int32) : tMD := (gMD_statements σ, gMD_takes σ, gMD_mandatories σ, gMD_mandatoryCount σ, gMD_rows σ, gMD_makers σ, gMD_fromAt σ, gMD_firstSame σ, gMD_sizes σ, gMD_froms σ, gMD_fromCount σ, gMD_pile σ, gMD_piled σ, gMD_puts σ, gMD_steps σ, gMD_toldStep σ, gMD_stepRow σ, gMD_isSaved σ, gMD_isTold σ, gMD_savedNumber σ, gMD_savedCount σ, gMD_labels σ, gMD_labelCount σ, gMD_letters σ, gMD_letterCount σ, gMD_saving σ, gMD_walk σ, v)
def pMD (G : pG) (h0 : Nat) (σ : tMD) (w : va_W) : Prop := ∃ (q1 q2 q5 q6 q7 q8 q9 q11 q15 q16 q17 q18 q19 q21 q23 q25 q26 q27 : Nat), w = [[(h0, .inr (6, [.int (gMD_statements σ), .ref q1, .ref q2, .int (gMD_mandatoryCount σ), .int (gMD_rows σ), .ref q5, .ref q6, .ref q7, .ref q8, .ref q9, .int (gMD_fromCount σ), .ref q11, .int (gMD_piled σ), .int (gMD_puts σ), .int (gMD_steps σ), .ref q15, .ref q16, .ref q17, .ref q18, .ref q19, .int (gMD_savedCount σ), .ref q21, .int (gMD_labelCount σ), .ref q23, .int (gMD_letterCount σ), .ref q25, .ref q26, .ref q27]))], [(q1, .inl (G.2.1, 1500, .inl (gMD_takes σ)))], [(q2, .inl (G.2.1, 60, .inl (gMD_mandatories σ)))], [(q5, .inl (G.2.1, 4000, .inl (gMD_makers σ)))], [(q6, .inl (G.2.1, 4000, .inl (gMD_fromAt σ)))], [(q7, .inl (G.2.1, 4000, .inl (gMD_firstSame σ)))], [(q8, .inl (G.2.2.1, 4000, .inr (.inl (gMD_sizes σ))))], [(q9, .inl (G.2.1, 20100, .inl (gMD_froms σ)))], [(q11, .inl (G.2.1, 200, .inl (gMD_pile σ)))], [(q15, .inl (G.2.1, 26000, .inl (gMD_toldStep σ)))], [(q16, .inl (G.2.1, 26000, .inl (gMD_stepRow σ)))], [(q17, .inl (G.2.2.2, 4000, .inl (gMD_isSaved σ)))], [(q18, .inl (G.2.2.2, 4000, .inl (gMD_isTold σ)))], [(q19, .inl (G.2.1, 4000, .inl (gMD_savedNumber σ)))], [(q21, .inl (G.2.1, 1500, .inl (gMD_labels σ)))], [(q23, .inl (G.2.1, 120000, .inl (gMD_letters σ)))], [(q25, .inl (G.2.2.2, 26000, .inl (gMD_saving σ)))], [(q26, .inl (G.2.1, 4001, .inl (gMD_walk σ)))], [(q27, .inl (G.2.1, 4001, .inl (gMD_walkAt σ)))]].flatten
theorem pMD_recv {G : pG} {s : State} {H : Heap} {h0 : Nat} {σ : tMD} {w : va_W} (hK : va_K G.1 vwCl (tyG G) s) (hP : va_P G.1 vwCl w H) (h : pMD G h0  σ w) : ∃ cell : Cell, H[h0]? = some cell ∧ cell.vm.isStatics = false ∧ s.vm.findClass RMD = some cell.cls := by
  obtain ⟨q1, q2, q5, q6, q7, q8, q9, q11, q15, q16, q17, q18, q19, q21, q23, q25, q26, q27, rfl⟩ := h
  exact va_recv (q0 := 0) (ci := 6) hK hP rfl rfl

theorem nb_ok {v : Int32} (h : ¬ ¬ (v = 0 ∨ v = 1)) : narrow .boolean (.int v) = .int v := by
  rcases Classical.not_not.mp h with rfl | rfl <;> decide

def A_MD_isStatement (σ : tMD) (i : Int32) : Int32 := if i < 0 then 0 else (if (gMD_statements σ) ≤ i then 0 else 1)
set_option maxHeartbeats 4000000 in
set_option maxRecDepth 100000 in
theorem c_MD_isStatement (l : Launch) (G : pG) (h0 : Nat) (σ : tMD) (i : Int32) (H : Heap) (w : va_W) (hP0 : va_P G.1 vwCl w H) (hσ : pMD G h0 σ w) (res : Int32) (hr0 : A_MD_isStatement σ i = res) : MRi l y_MD_isStatement w_MD_isStatement 0 0 G [.ref h0, .int i] H res := by
  refine Met.ofW (cc := b_MD_isStatement) (maxL := 2) (ret := (some .boolean)) (by decide) rfl ?_
  intro p e s m args below meth c s₁ B hml hv
  obtain ⟨rfl, rfl, hK⟩ := hv
  have hx := B.exec
  have hb := B.bytes
  have hr := B.returns
  have hts0 := atoms_spec (ws := w_MD_isStatement) B.pre
  have hts := fun w (h : w ∈ lw_g) => hts0 w (List.mem_cons_of_mem _ h)
  have hown : s.vm.findClass RMD = some m.cls := findClass_of_methodNamed B.named
  have hlocks := B.notSynchronized
  have hσ0 := hσ
  obtain ⟨q1, q2, q3, q4, q5, q6, q7, q8, q9, q10, q11, q12, q13, q14, q15, q16, q17, q18, rfl⟩ := hσ
  have hP := hP0
  obtain ⟨A, hAe⟩ : ∃ A : Nat → Prop, A = fun _ => False := ⟨_, rfl⟩
  rw [← hAe]
  have hS : va_S A s.heap s.heap [] := va_S.rf
  have hl := lv_entry ([.ref h0, .int i]) (n := 2) (Nat.le_of_ble_eq_true rfl)
  rw [lg_entry_eq]
  generalize (lg_sl ([.ref h0, .int i]) ++ List.replicate (2 - (lg_sl ([.ref h0, .int i])).length) Slot.unset).toArray = ls at hl ⊢
  have hl : lv_has ls 2 [(0, .ref h0), (1, .int i)] := hl
  unfold A_MD_isStatement at hr0
  refine lv_iload_n hx hb d_MD_isStatement_0 rfl (lv_at hl 1 rfl) ?_
  refine lv_if_lt (tgt := 16) hx hb d_MD_isStatement_1 (by decide) (fun c19 => ?_) (fun c19 => ?_)
  · have hr0 := ai_pos c19 hr0
    refine lv_iconst (v := 0) hx hb d_MD_isStatement_16 (by decide) ?_
    exact W.zret (v := 0) hx hb hr (by decide) (fun t ht hW => ⟨⟨0, (), rfl, hr0, ht⟩, hS.F ht⟩) hS.2.2 d_MD_isStatement_17
  · have hr0 := ai_neg c19 hr0
    refine lv_iload_n hx hb d_MD_isStatement_4 rfl (lv_at hl 1 rfl) ?_
    refine lv_aload_n hx hb d_MD_isStatement_5 rfl (lv_at hl 0 rfl) ?_
    refine va_get (D := G.1) (ci := 6) (v := .int (gMD_statements σ)) (C := RMD) (T := TMD) (N := 28) hx hb hts inMD hown hK hP 0 rfl rfl 0 (by decide) (hts _ fl_MD_67) (fun _ h9 => h9) rfl d_MD_isStatement_6 ?_
    refine lv_icmp_ge (tgt := 16) hx hb d_MD_isStatement_9 (by decide) (fun c20 => ?_) (fun c20 => ?_)
    · have hr0 := ai_pos c20 hr0
      refine lv_iconst (v := 0) hx hb d_MD_isStatement_16 (by decide) ?_
      exact W.zret (v := 0) hx hb hr (by decide) (fun t ht hW => ⟨⟨0, (), rfl, hr0, ht⟩, hS.F ht⟩) hS.2.2 d_MD_isStatement_17
    · have hr0 := ai_neg c20 hr0
      refine lv_iconst (v := 1) hx hb d_MD_isStatement_12 (by decide) ?_
      refine lv_goto (tgt := 17) hx hb d_MD_isStatement_13 (by decide) ?_
      exact W.zret (v := 1) hx hb hr (by decide) (fun t ht hW => ⟨⟨1, (), rfl, hr0, ht⟩, hS.F ht⟩) hS.2.2 d_MD_isStatement_17

def A_MD_isRow (σ : tMD) (r : Int32) : Int32 := if r < 0 then 0 else (if (gMD_rows σ) ≤ r then 0 else 1)
set_option maxHeartbeats 4000000 in
set_option maxRecDepth 100000 in
theorem c_MD_isRow (l : Launch) (G : pG) (h0 : Nat) (σ : tMD) (r : Int32) (H : Heap) (w : va_W) (hP0 : va_P G.1 vwCl w H) (hσ : pMD G h0 σ w) (res : Int32) (hr0 : A_MD_isRow σ r = res) : MRi l y_MD_isRow w_MD_isRow 0 0 G [.ref h0, .int r] H res := by
  refine Met.ofW (cc := b_MD_isRow) (maxL := 2) (ret := (some .boolean)) (by decide) rfl ?_
  intro p e s m args below meth c s₁ B hml hv
  obtain ⟨rfl, rfl, hK⟩ := hv
  have hx := B.exec
  have hb := B.bytes
  have hr := B.returns
  have hts0 := atoms_spec (ws := w_MD_isRow) B.pre
  have hts := fun w (h : w ∈ lw_g) => hts0 w (List.mem_cons_of_mem _ h)
  have hown : s.vm.findClass RMD = some m.cls := findClass_of_methodNamed B.named
  have hlocks := B.notSynchronized
  have hσ0 := hσ
  obtain ⟨q1, q2, q3, q4, q5, q6, q7, q8, q9, q10, q11, q12, q13, q14, q15, q16, q17, q18, rfl⟩ := hσ
  have hP := hP0
  obtain ⟨A, hAe⟩ : ∃ A : Nat → Prop, A = fun _ => False := ⟨_, rfl⟩
  rw [← hAe]
  have hS : va_S A s.heap s.heap [] := va_S.rf
  have hl := lv_entry ([.ref h0, .int r]) (n := 2) (Nat.le_of_ble_eq_true rfl)
  rw [lg_entry_eq]
  generalize (lg_sl ([.ref h0, .int r]) ++ List.replicate (2 - (lg_sl ([.ref h0, .int r])).length) Slot.unset).toArray = ls at hl ⊢
  have hl : lv_has ls 2 [(0, .ref h0), (1, .int r)] := hl
  unfold A_MD_isRow at hr0
  refine lv_iload_n hx hb d_MD_isRow_0 rfl (lv_at hl 1 rfl) ?_
  refine lv_if_lt (tgt := 16) hx hb d_MD_isRow_1 (by decide) (fun c19 => ?_) (fun c19 => ?_)
  · have hr0 := ai_pos c19 hr0
    refine lv_iconst (v := 0) hx hb d_MD_isRow_16 (by decide) ?_
    exact W.zret (v := 0) hx hb hr (by decide) (fun t ht hW => ⟨⟨0, (), rfl, hr0, ht⟩, hS.F ht⟩) hS.2.2 d_MD_isRow_17
  · have hr0 := ai_neg c19 hr0
    refine lv_iload_n hx hb d_MD_isRow_4 rfl (lv_at hl 1 rfl) ?_
    refine lv_aload_n hx hb d_MD_isRow_5 rfl (lv_at hl 0 rfl) ?_
    refine va_get (D := G.1) (ci := 6) (v := .int (gMD_rows σ)) (C := RMD) (T := TMD) (N := 28) hx hb hts inMD hown hK hP 0 rfl rfl 4 (by decide) (hts _ fl_MD_93) (fun _ h9 => h9) rfl d_MD_isRow_6 ?_
    refine lv_icmp_ge (tgt := 16) hx hb d_MD_isRow_9 (by decide) (fun c20 => ?_) (fun c20 => ?_)
    · have hr0 := ai_pos c20 hr0
      refine lv_iconst (v := 0) hx hb d_MD_isRow_16 (by decide) ?_
      exact W.zret (v := 0) hx hb hr (by decide) (fun t ht hW => ⟨⟨0, (), rfl, hr0, ht⟩, hS.F ht⟩) hS.2.2 d_MD_isRow_17
    · have hr0 := ai_neg c20 hr0
      refine lv_iconst (v := 1) hx hb d_MD_isRow_12 (by decide) ?_
      refine lv_goto (tgt := 17) hx hb d_MD_isRow_13 (by decide) ?_
      exact W.zret (v := 1) hx hb hr (by decide) (fun t ht hW => ⟨⟨1, (), rfl, hr0, ht⟩, hS.F ht⟩) hS.2.2 d_MD_isRow_17

def A_MD_clear (σ : tMD) : Int32 × tMD := bnd (uMD_rows σ 0) (fun T19 => bnd (uMD_fromCount T19 0) (fun T21 => bnd (uMD_piled T21 0) (fun T23 => bnd (uMD_puts T23 0) (fun T25 => bnd (uMD_steps T25 0) (fun T27 => bnd (uMD_labelCount T27 0) (fun T29 => bnd (uMD_letterCount T29 0) (fun T31 => bnd (uMD_savedCount T31 0) (fun T33 => (gMD_rows σ, T33)))))))))
set_option maxHeartbeats 4000000 in
set_option maxRecDepth 100000 in
theorem c_MD_clear (l : Launch) (G : pG) (h0 : Nat) (σ : tMD) (H : Heap) (w : va_W) (hP0 : va_P G.1 vwCl w H) (hD0 : va_D (fun _ => True) w) (hσ : pMD G h0 σ w) (res : Int32 × tMD) (hr0 : A_MD_clear σ = res) : MWi l y_MD_clear w_MD_clear 0 0 0 G [.ref h0] H w res.1 (pMD G h0 res.2) := by
  refine Met.ofW (cc := b_MD_clear) (maxL := 2) (ret := (some .int)) (by decide) rfl ?_
  intro p e s m args below meth c s₁ B hml hv
  obtain ⟨rfl, rfl, hK⟩ := hv
  have hx := B.exec
  have hb := B.bytes
  have hr := B.returns
  have hts0 := atoms_spec (ws := w_MD_clear) B.pre
  have hts := fun w (h : w ∈ lw_g) => hts0 w (List.mem_cons_of_mem _ h)
  have hown : s.vm.findClass RMD = some m.cls := findClass_of_methodNamed B.named
  have hlocks := B.notSynchronized
  have hA : ∀ q : Nat, s.heap.size ≤ q → va_A w s.heap.size q := fun _ h => Or.inr h
  have hB : bk G.1 vwCl (va_A w s.heap.size) [w] s.heap := bk_init hP0 hD0
  generalize va_A w s.heap.size = A at *
  have hS : va_S A s.heap s.heap [] := va_S.rf
  obtain ⟨q1, q2, q3, q4, q5, q6, q7, q8, q9, q10, q11, q12, q13, q14, q15, q16, q17, q18, rfl⟩ := hσ
  have hB := bk_many hB
  have hk : 0 + 0 = 0 := rfl
  have hl := lv_entry ([.ref h0]) (n := 2) (Nat.le_of_ble_eq_true rfl)
  rw [lg_entry_eq]
  generalize (lg_sl ([.ref h0]) ++ List.replicate (2 - (lg_sl ([.ref h0])).length) Slot.unset).toArray = ls at hl ⊢
  have hl : lv_has ls 2 [(0, .ref h0)] := hl
  unfold A_MD_clear at hr0
  refine lv_aload_n hx hb d_MD_clear_0 rfl (lv_at hl 0 rfl) ?_
  refine va_get (D := G.1) (ci := 6) (v := .int (gMD_rows σ)) (C := RMD) (T := TMD) (N := 28) hx hb hts inMD hown hK hB.1 0 rfl rfl 4 (by decide) (hts _ fl_MD_93) (fun _ h9 => h9) rfl d_MD_clear_1 ?_
  refine lv_istore_n (lv' := [(1, .int (gMD_rows σ)), (0, .ref h0)]) hx hb d_MD_clear_4 rfl hl (by decide) rfl (fun ls hl => ?_)
  refine lv_aload_n hx hb d_MD_clear_5 rfl (lv_at hl 1 rfl) ?_
  refine lv_iconst (v := 0) hx hb d_MD_clear_6 (by decide) ?_
  refine va_put (D := G.1) (ci := 6) (v := .int 0) (ty := .int) (C := RMD) (T := TMD) (N := 28) hx hb hts inMD tyMD tokMD nmMD hown hK hB.1 hB.2 hS 0 rfl rfl 4 (by decide) (hts _ fl_MD_93) (fun _ h9 => h9) rfl (by decide +kernel) rfl rfl (Nat.le_of_ble_eq_true rfl) d_MD_clear_7 (fun H locs hP hD hS => ?_)
  have hB : bk G.1 vwCl A [[(h0, .inr (6, [.int (gMD_statements σ), .ref q1, .ref q2, .int (gMD_mandatoryCount σ), .int 0, .ref q3, .ref q4, .ref q5, .ref q6, .ref q7, .int (gMD_fromCount σ), .ref q8, .int (gMD_piled σ), .int (gMD_puts σ), .int (gMD_steps σ), .ref q9, .ref q10, .ref q11, .ref q12, .ref q13, .int (gMD_savedCount σ), .ref q14, .int (gMD_labelCount σ), .ref q15, .int (gMD_letterCount σ), .ref q16, .ref q17, .ref q18]))], [(q1, .inl (G.2.1, 1500, .inl (gMD_takes σ)))], [(q2, .inl (G.2.1, 60, .inl (gMD_mandatories σ)))], [(q3, .inl (G.2.1, 4000, .inl (gMD_makers σ)))], [(q4, .inl (G.2.1, 4000, .inl (gMD_fromAt σ)))], [(q5, .inl (G.2.1, 4000, .inl (gMD_firstSame σ)))], [(q6, .inl (G.2.2.1, 4000, .inr (.inl (gMD_sizes σ))))], [(q7, .inl (G.2.1, 20100, .inl (gMD_froms σ)))], [(q8, .inl (G.2.1, 200, .inl (gMD_pile σ)))], [(q9, .inl (G.2.1, 26000, .inl (gMD_toldStep σ)))], [(q10, .inl (G.2.1, 26000, .inl (gMD_stepRow σ)))], [(q11, .inl (G.2.2.2, 4000, .inl (gMD_isSaved σ)))], [(q12, .inl (G.2.2.2, 4000, .inl (gMD_isTold σ)))], [(q13, .inl (G.2.1, 4000, .inl (gMD_savedNumber σ)))], [(q14, .inl (G.2.1, 1500, .inl (gMD_labels σ)))], [(q15, .inl (G.2.1, 120000, .inl (gMD_letters σ)))], [(q16, .inl (G.2.2.2, 26000, .inl (gMD_saving σ)))], [(q17, .inl (G.2.1, 4001, .inl (gMD_walk σ)))], [(q18, .inl (G.2.1, 4001, .inl (gMD_walkAt σ)))]] H := ⟨hP, hD⟩
  obtain ⟨T19, hT20⟩ : ∃ z, uMD_rows σ 0 = z := ⟨_, rfl⟩
  have hr0 := bnd_e hT20 hr0
  have hB : bk G.1 vwCl A [[(h0, .inr (6, [.int (gMD_statements T19), .ref q1, .ref q2, .int (gMD_mandatoryCount T19), .int (gMD_rows T19), .ref q3, .ref q4, .ref q5, .ref q6, .ref q7, .int (gMD_fromCount T19), .ref q8, .int (gMD_piled T19), .int (gMD_puts T19), .int (gMD_steps T19), .ref q9, .ref q10, .ref q11, .ref q12, .ref q13, .int (gMD_savedCount T19), .ref q14, .int (gMD_labelCount T19), .ref q15, .int (gMD_letterCount T19), .ref q16, .ref q17, .ref q18]))], [(q1, .inl (G.2.1, 1500, .inl (gMD_takes T19)))], [(q2, .inl (G.2.1, 60, .inl (gMD_mandatories T19)))], [(q3, .inl (G.2.1, 4000, .inl (gMD_makers T19)))], [(q4, .inl (G.2.1, 4000, .inl (gMD_fromAt T19)))], [(q5, .inl (G.2.1, 4000, .inl (gMD_firstSame T19)))], [(q6, .inl (G.2.2.1, 4000, .inr (.inl (gMD_sizes T19))))], [(q7, .inl (G.2.1, 20100, .inl (gMD_froms T19)))], [(q8, .inl (G.2.1, 200, .inl (gMD_pile T19)))], [(q9, .inl (G.2.1, 26000, .inl (gMD_toldStep T19)))], [(q10, .inl (G.2.1, 26000, .inl (gMD_stepRow T19)))], [(q11, .inl (G.2.2.2, 4000, .inl (gMD_isSaved T19)))], [(q12, .inl (G.2.2.2, 4000, .inl (gMD_isTold T19)))], [(q13, .inl (G.2.1, 4000, .inl (gMD_savedNumber T19)))], [(q14, .inl (G.2.1, 1500, .inl (gMD_labels T19)))], [(q15, .inl (G.2.1, 120000, .inl (gMD_letters T19)))], [(q16, .inl (G.2.2.2, 26000, .inl (gMD_saving T19)))], [(q17, .inl (G.2.1, 4001, .inl (gMD_walk T19)))], [(q18, .inl (G.2.1, 4001, .inl (gMD_walkAt T19)))]] H := by subst hT20; exact hB
  refine lv_aload_n hx hb d_MD_clear_10 rfl (lv_at hl 1 rfl) ?_
  refine lv_iconst (v := 0) hx hb d_MD_clear_11 (by decide) ?_
  refine va_put (D := G.1) (ci := 6) (v := .int 0) (ty := .int) (C := RMD) (T := TMD) (N := 28) hx hb hts inMD tyMD tokMD nmMD hown hK hB.1 hB.2 hS 0 rfl rfl 10 (by decide) (hts _ fl_MD_99) (fun _ h9 => h9) rfl (by decide +kernel) rfl rfl (Nat.le_of_ble_eq_true rfl) d_MD_clear_12 (fun H locs hP hD hS => ?_)
  have hB : bk G.1 vwCl A [[(h0, .inr (6, [.int (gMD_statements T19), .ref q1, .ref q2, .int (gMD_mandatoryCount T19), .int (gMD_rows T19), .ref q3, .ref q4, .ref q5, .ref q6, .ref q7, .int 0, .ref q8, .int (gMD_piled T19), .int (gMD_puts T19), .int (gMD_steps T19), .ref q9, .ref q10, .ref q11, .ref q12, .ref q13, .int (gMD_savedCount T19), .ref q14, .int (gMD_labelCount T19), .ref q15, .int (gMD_letterCount T19), .ref q16, .ref q17, .ref q18]))], [(q1, .inl (G.2.1, 1500, .inl (gMD_takes T19)))], [(q2, .inl (G.2.1, 60, .inl (gMD_mandatories T19)))], [(q3, .inl (G.2.1, 4000, .inl (gMD_makers T19)))], [(q4, .inl (G.2.1, 4000, .inl (gMD_fromAt T19)))], [(q5, .inl (G.2.1, 4000, .inl (gMD_firstSame T19)))], [(q6, .inl (G.2.2.1, 4000, .inr (.inl (gMD_sizes T19))))], [(q7, .inl (G.2.1, 20100, .inl (gMD_froms T19)))], [(q8, .inl (G.2.1, 200, .inl (gMD_pile T19)))], [(q9, .inl (G.2.1, 26000, .inl (gMD_toldStep T19)))], [(q10, .inl (G.2.1, 26000, .inl (gMD_stepRow T19)))], [(q11, .inl (G.2.2.2, 4000, .inl (gMD_isSaved T19)))], [(q12, .inl (G.2.2.2, 4000, .inl (gMD_isTold T19)))], [(q13, .inl (G.2.1, 4000, .inl (gMD_savedNumber T19)))], [(q14, .inl (G.2.1, 1500, .inl (gMD_labels T19)))], [(q15, .inl (G.2.1, 120000, .inl (gMD_letters T19)))], [(q16, .inl (G.2.2.2, 26000, .inl (gMD_saving T19)))], [(q17, .inl (G.2.1, 4001, .inl (gMD_walk T19)))], [(q18, .inl (G.2.1, 4001, .inl (gMD_walkAt T19)))]] H := ⟨hP, hD⟩
  obtain ⟨T21, hT22⟩ : ∃ z, uMD_fromCount T19 0 = z := ⟨_, rfl⟩
  have hr0 := bnd_e hT22 hr0
  have hB : bk G.1 vwCl A [[(h0, .inr (6, [.int (gMD_statements T21), .ref q1, .ref q2, .int (gMD_mandatoryCount T21), .int (gMD_rows T21), .ref q3, .ref q4, .ref q5, .ref q6, .ref q7, .int (gMD_fromCount T21), .ref q8, .int (gMD_piled T21), .int (gMD_puts T21), .int (gMD_steps T21), .ref q9, .ref q10, .ref q11, .ref q12, .ref q13, .int (gMD_savedCount T21), .ref q14, .int (gMD_labelCount T21), .ref q15, .int (gMD_letterCount T21), .ref q16, .ref q17, .ref q18]))], [(q1, .inl (G.2.1, 1500, .inl (gMD_takes T21)))], [(q2, .inl (G.2.1, 60, .inl (gMD_mandatories T21)))], [(q3, .inl (G.2.1, 4000, .inl (gMD_makers T21)))], [(q4, .inl (G.2.1, 4000, .inl (gMD_fromAt T21)))], [(q5, .inl (G.2.1, 4000, .inl (gMD_firstSame T21)))], [(q6, .inl (G.2.2.1, 4000, .inr (.inl (gMD_sizes T21))))], [(q7, .inl (G.2.1, 20100, .inl (gMD_froms T21)))], [(q8, .inl (G.2.1, 200, .inl (gMD_pile T21)))], [(q9, .inl (G.2.1, 26000, .inl (gMD_toldStep T21)))], [(q10, .inl (G.2.1, 26000, .inl (gMD_stepRow T21)))], [(q11, .inl (G.2.2.2, 4000, .inl (gMD_isSaved T21)))], [(q12, .inl (G.2.2.2, 4000, .inl (gMD_isTold T21)))], [(q13, .inl (G.2.1, 4000, .inl (gMD_savedNumber T21)))], [(q14, .inl (G.2.1, 1500, .inl (gMD_labels T21)))], [(q15, .inl (G.2.1, 120000, .inl (gMD_letters T21)))], [(q16, .inl (G.2.2.2, 26000, .inl (gMD_saving T21)))], [(q17, .inl (G.2.1, 4001, .inl (gMD_walk T21)))], [(q18, .inl (G.2.1, 4001, .inl (gMD_walkAt T21)))]] H := by subst hT22; exact hB
  refine lv_aload_n hx hb d_MD_clear_15 rfl (lv_at hl 1 rfl) ?_
  refine lv_iconst (v := 0) hx hb d_MD_clear_16 (by decide) ?_
  refine va_put (D := G.1) (ci := 6) (v := .int 0) (ty := .int) (C := RMD) (T := TMD) (N := 28) hx hb hts inMD tyMD tokMD nmMD hown hK hB.1 hB.2 hS 0 rfl rfl 12 (by decide) (hts _ fl_MD_90) (fun _ h9 => h9) rfl (by decide +kernel) rfl rfl (Nat.le_of_ble_eq_true rfl) d_MD_clear_17 (fun H locs hP hD hS => ?_)
  have hB : bk G.1 vwCl A [[(h0, .inr (6, [.int (gMD_statements T21), .ref q1, .ref q2, .int (gMD_mandatoryCount T21), .int (gMD_rows T21), .ref q3, .ref q4, .ref q5, .ref q6, .ref q7, .int (gMD_fromCount T21), .ref q8, .int 0, .int (gMD_puts T21), .int (gMD_steps T21), .ref q9, .ref q10, .ref q11, .ref q12, .ref q13, .int (gMD_savedCount T21), .ref q14, .int (gMD_labelCount T21), .ref q15, .int (gMD_letterCount T21), .ref q16, .ref q17, .ref q18]))], [(q1, .inl (G.2.1, 1500, .inl (gMD_takes T21)))], [(q2, .inl (G.2.1, 60, .inl (gMD_mandatories T21)))], [(q3, .inl (G.2.1, 4000, .inl (gMD_makers T21)))], [(q4, .inl (G.2.1, 4000, .inl (gMD_fromAt T21)))], [(q5, .inl (G.2.1, 4000, .inl (gMD_firstSame T21)))], [(q6, .inl (G.2.2.1, 4000, .inr (.inl (gMD_sizes T21))))], [(q7, .inl (G.2.1, 20100, .inl (gMD_froms T21)))], [(q8, .inl (G.2.1, 200, .inl (gMD_pile T21)))], [(q9, .inl (G.2.1, 26000, .inl (gMD_toldStep T21)))], [(q10, .inl (G.2.1, 26000, .inl (gMD_stepRow T21)))], [(q11, .inl (G.2.2.2, 4000, .inl (gMD_isSaved T21)))], [(q12, .inl (G.2.2.2, 4000, .inl (gMD_isTold T21)))], [(q13, .inl (G.2.1, 4000, .inl (gMD_savedNumber T21)))], [(q14, .inl (G.2.1, 1500, .inl (gMD_labels T21)))], [(q15, .inl (G.2.1, 120000, .inl (gMD_letters T21)))], [(q16, .inl (G.2.2.2, 26000, .inl (gMD_saving T21)))], [(q17, .inl (G.2.1, 4001, .inl (gMD_walk T21)))], [(q18, .inl (G.2.1, 4001, .inl (gMD_walkAt T21)))]] H := ⟨hP, hD⟩
  obtain ⟨T23, hT24⟩ : ∃ z, uMD_piled T21 0 = z := ⟨_, rfl⟩
  have hr0 := bnd_e hT24 hr0
  have hB : bk G.1 vwCl A [[(h0, .inr (6, [.int (gMD_statements T23), .ref q1, .ref q2, .int (gMD_mandatoryCount T23), .int (gMD_rows T23), .ref q3, .ref q4, .ref q5, .ref q6, .ref q7, .int (gMD_fromCount T23), .ref q8, .int (gMD_piled T23), .int (gMD_puts T23), .int (gMD_steps T23), .ref q9, .ref q10, .ref q11, .ref q12, .ref q13, .int (gMD_savedCount T23), .ref q14, .int (gMD_labelCount T23), .ref q15, .int (gMD_letterCount T23), .ref q16, .ref q17, .ref q18]))], [(q1, .inl (G.2.1, 1500, .inl (gMD_takes T23)))], [(q2, .inl (G.2.1, 60, .inl (gMD_mandatories T23)))], [(q3, .inl (G.2.1, 4000, .inl (gMD_makers T23)))], [(q4, .inl (G.2.1, 4000, .inl (gMD_fromAt T23)))], [(q5, .inl (G.2.1, 4000, .inl (gMD_firstSame T23)))], [(q6, .inl (G.2.2.1, 4000, .inr (.inl (gMD_sizes T23))))], [(q7, .inl (G.2.1, 20100, .inl (gMD_froms T23)))], [(q8, .inl (G.2.1, 200, .inl (gMD_pile T23)))], [(q9, .inl (G.2.1, 26000, .inl (gMD_toldStep T23)))], [(q10, .inl (G.2.1, 26000, .inl (gMD_stepRow T23)))], [(q11, .inl (G.2.2.2, 4000, .inl (gMD_isSaved T23)))], [(q12, .inl (G.2.2.2, 4000, .inl (gMD_isTold T23)))], [(q13, .inl (G.2.1, 4000, .inl (gMD_savedNumber T23)))], [(q14, .inl (G.2.1, 1500, .inl (gMD_labels T23)))], [(q15, .inl (G.2.1, 120000, .inl (gMD_letters T23)))], [(q16, .inl (G.2.2.2, 26000, .inl (gMD_saving T23)))], [(q17, .inl (G.2.1, 4001, .inl (gMD_walk T23)))], [(q18, .inl (G.2.1, 4001, .inl (gMD_walkAt T23)))]] H := by subst hT24; exact hB
  refine lv_aload_n hx hb d_MD_clear_20 rfl (lv_at hl 1 rfl) ?_
  refine lv_iconst (v := 0) hx hb d_MD_clear_21 (by decide) ?_
  refine va_put (D := G.1) (ci := 6) (v := .int 0) (ty := .int) (C := RMD) (T := TMD) (N := 28) hx hb hts inMD tyMD tokMD nmMD hown hK hB.1 hB.2 hS 0 rfl rfl 13 (by decide) (hts _ fl_MD_96) (fun _ h9 => h9) rfl (by decide +kernel) rfl rfl (Nat.le_of_ble_eq_true rfl) d_MD_clear_22 (fun H locs hP hD hS => ?_)
  have hB : bk G.1 vwCl A [[(h0, .inr (6, [.int (gMD_statements T23), .ref q1, .ref q2, .int (gMD_mandatoryCount T23), .int (gMD_rows T23), .ref q3, .ref q4, .ref q5, .ref q6, .ref q7, .int (gMD_fromCount T23), .ref q8, .int (gMD_piled T23), .int 0, .int (gMD_steps T23), .ref q9, .ref q10, .ref q11, .ref q12, .ref q13, .int (gMD_savedCount T23), .ref q14, .int (gMD_labelCount T23), .ref q15, .int (gMD_letterCount T23), .ref q16, .ref q17, .ref q18]))], [(q1, .inl (G.2.1, 1500, .inl (gMD_takes T23)))], [(q2, .inl (G.2.1, 60, .inl (gMD_mandatories T23)))], [(q3, .inl (G.2.1, 4000, .inl (gMD_makers T23)))], [(q4, .inl (G.2.1, 4000, .inl (gMD_fromAt T23)))], [(q5, .inl (G.2.1, 4000, .inl (gMD_firstSame T23)))], [(q6, .inl (G.2.2.1, 4000, .inr (.inl (gMD_sizes T23))))], [(q7, .inl (G.2.1, 20100, .inl (gMD_froms T23)))], [(q8, .inl (G.2.1, 200, .inl (gMD_pile T23)))], [(q9, .inl (G.2.1, 26000, .inl (gMD_toldStep T23)))], [(q10, .inl (G.2.1, 26000, .inl (gMD_stepRow T23)))], [(q11, .inl (G.2.2.2, 4000, .inl (gMD_isSaved T23)))], [(q12, .inl (G.2.2.2, 4000, .inl (gMD_isTold T23)))], [(q13, .inl (G.2.1, 4000, .inl (gMD_savedNumber T23)))], [(q14, .inl (G.2.1, 1500, .inl (gMD_labels T23)))], [(q15, .inl (G.2.1, 120000, .inl (gMD_letters T23)))], [(q16, .inl (G.2.2.2, 26000, .inl (gMD_saving T23)))], [(q17, .inl (G.2.1, 4001, .inl (gMD_walk T23)))], [(q18, .inl (G.2.1, 4001, .inl (gMD_walkAt T23)))]] H := ⟨hP, hD⟩
  obtain ⟨T25, hT26⟩ : ∃ z, uMD_puts T23 0 = z := ⟨_, rfl⟩
  have hr0 := bnd_e hT26 hr0
  have hB : bk G.1 vwCl A [[(h0, .inr (6, [.int (gMD_statements T25), .ref q1, .ref q2, .int (gMD_mandatoryCount T25), .int (gMD_rows T25), .ref q3, .ref q4, .ref q5, .ref q6, .ref q7, .int (gMD_fromCount T25), .ref q8, .int (gMD_piled T25), .int (gMD_puts T25), .int (gMD_steps T25), .ref q9, .ref q10, .ref q11, .ref q12, .ref q13, .int (gMD_savedCount T25), .ref q14, .int (gMD_labelCount T25), .ref q15, .int (gMD_letterCount T25), .ref q16, .ref q17, .ref q18]))], [(q1, .inl (G.2.1, 1500, .inl (gMD_takes T25)))], [(q2, .inl (G.2.1, 60, .inl (gMD_mandatories T25)))], [(q3, .inl (G.2.1, 4000, .inl (gMD_makers T25)))], [(q4, .inl (G.2.1, 4000, .inl (gMD_fromAt T25)))], [(q5, .inl (G.2.1, 4000, .inl (gMD_firstSame T25)))], [(q6, .inl (G.2.2.1, 4000, .inr (.inl (gMD_sizes T25))))], [(q7, .inl (G.2.1, 20100, .inl (gMD_froms T25)))], [(q8, .inl (G.2.1, 200, .inl (gMD_pile T25)))], [(q9, .inl (G.2.1, 26000, .inl (gMD_toldStep T25)))], [(q10, .inl (G.2.1, 26000, .inl (gMD_stepRow T25)))], [(q11, .inl (G.2.2.2, 4000, .inl (gMD_isSaved T25)))], [(q12, .inl (G.2.2.2, 4000, .inl (gMD_isTold T25)))], [(q13, .inl (G.2.1, 4000, .inl (gMD_savedNumber T25)))], [(q14, .inl (G.2.1, 1500, .inl (gMD_labels T25)))], [(q15, .inl (G.2.1, 120000, .inl (gMD_letters T25)))], [(q16, .inl (G.2.2.2, 26000, .inl (gMD_saving T25)))], [(q17, .inl (G.2.1, 4001, .inl (gMD_walk T25)))], [(q18, .inl (G.2.1, 4001, .inl (gMD_walkAt T25)))]] H := by subst hT26; exact hB
  refine lv_aload_n hx hb d_MD_clear_25 rfl (lv_at hl 1 rfl) ?_
  refine lv_iconst (v := 0) hx hb d_MD_clear_26 (by decide) ?_
  refine va_put (D := G.1) (ci := 6) (v := .int 0) (ty := .int) (C := RMD) (T := TMD) (N := 28) hx hb hts inMD tyMD tokMD nmMD hown hK hB.1 hB.2 hS 0 rfl rfl 14 (by decide) (hts _ fl_MD_112) (fun _ h9 => h9) rfl (by decide +kernel) rfl rfl (Nat.le_of_ble_eq_true rfl) d_MD_clear_27 (fun H locs hP hD hS => ?_)
  have hB : bk G.1 vwCl A [[(h0, .inr (6, [.int (gMD_statements T25), .ref q1, .ref q2, .int (gMD_mandatoryCount T25), .int (gMD_rows T25), .ref q3, .ref q4, .ref q5, .ref q6, .ref q7, .int (gMD_fromCount T25), .ref q8, .int (gMD_piled T25), .int (gMD_puts T25), .int 0, .ref q9, .ref q10, .ref q11, .ref q12, .ref q13, .int (gMD_savedCount T25), .ref q14, .int (gMD_labelCount T25), .ref q15, .int (gMD_letterCount T25), .ref q16, .ref q17, .ref q18]))], [(q1, .inl (G.2.1, 1500, .inl (gMD_takes T25)))], [(q2, .inl (G.2.1, 60, .inl (gMD_mandatories T25)))], [(q3, .inl (G.2.1, 4000, .inl (gMD_makers T25)))], [(q4, .inl (G.2.1, 4000, .inl (gMD_fromAt T25)))], [(q5, .inl (G.2.1, 4000, .inl (gMD_firstSame T25)))], [(q6, .inl (G.2.2.1, 4000, .inr (.inl (gMD_sizes T25))))], [(q7, .inl (G.2.1, 20100, .inl (gMD_froms T25)))], [(q8, .inl (G.2.1, 200, .inl (gMD_pile T25)))], [(q9, .inl (G.2.1, 26000, .inl (gMD_toldStep T25)))], [(q10, .inl (G.2.1, 26000, .inl (gMD_stepRow T25)))], [(q11, .inl (G.2.2.2, 4000, .inl (gMD_isSaved T25)))], [(q12, .inl (G.2.2.2, 4000, .inl (gMD_isTold T25)))], [(q13, .inl (G.2.1, 4000, .inl (gMD_savedNumber T25)))], [(q14, .inl (G.2.1, 1500, .inl (gMD_labels T25)))], [(q15, .inl (G.2.1, 120000, .inl (gMD_letters T25)))], [(q16, .inl (G.2.2.2, 26000, .inl (gMD_saving T25)))], [(q17, .inl (G.2.1, 4001, .inl (gMD_walk T25)))], [(q18, .inl (G.2.1, 4001, .inl (gMD_walkAt T25)))]] H := ⟨hP, hD⟩
  obtain ⟨T27, hT28⟩ : ∃ z, uMD_steps T25 0 = z := ⟨_, rfl⟩
  have hr0 := bnd_e hT28 hr0
  have hB : bk G.1 vwCl A [[(h0, .inr (6, [.int (gMD_statements T27), .ref q1, .ref q2, .int (gMD_mandatoryCount T27), .int (gMD_rows T27), .ref q3, .ref q4, .ref q5, .ref q6, .ref q7, .int (gMD_fromCount T27), .ref q8, .int (gMD_piled T27), .int (gMD_puts T27), .int (gMD_steps T27), .ref q9, .ref q10, .ref q11, .ref q12, .ref q13, .int (gMD_savedCount T27), .ref q14, .int (gMD_labelCount T27), .ref q15, .int (gMD_letterCount T27), .ref q16, .ref q17, .ref q18]))], [(q1, .inl (G.2.1, 1500, .inl (gMD_takes T27)))], [(q2, .inl (G.2.1, 60, .inl (gMD_mandatories T27)))], [(q3, .inl (G.2.1, 4000, .inl (gMD_makers T27)))], [(q4, .inl (G.2.1, 4000, .inl (gMD_fromAt T27)))], [(q5, .inl (G.2.1, 4000, .inl (gMD_firstSame T27)))], [(q6, .inl (G.2.2.1, 4000, .inr (.inl (gMD_sizes T27))))], [(q7, .inl (G.2.1, 20100, .inl (gMD_froms T27)))], [(q8, .inl (G.2.1, 200, .inl (gMD_pile T27)))], [(q9, .inl (G.2.1, 26000, .inl (gMD_toldStep T27)))], [(q10, .inl (G.2.1, 26000, .inl (gMD_stepRow T27)))], [(q11, .inl (G.2.2.2, 4000, .inl (gMD_isSaved T27)))], [(q12, .inl (G.2.2.2, 4000, .inl (gMD_isTold T27)))], [(q13, .inl (G.2.1, 4000, .inl (gMD_savedNumber T27)))], [(q14, .inl (G.2.1, 1500, .inl (gMD_labels T27)))], [(q15, .inl (G.2.1, 120000, .inl (gMD_letters T27)))], [(q16, .inl (G.2.2.2, 26000, .inl (gMD_saving T27)))], [(q17, .inl (G.2.1, 4001, .inl (gMD_walk T27)))], [(q18, .inl (G.2.1, 4001, .inl (gMD_walkAt T27)))]] H := by subst hT28; exact hB
  refine lv_aload_n hx hb d_MD_clear_30 rfl (lv_at hl 1 rfl) ?_
  refine lv_iconst (v := 0) hx hb d_MD_clear_31 (by decide) ?_
  refine va_put (D := G.1) (ci := 6) (v := .int 0) (ty := .int) (C := RMD) (T := TMD) (N := 28) hx hb hts inMD tyMD tokMD nmMD hown hK hB.1 hB.2 hS 0 rfl rfl 22 (by decide) (hts _ fl_MD_115) (fun _ h9 => h9) rfl (by decide +kernel) rfl rfl (Nat.le_of_ble_eq_true rfl) d_MD_clear_32 (fun H locs hP hD hS => ?_)
  have hB : bk G.1 vwCl A [[(h0, .inr (6, [.int (gMD_statements T27), .ref q1, .ref q2, .int (gMD_mandatoryCount T27), .int (gMD_rows T27), .ref q3, .ref q4, .ref q5, .ref q6, .ref q7, .int (gMD_fromCount T27), .ref q8, .int (gMD_piled T27), .int (gMD_puts T27), .int (gMD_steps T27), .ref q9, .ref q10, .ref q11, .ref q12, .ref q13, .int (gMD_savedCount T27), .ref q14, .int 0, .ref q15, .int (gMD_letterCount T27), .ref q16, .ref q17, .ref q18]))], [(q1, .inl (G.2.1, 1500, .inl (gMD_takes T27)))], [(q2, .inl (G.2.1, 60, .inl (gMD_mandatories T27)))], [(q3, .inl (G.2.1, 4000, .inl (gMD_makers T27)))], [(q4, .inl (G.2.1, 4000, .inl (gMD_fromAt T27)))], [(q5, .inl (G.2.1, 4000, .inl (gMD_firstSame T27)))], [(q6, .inl (G.2.2.1, 4000, .inr (.inl (gMD_sizes T27))))], [(q7, .inl (G.2.1, 20100, .inl (gMD_froms T27)))], [(q8, .inl (G.2.1, 200, .inl (gMD_pile T27)))], [(q9, .inl (G.2.1, 26000, .inl (gMD_toldStep T27)))], [(q10, .inl (G.2.1, 26000, .inl (gMD_stepRow T27)))], [(q11, .inl (G.2.2.2, 4000, .inl (gMD_isSaved T27)))], [(q12, .inl (G.2.2.2, 4000, .inl (gMD_isTold T27)))], [(q13, .inl (G.2.1, 4000, .inl (gMD_savedNumber T27)))], [(q14, .inl (G.2.1, 1500, .inl (gMD_labels T27)))], [(q15, .inl (G.2.1, 120000, .inl (gMD_letters T27)))], [(q16, .inl (G.2.2.2, 26000, .inl (gMD_saving T27)))], [(q17, .inl (G.2.1, 4001, .inl (gMD_walk T27)))], [(q18, .inl (G.2.1, 4001, .inl (gMD_walkAt T27)))]] H := ⟨hP, hD⟩
  obtain ⟨T29, hT30⟩ : ∃ z, uMD_labelCount T27 0 = z := ⟨_, rfl⟩
  have hr0 := bnd_e hT30 hr0
  have hB : bk G.1 vwCl A [[(h0, .inr (6, [.int (gMD_statements T29), .ref q1, .ref q2, .int (gMD_mandatoryCount T29), .int (gMD_rows T29), .ref q3, .ref q4, .ref q5, .ref q6, .ref q7, .int (gMD_fromCount T29), .ref q8, .int (gMD_piled T29), .int (gMD_puts T29), .int (gMD_steps T29), .ref q9, .ref q10, .ref q11, .ref q12, .ref q13, .int (gMD_savedCount T29), .ref q14, .int (gMD_labelCount T29), .ref q15, .int (gMD_letterCount T29), .ref q16, .ref q17, .ref q18]))], [(q1, .inl (G.2.1, 1500, .inl (gMD_takes T29)))], [(q2, .inl (G.2.1, 60, .inl (gMD_mandatories T29)))], [(q3, .inl (G.2.1, 4000, .inl (gMD_makers T29)))], [(q4, .inl (G.2.1, 4000, .inl (gMD_fromAt T29)))], [(q5, .inl (G.2.1, 4000, .inl (gMD_firstSame T29)))], [(q6, .inl (G.2.2.1, 4000, .inr (.inl (gMD_sizes T29))))], [(q7, .inl (G.2.1, 20100, .inl (gMD_froms T29)))], [(q8, .inl (G.2.1, 200, .inl (gMD_pile T29)))], [(q9, .inl (G.2.1, 26000, .inl (gMD_toldStep T29)))], [(q10, .inl (G.2.1, 26000, .inl (gMD_stepRow T29)))], [(q11, .inl (G.2.2.2, 4000, .inl (gMD_isSaved T29)))], [(q12, .inl (G.2.2.2, 4000, .inl (gMD_isTold T29)))], [(q13, .inl (G.2.1, 4000, .inl (gMD_savedNumber T29)))], [(q14, .inl (G.2.1, 1500, .inl (gMD_labels T29)))], [(q15, .inl (G.2.1, 120000, .inl (gMD_letters T29)))], [(q16, .inl (G.2.2.2, 26000, .inl (gMD_saving T29)))], [(q17, .inl (G.2.1, 4001, .inl (gMD_walk T29)))], [(q18, .inl (G.2.1, 4001, .inl (gMD_walkAt T29)))]] H := by subst hT30; exact hB
  refine lv_aload_n hx hb d_MD_clear_35 rfl (lv_at hl 1 rfl) ?_
  refine lv_iconst (v := 0) hx hb d_MD_clear_36 (by decide) ?_
  refine va_put (D := G.1) (ci := 6) (v := .int 0) (ty := .int) (C := RMD) (T := TMD) (N := 28) hx hb hts inMD tyMD tokMD nmMD hown hK hB.1 hB.2 hS 0 rfl rfl 24 (by decide) (hts _ fl_MD_118) (fun _ h9 => h9) rfl (by decide +kernel) rfl rfl (Nat.le_of_ble_eq_true rfl) d_MD_clear_37 (fun H locs hP hD hS => ?_)
  have hB : bk G.1 vwCl A [[(h0, .inr (6, [.int (gMD_statements T29), .ref q1, .ref q2, .int (gMD_mandatoryCount T29), .int (gMD_rows T29), .ref q3, .ref q4, .ref q5, .ref q6, .ref q7, .int (gMD_fromCount T29), .ref q8, .int (gMD_piled T29), .int (gMD_puts T29), .int (gMD_steps T29), .ref q9, .ref q10, .ref q11, .ref q12, .ref q13, .int (gMD_savedCount T29), .ref q14, .int (gMD_labelCount T29), .ref q15, .int 0, .ref q16, .ref q17, .ref q18]))], [(q1, .inl (G.2.1, 1500, .inl (gMD_takes T29)))], [(q2, .inl (G.2.1, 60, .inl (gMD_mandatories T29)))], [(q3, .inl (G.2.1, 4000, .inl (gMD_makers T29)))], [(q4, .inl (G.2.1, 4000, .inl (gMD_fromAt T29)))], [(q5, .inl (G.2.1, 4000, .inl (gMD_firstSame T29)))], [(q6, .inl (G.2.2.1, 4000, .inr (.inl (gMD_sizes T29))))], [(q7, .inl (G.2.1, 20100, .inl (gMD_froms T29)))], [(q8, .inl (G.2.1, 200, .inl (gMD_pile T29)))], [(q9, .inl (G.2.1, 26000, .inl (gMD_toldStep T29)))], [(q10, .inl (G.2.1, 26000, .inl (gMD_stepRow T29)))], [(q11, .inl (G.2.2.2, 4000, .inl (gMD_isSaved T29)))], [(q12, .inl (G.2.2.2, 4000, .inl (gMD_isTold T29)))], [(q13, .inl (G.2.1, 4000, .inl (gMD_savedNumber T29)))], [(q14, .inl (G.2.1, 1500, .inl (gMD_labels T29)))], [(q15, .inl (G.2.1, 120000, .inl (gMD_letters T29)))], [(q16, .inl (G.2.2.2, 26000, .inl (gMD_saving T29)))], [(q17, .inl (G.2.1, 4001, .inl (gMD_walk T29)))], [(q18, .inl (G.2.1, 4001, .inl (gMD_walkAt T29)))]] H := ⟨hP, hD⟩
  obtain ⟨T31, hT32⟩ : ∃ z, uMD_letterCount T29 0 = z := ⟨_, rfl⟩
  have hr0 := bnd_e hT32 hr0
  have hB : bk G.1 vwCl A [[(h0, .inr (6, [.int (gMD_statements T31), .ref q1, .ref q2, .int (gMD_mandatoryCount T31), .int (gMD_rows T31), .ref q3, .ref q4, .ref q5, .ref q6, .ref q7, .int (gMD_fromCount T31), .ref q8, .int (gMD_piled T31), .int (gMD_puts T31), .int (gMD_steps T31), .ref q9, .ref q10, .ref q11, .ref q12, .ref q13, .int (gMD_savedCount T31), .ref q14, .int (gMD_labelCount T31), .ref q15, .int (gMD_letterCount T31), .ref q16, .ref q17, .ref q18]))], [(q1, .inl (G.2.1, 1500, .inl (gMD_takes T31)))], [(q2, .inl (G.2.1, 60, .inl (gMD_mandatories T31)))], [(q3, .inl (G.2.1, 4000, .inl (gMD_makers T31)))], [(q4, .inl (G.2.1, 4000, .inl (gMD_fromAt T31)))], [(q5, .inl (G.2.1, 4000, .inl (gMD_firstSame T31)))], [(q6, .inl (G.2.2.1, 4000, .inr (.inl (gMD_sizes T31))))], [(q7, .inl (G.2.1, 20100, .inl (gMD_froms T31)))], [(q8, .inl (G.2.1, 200, .inl (gMD_pile T31)))], [(q9, .inl (G.2.1, 26000, .inl (gMD_toldStep T31)))], [(q10, .inl (G.2.1, 26000, .inl (gMD_stepRow T31)))], [(q11, .inl (G.2.2.2, 4000, .inl (gMD_isSaved T31)))], [(q12, .inl (G.2.2.2, 4000, .inl (gMD_isTold T31)))], [(q13, .inl (G.2.1, 4000, .inl (gMD_savedNumber T31)))], [(q14, .inl (G.2.1, 1500, .inl (gMD_labels T31)))], [(q15, .inl (G.2.1, 120000, .inl (gMD_letters T31)))], [(q16, .inl (G.2.2.2, 26000, .inl (gMD_saving T31)))], [(q17, .inl (G.2.1, 4001, .inl (gMD_walk T31)))], [(q18, .inl (G.2.1, 4001, .inl (gMD_walkAt T31)))]] H := by subst hT32; exact hB
  refine lv_aload_n hx hb d_MD_clear_40 rfl (lv_at hl 1 rfl) ?_
  refine lv_iconst (v := 0) hx hb d_MD_clear_41 (by decide) ?_
  refine va_put (D := G.1) (ci := 6) (v := .int 0) (ty := .int) (C := RMD) (T := TMD) (N := 28) hx hb hts inMD tyMD tokMD nmMD hown hK hB.1 hB.2 hS 0 rfl rfl 20 (by decide) (hts _ fl_MD_121) (fun _ h9 => h9) rfl (by decide +kernel) rfl rfl (Nat.le_of_ble_eq_true rfl) d_MD_clear_42 (fun H locs hP hD hS => ?_)
  have hB : bk G.1 vwCl A [[(h0, .inr (6, [.int (gMD_statements T31), .ref q1, .ref q2, .int (gMD_mandatoryCount T31), .int (gMD_rows T31), .ref q3, .ref q4, .ref q5, .ref q6, .ref q7, .int (gMD_fromCount T31), .ref q8, .int (gMD_piled T31), .int (gMD_puts T31), .int (gMD_steps T31), .ref q9, .ref q10, .ref q11, .ref q12, .ref q13, .int 0, .ref q14, .int (gMD_labelCount T31), .ref q15, .int (gMD_letterCount T31), .ref q16, .ref q17, .ref q18]))], [(q1, .inl (G.2.1, 1500, .inl (gMD_takes T31)))], [(q2, .inl (G.2.1, 60, .inl (gMD_mandatories T31)))], [(q3, .inl (G.2.1, 4000, .inl (gMD_makers T31)))], [(q4, .inl (G.2.1, 4000, .inl (gMD_fromAt T31)))], [(q5, .inl (G.2.1, 4000, .inl (gMD_firstSame T31)))], [(q6, .inl (G.2.2.1, 4000, .inr (.inl (gMD_sizes T31))))], [(q7, .inl (G.2.1, 20100, .inl (gMD_froms T31)))], [(q8, .inl (G.2.1, 200, .inl (gMD_pile T31)))], [(q9, .inl (G.2.1, 26000, .inl (gMD_toldStep T31)))], [(q10, .inl (G.2.1, 26000, .inl (gMD_stepRow T31)))], [(q11, .inl (G.2.2.2, 4000, .inl (gMD_isSaved T31)))], [(q12, .inl (G.2.2.2, 4000, .inl (gMD_isTold T31)))], [(q13, .inl (G.2.1, 4000, .inl (gMD_savedNumber T31)))], [(q14, .inl (G.2.1, 1500, .inl (gMD_labels T31)))], [(q15, .inl (G.2.1, 120000, .inl (gMD_letters T31)))], [(q16, .inl (G.2.2.2, 26000, .inl (gMD_saving T31)))], [(q17, .inl (G.2.1, 4001, .inl (gMD_walk T31)))], [(q18, .inl (G.2.1, 4001, .inl (gMD_walkAt T31)))]] H := ⟨hP, hD⟩
  obtain ⟨T33, hT34⟩ : ∃ z, uMD_savedCount T31 0 = z := ⟨_, rfl⟩
  have hr0 := bnd_e hT34 hr0
  have hB : bk G.1 vwCl A [[(h0, .inr (6, [.int (gMD_statements T33), .ref q1, .ref q2, .int (gMD_mandatoryCount T33), .int (gMD_rows T33), .ref q3, .ref q4, .ref q5, .ref q6, .ref q7, .int (gMD_fromCount T33), .ref q8, .int (gMD_piled T33), .int (gMD_puts T33), .int (gMD_steps T33), .ref q9, .ref q10, .ref q11, .ref q12, .ref q13, .int (gMD_savedCount T33), .ref q14, .int (gMD_labelCount T33), .ref q15, .int (gMD_letterCount T33), .ref q16, .ref q17, .ref q18]))], [(q1, .inl (G.2.1, 1500, .inl (gMD_takes T33)))], [(q2, .inl (G.2.1, 60, .inl (gMD_mandatories T33)))], [(q3, .inl (G.2.1, 4000, .inl (gMD_makers T33)))], [(q4, .inl (G.2.1, 4000, .inl (gMD_fromAt T33)))], [(q5, .inl (G.2.1, 4000, .inl (gMD_firstSame T33)))], [(q6, .inl (G.2.2.1, 4000, .inr (.inl (gMD_sizes T33))))], [(q7, .inl (G.2.1, 20100, .inl (gMD_froms T33)))], [(q8, .inl (G.2.1, 200, .inl (gMD_pile T33)))], [(q9, .inl (G.2.1, 26000, .inl (gMD_toldStep T33)))], [(q10, .inl (G.2.1, 26000, .inl (gMD_stepRow T33)))], [(q11, .inl (G.2.2.2, 4000, .inl (gMD_isSaved T33)))], [(q12, .inl (G.2.2.2, 4000, .inl (gMD_isTold T33)))], [(q13, .inl (G.2.1, 4000, .inl (gMD_savedNumber T33)))], [(q14, .inl (G.2.1, 1500, .inl (gMD_labels T33)))], [(q15, .inl (G.2.1, 120000, .inl (gMD_letters T33)))], [(q16, .inl (G.2.2.2, 26000, .inl (gMD_saving T33)))], [(q17, .inl (G.2.1, 4001, .inl (gMD_walk T33)))], [(q18, .inl (G.2.1, 4001, .inl (gMD_walkAt T33)))]] H := by subst hT34; exact hB
  refine lv_iload_n hx hb d_MD_clear_45 rfl (lv_at hl 0 rfl) ?_
  subst hr0
  refine W.widen (k := 0) (n := 0) (Nat.le_refl _) (Nat.le_refl _) ?_
  exact W.iret (v := (gMD_rows σ)) hx hb hr (fun t ht hW => ⟨⟨(gMD_rows σ), [[(h0, .inr (6, [.int (gMD_statements T33), .ref q1, .ref q2, .int (gMD_mandatoryCount T33), .int (gMD_rows T33), .ref q3, .ref q4, .ref q5, .ref q6, .ref q7, .int (gMD_fromCount T33), .ref q8, .int (gMD_piled T33), .int (gMD_puts T33), .int (gMD_steps T33), .ref q9, .ref q10, .ref q11, .ref q12, .ref q13, .int (gMD_savedCount T33), .ref q14, .int (gMD_labelCount T33), .ref q15, .int (gMD_letterCount T33), .ref q16, .ref q17, .ref q18]))], [(q1, .inl (G.2.1, 1500, .inl (gMD_takes T33)))], [(q2, .inl (G.2.1, 60, .inl (gMD_mandatories T33)))], [(q3, .inl (G.2.1, 4000, .inl (gMD_makers T33)))], [(q4, .inl (G.2.1, 4000, .inl (gMD_fromAt T33)))], [(q5, .inl (G.2.1, 4000, .inl (gMD_firstSame T33)))], [(q6, .inl (G.2.2.1, 4000, .inr (.inl (gMD_sizes T33))))], [(q7, .inl (G.2.1, 20100, .inl (gMD_froms T33)))], [(q8, .inl (G.2.1, 200, .inl (gMD_pile T33)))], [(q9, .inl (G.2.1, 26000, .inl (gMD_toldStep T33)))], [(q10, .inl (G.2.1, 26000, .inl (gMD_stepRow T33)))], [(q11, .inl (G.2.2.2, 4000, .inl (gMD_isSaved T33)))], [(q12, .inl (G.2.2.2, 4000, .inl (gMD_isTold T33)))], [(q13, .inl (G.2.1, 4000, .inl (gMD_savedNumber T33)))], [(q14, .inl (G.2.1, 1500, .inl (gMD_labels T33)))], [(q15, .inl (G.2.1, 120000, .inl (gMD_letters T33)))], [(q16, .inl (G.2.2.2, 26000, .inl (gMD_saving T33)))], [(q17, .inl (G.2.1, 4001, .inl (gMD_walk T33)))], [(q18, .inl (G.2.1, 4001, .inl (gMD_walkAt T33)))]].flatten, rfl, ⟨rfl, ⟨q1, q2, q3, q4, q5, q6, q7, q8, q9, q10, q11, q12, q13, q14, q15, q16, q17, q18, rfl⟩⟩, by rw [ht]; exact hB.1, hB.2⟩, hS.F ht⟩) hS.2.2 d_MD_clear_46

def A_MD_packed (σ : tMD) (what : Int32) : Int32 := if what = 0 then (gMD_labelCount σ) else (if what = 1 then (gMD_letterCount σ) else (if what = 2 then (gMD_savedCount σ) else (-1)))
set_option maxHeartbeats 4000000 in
set_option maxRecDepth 100000 in
theorem c_MD_packed (l : Launch) (G : pG) (h0 : Nat) (σ : tMD) (what : Int32) (H : Heap) (w : va_W) (hP0 : va_P G.1 vwCl w H) (hσ : pMD G h0 σ w) (res : Int32) (hr0 : A_MD_packed σ what = res) : MRi l y_MD_packed w_MD_packed 0 0 G [.ref h0, .int what] H res := by
  refine Met.ofW (cc := b_MD_packed) (maxL := 2) (ret := (some .int)) (by decide) rfl ?_
  intro p e s m args below meth c s₁ B hml hv
  obtain ⟨rfl, rfl, hK⟩ := hv
  have hx := B.exec
  have hb := B.bytes
  have hr := B.returns
  have hts0 := atoms_spec (ws := w_MD_packed) B.pre
  have hts := fun w (h : w ∈ lw_g) => hts0 w (List.mem_cons_of_mem _ h)
  have hown : s.vm.findClass RMD = some m.cls := findClass_of_methodNamed B.named
  have hlocks := B.notSynchronized
  have hσ0 := hσ
  obtain ⟨q1, q2, q3, q4, q5, q6, q7, q8, q9, q10, q11, q12, q13, q14, q15, q16, q17, q18, rfl⟩ := hσ
  have hP := hP0
  obtain ⟨A, hAe⟩ : ∃ A : Nat → Prop, A = fun _ => False := ⟨_, rfl⟩
  rw [← hAe]
  have hS : va_S A s.heap s.heap [] := va_S.rf
  have hl := lv_entry ([.ref h0, .int what]) (n := 2) (Nat.le_of_ble_eq_true rfl)
  rw [lg_entry_eq]
  generalize (lg_sl ([.ref h0, .int what]) ++ List.replicate (2 - (lg_sl ([.ref h0, .int what])).length) Slot.unset).toArray = ls at hl ⊢
  have hl : lv_has ls 2 [(0, .ref h0), (1, .int what)] := hl
  unfold A_MD_packed at hr0
  refine lv_iload_n hx hb d_MD_packed_0 rfl (lv_at hl 1 rfl) ?_
  refine lv_if_ne (tgt := 11) hx hb d_MD_packed_1 (by decide) (fun c19 => ?_) (fun c19 => ?_)
  · have hr0 := ai_neg c19 hr0
    refine lv_iload_n hx hb d_MD_packed_11 rfl (lv_at hl 1 rfl) ?_
    refine lv_iconst (v := 1) hx hb d_MD_packed_12 (by decide) ?_
    refine lv_icmp_ne (tgt := 23) hx hb d_MD_packed_13 (by decide) (fun c20 => ?_) (fun c20 => ?_)
    · have hr0 := ai_neg c20 hr0
      refine lv_iload_n hx hb d_MD_packed_23 rfl (lv_at hl 1 rfl) ?_
      refine lv_iconst (v := 2) hx hb d_MD_packed_24 (by decide) ?_
      refine lv_icmp_ne (tgt := 35) hx hb d_MD_packed_25 (by decide) (fun c21 => ?_) (fun c21 => ?_)
      · have hr0 := ai_neg c21 hr0
        refine lv_iconst (v := (-1)) hx hb d_MD_packed_35 (by decide) ?_
        exact W.iret (v := (-1)) hx hb hr (fun t ht hW => ⟨⟨(-1), (), rfl, hr0, ht⟩, hS.F ht⟩) hS.2.2 d_MD_packed_36
      · have hr0 := ai_pos c21 hr0
        refine lv_aload_n hx hb d_MD_packed_28 rfl (lv_at hl 0 rfl) ?_
        refine va_get (D := G.1) (ci := 6) (v := .int (gMD_savedCount σ)) (C := RMD) (T := TMD) (N := 28) hx hb hts inMD hown hK hP 0 rfl rfl 20 (by decide) (hts _ fl_MD_121) (fun _ h9 => h9) rfl d_MD_packed_29 ?_
        refine lv_goto (tgt := 36) hx hb d_MD_packed_32 (by decide) ?_
        exact W.iret (v := (gMD_savedCount σ)) hx hb hr (fun t ht hW => ⟨⟨(gMD_savedCount σ), (), rfl, hr0, ht⟩, hS.F ht⟩) hS.2.2 d_MD_packed_36
    · have hr0 := ai_pos c20 hr0
      refine lv_aload_n hx hb d_MD_packed_16 rfl (lv_at hl 0 rfl) ?_
      refine va_get (D := G.1) (ci := 6) (v := .int (gMD_letterCount σ)) (C := RMD) (T := TMD) (N := 28) hx hb hts inMD hown hK hP 0 rfl rfl 24 (by decide) (hts _ fl_MD_118) (fun _ h9 => h9) rfl d_MD_packed_17 ?_
      refine lv_goto (tgt := 36) hx hb d_MD_packed_20 (by decide) ?_
      exact W.iret (v := (gMD_letterCount σ)) hx hb hr (fun t ht hW => ⟨⟨(gMD_letterCount σ), (), rfl, hr0, ht⟩, hS.F ht⟩) hS.2.2 d_MD_packed_36
  · have hr0 := ai_pos c19 hr0
    refine lv_aload_n hx hb d_MD_packed_4 rfl (lv_at hl 0 rfl) ?_
    refine va_get (D := G.1) (ci := 6) (v := .int (gMD_labelCount σ)) (C := RMD) (T := TMD) (N := 28) hx hb hts inMD hown hK hP 0 rfl rfl 22 (by decide) (hts _ fl_MD_115) (fun _ h9 => h9) rfl d_MD_packed_5 ?_
    refine lv_goto (tgt := 36) hx hb d_MD_packed_8 (by decide) ?_
    exact W.iret (v := (gMD_labelCount σ)) hx hb hr (fun t ht hW => ⟨⟨(gMD_labelCount σ), (), rfl, hr0, ht⟩, hS.F ht⟩) hS.2.2 d_MD_packed_36

def A_MD_check (σ : tMD) : Int32 := 1
set_option maxHeartbeats 4000000 in
set_option maxRecDepth 100000 in
theorem c_MD_check (l : Launch) (G : pG) (h0 : Nat) (σ : tMD) (H : Heap) (w : va_W) (hP0 : va_P G.1 vwCl w H) (hσ : pMD G h0 σ w) (res : Int32) (hr0 : A_MD_check σ = res) : MRi l y_MD_check w_MD_check 0 0 G [.ref h0] H res := by
  refine Met.ofW (cc := b_MD_check) (maxL := 1) (ret := (some .int)) (by decide) rfl ?_
  intro p e s m args below meth c s₁ B hml hv
  obtain ⟨rfl, rfl, hK⟩ := hv
  have hx := B.exec
  have hb := B.bytes
  have hr := B.returns
  have hts0 := atoms_spec (ws := w_MD_check) B.pre
  have hts := fun w (h : w ∈ lw_g) => hts0 w (List.mem_cons_of_mem _ h)
  have hown : s.vm.findClass RMD = some m.cls := findClass_of_methodNamed B.named
  have hlocks := B.notSynchronized
  have hσ0 := hσ
  obtain ⟨q1, q2, q3, q4, q5, q6, q7, q8, q9, q10, q11, q12, q13, q14, q15, q16, q17, q18, rfl⟩ := hσ
  have hP := hP0
  obtain ⟨A, hAe⟩ : ∃ A : Nat → Prop, A = fun _ => False := ⟨_, rfl⟩
  rw [← hAe]
  have hS : va_S A s.heap s.heap [] := va_S.rf
  have hl := lv_entry ([.ref h0]) (n := 1) (Nat.le_of_ble_eq_true rfl)
  rw [lg_entry_eq]
  generalize (lg_sl ([.ref h0]) ++ List.replicate (1 - (lg_sl ([.ref h0])).length) Slot.unset).toArray = ls at hl ⊢
  have hl : lv_has ls 1 [(0, .ref h0)] := hl
  unfold A_MD_check at hr0
  refine lv_iconst (v := 1) hx hb d_MD_check_0 (by decide) ?_
  exact W.iret (v := 1) hx hb hr (fun t ht hW => ⟨⟨1, (), rfl, hr0, ht⟩, hS.F ht⟩) hS.2.2 d_MD_check_1

def A_MD_statement (σ : tMD) (n : Int32) : Option (Int32 × tMD) := if n < 0 then (some ((-1), σ)) else (if 60 < n then (some ((-1), σ)) else (if (gMD_statements σ) = 1500 then (some ((-1), σ)) else (if (gMD_statements σ) < 0 ∨ 1500 ≤ (gMD_statements σ).toNatClampNeg then none else (bnd (uMD_takes σ (upd (gMD_takes σ) (gMD_statements σ).toNatClampNeg n)) (fun T23 => bnd (uMD_statements T23 ((gMD_statements T23) + 1)) (fun T25 => some ((gMD_statements T25) - 1, T25)))))))
set_option maxHeartbeats 4000000 in
set_option maxRecDepth 100000 in
theorem c_MD_statement (l : Launch) (G : pG) (h0 : Nat) (σ : tMD) (n : Int32) (H : Heap) (w : va_W) (hP0 : va_P G.1 vwCl w H) (hD0 : va_D (fun _ => True) w) (hσ : pMD G h0 σ w) (res : Int32 × tMD) (hr0 : A_MD_statement σ n = some res) : MWi l y_MD_statement w_MD_statement 0 0 0 G [.ref h0, .int n] H w res.1 (pMD G h0 res.2) := by
  refine Met.ofW (cc := b_MD_statement) (maxL := 2) (ret := (some .int)) (by decide) rfl ?_
  intro p e s m args below meth c s₁ B hml hv
  obtain ⟨rfl, rfl, hK⟩ := hv
  have hx := B.exec
  have hb := B.bytes
  have hr := B.returns
  have hts0 := atoms_spec (ws := w_MD_statement) B.pre
  have hts := fun w (h : w ∈ lw_g) => hts0 w (List.mem_cons_of_mem _ h)
  have hown : s.vm.findClass RMD = some m.cls := findClass_of_methodNamed B.named
  have hlocks := B.notSynchronized
  have hA : ∀ q : Nat, s.heap.size ≤ q → va_A w s.heap.size q := fun _ h => Or.inr h
  have hB : bk G.1 vwCl (va_A w s.heap.size) [w] s.heap := bk_init hP0 hD0
  generalize va_A w s.heap.size = A at *
  have hS : va_S A s.heap s.heap [] := va_S.rf
  obtain ⟨q1, q2, q3, q4, q5, q6, q7, q8, q9, q10, q11, q12, q13, q14, q15, q16, q17, q18, rfl⟩ := hσ
  have hB := bk_many hB
  have hk : 0 + 0 = 0 := rfl
  have hl := lv_entry ([.ref h0, .int n]) (n := 2) (Nat.le_of_ble_eq_true rfl)
  rw [lg_entry_eq]
  generalize (lg_sl ([.ref h0, .int n]) ++ List.replicate (2 - (lg_sl ([.ref h0, .int n])).length) Slot.unset).toArray = ls at hl ⊢
  have hl : lv_has ls 2 [(0, .ref h0), (1, .int n)] := hl
  unfold A_MD_statement at hr0
  refine lv_iload_n hx hb d_MD_statement_0 rfl (lv_at hl 1 rfl) ?_
  refine lv_if_lt (tgt := 20) hx hb d_MD_statement_1 (by decide) (fun c19 => ?_) (fun c19 => ?_)
  · have hr0 := ai_pos c19 hr0
    refine lv_iconst (v := (-1)) hx hb d_MD_statement_20 (by decide) ?_
    have hr0 := Option.some.inj hr0
    subst hr0
    refine W.widen (k := 0) (n := 0) (Nat.le_refl _) (Nat.le_refl _) ?_
    exact W.iret (v := (-1)) hx hb hr (fun t ht hW => ⟨⟨(-1), [[(h0, .inr (6, [.int (gMD_statements σ), .ref q1, .ref q2, .int (gMD_mandatoryCount σ), .int (gMD_rows σ), .ref q3, .ref q4, .ref q5, .ref q6, .ref q7, .int (gMD_fromCount σ), .ref q8, .int (gMD_piled σ), .int (gMD_puts σ), .int (gMD_steps σ), .ref q9, .ref q10, .ref q11, .ref q12, .ref q13, .int (gMD_savedCount σ), .ref q14, .int (gMD_labelCount σ), .ref q15, .int (gMD_letterCount σ), .ref q16, .ref q17, .ref q18]))], [(q1, .inl (G.2.1, 1500, .inl (gMD_takes σ)))], [(q2, .inl (G.2.1, 60, .inl (gMD_mandatories σ)))], [(q3, .inl (G.2.1, 4000, .inl (gMD_makers σ)))], [(q4, .inl (G.2.1, 4000, .inl (gMD_fromAt σ)))], [(q5, .inl (G.2.1, 4000, .inl (gMD_firstSame σ)))], [(q6, .inl (G.2.2.1, 4000, .inr (.inl (gMD_sizes σ))))], [(q7, .inl (G.2.1, 20100, .inl (gMD_froms σ)))], [(q8, .inl (G.2.1, 200, .inl (gMD_pile σ)))], [(q9, .inl (G.2.1, 26000, .inl (gMD_toldStep σ)))], [(q10, .inl (G.2.1, 26000, .inl (gMD_stepRow σ)))], [(q11, .inl (G.2.2.2, 4000, .inl (gMD_isSaved σ)))], [(q12, .inl (G.2.2.2, 4000, .inl (gMD_isTold σ)))], [(q13, .inl (G.2.1, 4000, .inl (gMD_savedNumber σ)))], [(q14, .inl (G.2.1, 1500, .inl (gMD_labels σ)))], [(q15, .inl (G.2.1, 120000, .inl (gMD_letters σ)))], [(q16, .inl (G.2.2.2, 26000, .inl (gMD_saving σ)))], [(q17, .inl (G.2.1, 4001, .inl (gMD_walk σ)))], [(q18, .inl (G.2.1, 4001, .inl (gMD_walkAt σ)))]].flatten, rfl, ⟨rfl, ⟨q1, q2, q3, q4, q5, q6, q7, q8, q9, q10, q11, q12, q13, q14, q15, q16, q17, q18, rfl⟩⟩, by rw [ht]; exact hB.1, hB.2⟩, hS.F ht⟩) hS.2.2 d_MD_statement_21
  · have hr0 := ai_neg c19 hr0
    refine lv_iload_n hx hb d_MD_statement_4 rfl (lv_at hl 1 rfl) ?_
    refine lv_bipush (v := 60) hx hb d_MD_statement_5 (by decide) ?_
    refine lv_icmp_gt (tgt := 20) hx hb d_MD_statement_7 (by decide) (fun c20 => ?_) (fun c20 => ?_)
    · have hr0 := ai_pos c20 hr0
      refine lv_iconst (v := (-1)) hx hb d_MD_statement_20 (by decide) ?_
      have hr0 := Option.some.inj hr0
      subst hr0
      refine W.widen (k := 0) (n := 0) (Nat.le_refl _) (Nat.le_refl _) ?_
      exact W.iret (v := (-1)) hx hb hr (fun t ht hW => ⟨⟨(-1), [[(h0, .inr (6, [.int (gMD_statements σ), .ref q1, .ref q2, .int (gMD_mandatoryCount σ), .int (gMD_rows σ), .ref q3, .ref q4, .ref q5, .ref q6, .ref q7, .int (gMD_fromCount σ), .ref q8, .int (gMD_piled σ), .int (gMD_puts σ), .int (gMD_steps σ), .ref q9, .ref q10, .ref q11, .ref q12, .ref q13, .int (gMD_savedCount σ), .ref q14, .int (gMD_labelCount σ), .ref q15, .int (gMD_letterCount σ), .ref q16, .ref q17, .ref q18]))], [(q1, .inl (G.2.1, 1500, .inl (gMD_takes σ)))], [(q2, .inl (G.2.1, 60, .inl (gMD_mandatories σ)))], [(q3, .inl (G.2.1, 4000, .inl (gMD_makers σ)))], [(q4, .inl (G.2.1, 4000, .inl (gMD_fromAt σ)))], [(q5, .inl (G.2.1, 4000, .inl (gMD_firstSame σ)))], [(q6, .inl (G.2.2.1, 4000, .inr (.inl (gMD_sizes σ))))], [(q7, .inl (G.2.1, 20100, .inl (gMD_froms σ)))], [(q8, .inl (G.2.1, 200, .inl (gMD_pile σ)))], [(q9, .inl (G.2.1, 26000, .inl (gMD_toldStep σ)))], [(q10, .inl (G.2.1, 26000, .inl (gMD_stepRow σ)))], [(q11, .inl (G.2.2.2, 4000, .inl (gMD_isSaved σ)))], [(q12, .inl (G.2.2.2, 4000, .inl (gMD_isTold σ)))], [(q13, .inl (G.2.1, 4000, .inl (gMD_savedNumber σ)))], [(q14, .inl (G.2.1, 1500, .inl (gMD_labels σ)))], [(q15, .inl (G.2.1, 120000, .inl (gMD_letters σ)))], [(q16, .inl (G.2.2.2, 26000, .inl (gMD_saving σ)))], [(q17, .inl (G.2.1, 4001, .inl (gMD_walk σ)))], [(q18, .inl (G.2.1, 4001, .inl (gMD_walkAt σ)))]].flatten, rfl, ⟨rfl, ⟨q1, q2, q3, q4, q5, q6, q7, q8, q9, q10, q11, q12, q13, q14, q15, q16, q17, q18, rfl⟩⟩, by rw [ht]; exact hB.1, hB.2⟩, hS.F ht⟩) hS.2.2 d_MD_statement_21
    · have hr0 := ai_neg c20 hr0
      refine lv_aload_n hx hb d_MD_statement_10 rfl (lv_at hl 0 rfl) ?_
      refine va_get (D := G.1) (ci := 6) (v := .int (gMD_statements σ)) (C := RMD) (T := TMD) (N := 28) hx hb hts inMD hown hK hB.1 0 rfl rfl 0 (by decide) (hts _ fl_MD_67) (fun _ h9 => h9) rfl d_MD_statement_11 ?_
      refine lv_sipush (v := 1500) hx hb d_MD_statement_14 (by decide) ?_
      refine lv_icmp_ne (tgt := 22) hx hb d_MD_statement_17 (by decide) (fun c21 => ?_) (fun c21 => ?_)
      · have hr0 := ai_neg c21 hr0
        refine lv_aload_n hx hb d_MD_statement_22 rfl (lv_at hl 0 rfl) ?_
        refine va_get (D := G.1) (ci := 6) (v := .ref q1) (C := RMD) (T := TMD) (N := 28) hx hb hts inMD hown hK hB.1 0 rfl rfl 1 (by decide) (hts _ fl_MD_7) (fun _ h9 => h9) rfl d_MD_statement_23 ?_
        refine lv_aload_n hx hb d_MD_statement_26 rfl (lv_at hl 0 rfl) ?_
        refine va_get (D := G.1) (ci := 6) (v := .int (gMD_statements σ)) (C := RMD) (T := TMD) (N := 28) hx hb hts inMD hown hK hB.1 0 rfl rfl 0 (by decide) (hts _ fl_MD_67) (fun _ h9 => h9) rfl d_MD_statement_27 ?_
        refine lv_iload_n hx hb d_MD_statement_30 rfl (lv_at hl 1 rfl) ?_
        have c22 := og_n hr0
        have hr0 := og_e hr0
        refine va_iast hx hb hK hB.1 hB.2 hS 1 0 rfl rfl (c22) d_MD_statement_31 (fun H locs hP hD hS => ?_)
        have hB : bk G.1 vwCl A [[(h0, .inr (6, [.int (gMD_statements σ), .ref q1, .ref q2, .int (gMD_mandatoryCount σ), .int (gMD_rows σ), .ref q3, .ref q4, .ref q5, .ref q6, .ref q7, .int (gMD_fromCount σ), .ref q8, .int (gMD_piled σ), .int (gMD_puts σ), .int (gMD_steps σ), .ref q9, .ref q10, .ref q11, .ref q12, .ref q13, .int (gMD_savedCount σ), .ref q14, .int (gMD_labelCount σ), .ref q15, .int (gMD_letterCount σ), .ref q16, .ref q17, .ref q18]))], [(q1, .inl (G.2.1, 1500, .inl (upd (gMD_takes σ) (gMD_statements σ).toNatClampNeg n)))], [(q2, .inl (G.2.1, 60, .inl (gMD_mandatories σ)))], [(q3, .inl (G.2.1, 4000, .inl (gMD_makers σ)))], [(q4, .inl (G.2.1, 4000, .inl (gMD_fromAt σ)))], [(q5, .inl (G.2.1, 4000, .inl (gMD_firstSame σ)))], [(q6, .inl (G.2.2.1, 4000, .inr (.inl (gMD_sizes σ))))], [(q7, .inl (G.2.1, 20100, .inl (gMD_froms σ)))], [(q8, .inl (G.2.1, 200, .inl (gMD_pile σ)))], [(q9, .inl (G.2.1, 26000, .inl (gMD_toldStep σ)))], [(q10, .inl (G.2.1, 26000, .inl (gMD_stepRow σ)))], [(q11, .inl (G.2.2.2, 4000, .inl (gMD_isSaved σ)))], [(q12, .inl (G.2.2.2, 4000, .inl (gMD_isTold σ)))], [(q13, .inl (G.2.1, 4000, .inl (gMD_savedNumber σ)))], [(q14, .inl (G.2.1, 1500, .inl (gMD_labels σ)))], [(q15, .inl (G.2.1, 120000, .inl (gMD_letters σ)))], [(q16, .inl (G.2.2.2, 26000, .inl (gMD_saving σ)))], [(q17, .inl (G.2.1, 4001, .inl (gMD_walk σ)))], [(q18, .inl (G.2.1, 4001, .inl (gMD_walkAt σ)))]] H := ⟨hP, hD⟩
        obtain ⟨T23, hT24⟩ : ∃ z, uMD_takes σ (upd (gMD_takes σ) (gMD_statements σ).toNatClampNeg n) = z := ⟨_, rfl⟩
        have hr0 := bnd_e hT24 hr0
        have hB : bk G.1 vwCl A [[(h0, .inr (6, [.int (gMD_statements T23), .ref q1, .ref q2, .int (gMD_mandatoryCount T23), .int (gMD_rows T23), .ref q3, .ref q4, .ref q5, .ref q6, .ref q7, .int (gMD_fromCount T23), .ref q8, .int (gMD_piled T23), .int (gMD_puts T23), .int (gMD_steps T23), .ref q9, .ref q10, .ref q11, .ref q12, .ref q13, .int (gMD_savedCount T23), .ref q14, .int (gMD_labelCount T23), .ref q15, .int (gMD_letterCount T23), .ref q16, .ref q17, .ref q18]))], [(q1, .inl (G.2.1, 1500, .inl (gMD_takes T23)))], [(q2, .inl (G.2.1, 60, .inl (gMD_mandatories T23)))], [(q3, .inl (G.2.1, 4000, .inl (gMD_makers T23)))], [(q4, .inl (G.2.1, 4000, .inl (gMD_fromAt T23)))], [(q5, .inl (G.2.1, 4000, .inl (gMD_firstSame T23)))], [(q6, .inl (G.2.2.1, 4000, .inr (.inl (gMD_sizes T23))))], [(q7, .inl (G.2.1, 20100, .inl (gMD_froms T23)))], [(q8, .inl (G.2.1, 200, .inl (gMD_pile T23)))], [(q9, .inl (G.2.1, 26000, .inl (gMD_toldStep T23)))], [(q10, .inl (G.2.1, 26000, .inl (gMD_stepRow T23)))], [(q11, .inl (G.2.2.2, 4000, .inl (gMD_isSaved T23)))], [(q12, .inl (G.2.2.2, 4000, .inl (gMD_isTold T23)))], [(q13, .inl (G.2.1, 4000, .inl (gMD_savedNumber T23)))], [(q14, .inl (G.2.1, 1500, .inl (gMD_labels T23)))], [(q15, .inl (G.2.1, 120000, .inl (gMD_letters T23)))], [(q16, .inl (G.2.2.2, 26000, .inl (gMD_saving T23)))], [(q17, .inl (G.2.1, 4001, .inl (gMD_walk T23)))], [(q18, .inl (G.2.1, 4001, .inl (gMD_walkAt T23)))]] H := by subst hT24; exact hB
        refine lv_aload_n hx hb d_MD_statement_32 rfl (lv_at hl 0 rfl) ?_
        refine lv_dup hx hb d_MD_statement_33 rfl ?_
        refine va_get (D := G.1) (ci := 6) (v := .int (gMD_statements T23)) (C := RMD) (T := TMD) (N := 28) hx hb hts inMD hown hK hB.1 0 rfl rfl 0 (by decide) (hts _ fl_MD_67) (fun _ h9 => h9) rfl d_MD_statement_34 ?_
        refine lv_iconst (v := 1) hx hb d_MD_statement_37 (by decide) ?_
        refine lv_iadd hx hb d_MD_statement_38 ?_
        refine va_put (D := G.1) (ci := 6) (v := .int ((gMD_statements T23) + 1)) (ty := .int) (C := RMD) (T := TMD) (N := 28) hx hb hts inMD tyMD tokMD nmMD hown hK hB.1 hB.2 hS 0 rfl rfl 0 (by decide) (hts _ fl_MD_67) (fun _ h9 => h9) rfl (by decide +kernel) rfl rfl (Nat.le_of_ble_eq_true rfl) d_MD_statement_39 (fun H locs hP hD hS => ?_)
        have hB : bk G.1 vwCl A [[(h0, .inr (6, [.int ((gMD_statements T23) + 1), .ref q1, .ref q2, .int (gMD_mandatoryCount T23), .int (gMD_rows T23), .ref q3, .ref q4, .ref q5, .ref q6, .ref q7, .int (gMD_fromCount T23), .ref q8, .int (gMD_piled T23), .int (gMD_puts T23), .int (gMD_steps T23), .ref q9, .ref q10, .ref q11, .ref q12, .ref q13, .int (gMD_savedCount T23), .ref q14, .int (gMD_labelCount T23), .ref q15, .int (gMD_letterCount T23), .ref q16, .ref q17, .ref q18]))], [(q1, .inl (G.2.1, 1500, .inl (gMD_takes T23)))], [(q2, .inl (G.2.1, 60, .inl (gMD_mandatories T23)))], [(q3, .inl (G.2.1, 4000, .inl (gMD_makers T23)))], [(q4, .inl (G.2.1, 4000, .inl (gMD_fromAt T23)))], [(q5, .inl (G.2.1, 4000, .inl (gMD_firstSame T23)))], [(q6, .inl (G.2.2.1, 4000, .inr (.inl (gMD_sizes T23))))], [(q7, .inl (G.2.1, 20100, .inl (gMD_froms T23)))], [(q8, .inl (G.2.1, 200, .inl (gMD_pile T23)))], [(q9, .inl (G.2.1, 26000, .inl (gMD_toldStep T23)))], [(q10, .inl (G.2.1, 26000, .inl (gMD_stepRow T23)))], [(q11, .inl (G.2.2.2, 4000, .inl (gMD_isSaved T23)))], [(q12, .inl (G.2.2.2, 4000, .inl (gMD_isTold T23)))], [(q13, .inl (G.2.1, 4000, .inl (gMD_savedNumber T23)))], [(q14, .inl (G.2.1, 1500, .inl (gMD_labels T23)))], [(q15, .inl (G.2.1, 120000, .inl (gMD_letters T23)))], [(q16, .inl (G.2.2.2, 26000, .inl (gMD_saving T23)))], [(q17, .inl (G.2.1, 4001, .inl (gMD_walk T23)))], [(q18, .inl (G.2.1, 4001, .inl (gMD_walkAt T23)))]] H := ⟨hP, hD⟩
        obtain ⟨T25, hT26⟩ : ∃ z, uMD_statements T23 ((gMD_statements T23) + 1) = z := ⟨_, rfl⟩
        have hr0 := bnd_e hT26 hr0
        have hB : bk G.1 vwCl A [[(h0, .inr (6, [.int (gMD_statements T25), .ref q1, .ref q2, .int (gMD_mandatoryCount T25), .int (gMD_rows T25), .ref q3, .ref q4, .ref q5, .ref q6, .ref q7, .int (gMD_fromCount T25), .ref q8, .int (gMD_piled T25), .int (gMD_puts T25), .int (gMD_steps T25), .ref q9, .ref q10, .ref q11, .ref q12, .ref q13, .int (gMD_savedCount T25), .ref q14, .int (gMD_labelCount T25), .ref q15, .int (gMD_letterCount T25), .ref q16, .ref q17, .ref q18]))], [(q1, .inl (G.2.1, 1500, .inl (gMD_takes T25)))], [(q2, .inl (G.2.1, 60, .inl (gMD_mandatories T25)))], [(q3, .inl (G.2.1, 4000, .inl (gMD_makers T25)))], [(q4, .inl (G.2.1, 4000, .inl (gMD_fromAt T25)))], [(q5, .inl (G.2.1, 4000, .inl (gMD_firstSame T25)))], [(q6, .inl (G.2.2.1, 4000, .inr (.inl (gMD_sizes T25))))], [(q7, .inl (G.2.1, 20100, .inl (gMD_froms T25)))], [(q8, .inl (G.2.1, 200, .inl (gMD_pile T25)))], [(q9, .inl (G.2.1, 26000, .inl (gMD_toldStep T25)))], [(q10, .inl (G.2.1, 26000, .inl (gMD_stepRow T25)))], [(q11, .inl (G.2.2.2, 4000, .inl (gMD_isSaved T25)))], [(q12, .inl (G.2.2.2, 4000, .inl (gMD_isTold T25)))], [(q13, .inl (G.2.1, 4000, .inl (gMD_savedNumber T25)))], [(q14, .inl (G.2.1, 1500, .inl (gMD_labels T25)))], [(q15, .inl (G.2.1, 120000, .inl (gMD_letters T25)))], [(q16, .inl (G.2.2.2, 26000, .inl (gMD_saving T25)))], [(q17, .inl (G.2.1, 4001, .inl (gMD_walk T25)))], [(q18, .inl (G.2.1, 4001, .inl (gMD_walkAt T25)))]] H := by subst hT26; exact hB
        refine lv_aload_n hx hb d_MD_statement_42 rfl (lv_at hl 0 rfl) ?_
        refine va_get (D := G.1) (ci := 6) (v := .int (gMD_statements T25)) (C := RMD) (T := TMD) (N := 28) hx hb hts inMD hown hK hB.1 0 rfl rfl 0 (by decide) (hts _ fl_MD_67) (fun _ h9 => h9) rfl d_MD_statement_43 ?_
        refine lv_iconst (v := 1) hx hb d_MD_statement_46 (by decide) ?_
        refine lv_isub hx hb d_MD_statement_47 ?_
        have hr0 := Option.some.inj hr0
        subst hr0
        refine W.widen (k := 0) (n := 0) (Nat.le_refl _) (Nat.le_refl _) ?_
        exact W.iret (v := ((gMD_statements T25) - 1)) hx hb hr (fun t ht hW => ⟨⟨((gMD_statements T25) - 1), [[(h0, .inr (6, [.int (gMD_statements T25), .ref q1, .ref q2, .int (gMD_mandatoryCount T25), .int (gMD_rows T25), .ref q3, .ref q4, .ref q5, .ref q6, .ref q7, .int (gMD_fromCount T25), .ref q8, .int (gMD_piled T25), .int (gMD_puts T25), .int (gMD_steps T25), .ref q9, .ref q10, .ref q11, .ref q12, .ref q13, .int (gMD_savedCount T25), .ref q14, .int (gMD_labelCount T25), .ref q15, .int (gMD_letterCount T25), .ref q16, .ref q17, .ref q18]))], [(q1, .inl (G.2.1, 1500, .inl (gMD_takes T25)))], [(q2, .inl (G.2.1, 60, .inl (gMD_mandatories T25)))], [(q3, .inl (G.2.1, 4000, .inl (gMD_makers T25)))], [(q4, .inl (G.2.1, 4000, .inl (gMD_fromAt T25)))], [(q5, .inl (G.2.1, 4000, .inl (gMD_firstSame T25)))], [(q6, .inl (G.2.2.1, 4000, .inr (.inl (gMD_sizes T25))))], [(q7, .inl (G.2.1, 20100, .inl (gMD_froms T25)))], [(q8, .inl (G.2.1, 200, .inl (gMD_pile T25)))], [(q9, .inl (G.2.1, 26000, .inl (gMD_toldStep T25)))], [(q10, .inl (G.2.1, 26000, .inl (gMD_stepRow T25)))], [(q11, .inl (G.2.2.2, 4000, .inl (gMD_isSaved T25)))], [(q12, .inl (G.2.2.2, 4000, .inl (gMD_isTold T25)))], [(q13, .inl (G.2.1, 4000, .inl (gMD_savedNumber T25)))], [(q14, .inl (G.2.1, 1500, .inl (gMD_labels T25)))], [(q15, .inl (G.2.1, 120000, .inl (gMD_letters T25)))], [(q16, .inl (G.2.2.2, 26000, .inl (gMD_saving T25)))], [(q17, .inl (G.2.1, 4001, .inl (gMD_walk T25)))], [(q18, .inl (G.2.1, 4001, .inl (gMD_walkAt T25)))]].flatten, rfl, ⟨rfl, ⟨q1, q2, q3, q4, q5, q6, q7, q8, q9, q10, q11, q12, q13, q14, q15, q16, q17, q18, rfl⟩⟩, by rw [ht]; exact hB.1, hB.2⟩, hS.F ht⟩) hS.2.2 d_MD_statement_48
      · have hr0 := ai_pos c21 hr0
        refine lv_iconst (v := (-1)) hx hb d_MD_statement_20 (by decide) ?_
        have hr0 := Option.some.inj hr0
        subst hr0
        refine W.widen (k := 0) (n := 0) (Nat.le_refl _) (Nat.le_refl _) ?_
        exact W.iret (v := (-1)) hx hb hr (fun t ht hW => ⟨⟨(-1), [[(h0, .inr (6, [.int (gMD_statements σ), .ref q1, .ref q2, .int (gMD_mandatoryCount σ), .int (gMD_rows σ), .ref q3, .ref q4, .ref q5, .ref q6, .ref q7, .int (gMD_fromCount σ), .ref q8, .int (gMD_piled σ), .int (gMD_puts σ), .int (gMD_steps σ), .ref q9, .ref q10, .ref q11, .ref q12, .ref q13, .int (gMD_savedCount σ), .ref q14, .int (gMD_labelCount σ), .ref q15, .int (gMD_letterCount σ), .ref q16, .ref q17, .ref q18]))], [(q1, .inl (G.2.1, 1500, .inl (gMD_takes σ)))], [(q2, .inl (G.2.1, 60, .inl (gMD_mandatories σ)))], [(q3, .inl (G.2.1, 4000, .inl (gMD_makers σ)))], [(q4, .inl (G.2.1, 4000, .inl (gMD_fromAt σ)))], [(q5, .inl (G.2.1, 4000, .inl (gMD_firstSame σ)))], [(q6, .inl (G.2.2.1, 4000, .inr (.inl (gMD_sizes σ))))], [(q7, .inl (G.2.1, 20100, .inl (gMD_froms σ)))], [(q8, .inl (G.2.1, 200, .inl (gMD_pile σ)))], [(q9, .inl (G.2.1, 26000, .inl (gMD_toldStep σ)))], [(q10, .inl (G.2.1, 26000, .inl (gMD_stepRow σ)))], [(q11, .inl (G.2.2.2, 4000, .inl (gMD_isSaved σ)))], [(q12, .inl (G.2.2.2, 4000, .inl (gMD_isTold σ)))], [(q13, .inl (G.2.1, 4000, .inl (gMD_savedNumber σ)))], [(q14, .inl (G.2.1, 1500, .inl (gMD_labels σ)))], [(q15, .inl (G.2.1, 120000, .inl (gMD_letters σ)))], [(q16, .inl (G.2.2.2, 26000, .inl (gMD_saving σ)))], [(q17, .inl (G.2.1, 4001, .inl (gMD_walk σ)))], [(q18, .inl (G.2.1, 4001, .inl (gMD_walkAt σ)))]].flatten, rfl, ⟨rfl, ⟨q1, q2, q3, q4, q5, q6, q7, q8, q9, q10, q11, q12, q13, q14, q15, q16, q17, q18, rfl⟩⟩, by rw [ht]; exact hB.1, hB.2⟩, hS.F ht⟩) hS.2.2 d_MD_statement_21

def A_MD_mandatoryOf_L2 (σ : tMD) (i : Int32) : Nat → Int32 → Option (Int32)
  | 0, _ => none
  | n2 + 1, k => if (gMD_mandatoryCount σ) ≤ k then (some (-1)) else (if k < 0 ∨ 60 ≤ k.toNatClampNeg then none else (if ((gMD_mandatories σ) k.toNatClampNeg) = i then (some k) else (A_MD_mandatoryOf_L2 σ i n2 (k + 1))))
def A_MD_mandatoryOf (σ : tMD) (i : Int32) : Option (Int32) := A_MD_mandatoryOf_L2 σ i fuelM 0
set_option maxHeartbeats 4000000 in
set_option maxRecDepth 100000 in
theorem c_MD_mandatoryOf (l : Launch) (G : pG) (h0 : Nat) (σ : tMD) (i : Int32) (H : Heap) (w : va_W) (hP0 : va_P G.1 vwCl w H) (hσ : pMD G h0 σ w) (res : Int32) (hr0 : A_MD_mandatoryOf σ i = some res) : MRi l y_MD_mandatoryOf w_MD_mandatoryOf 0 0 G [.ref h0, .int i] H res := by
  refine Met.ofW (cc := b_MD_mandatoryOf) (maxL := 3) (ret := (some .int)) (by decide) rfl ?_
  intro p e s m args below meth c s₁ B hml hv
  obtain ⟨rfl, rfl, hK⟩ := hv
  have hx := B.exec
  have hb := B.bytes
  have hr := B.returns
  have hts0 := atoms_spec (ws := w_MD_mandatoryOf) B.pre
  have hts := fun w (h : w ∈ lw_g) => hts0 w (List.mem_cons_of_mem _ h)
  have hown : s.vm.findClass RMD = some m.cls := findClass_of_methodNamed B.named
  have hlocks := B.notSynchronized
  have hσ0 := hσ
  obtain ⟨q1, q2, q3, q4, q5, q6, q7, q8, q9, q10, q11, q12, q13, q14, q15, q16, q17, q18, rfl⟩ := hσ
  have hP := hP0
  obtain ⟨A, hAe⟩ : ∃ A : Nat → Prop, A = fun _ => False := ⟨_, rfl⟩
  rw [← hAe]
  have hS : va_S A s.heap s.heap [] := va_S.rf
  have hl := lv_entry ([.ref h0, .int i]) (n := 3) (Nat.le_of_ble_eq_true rfl)
  rw [lg_entry_eq]
  generalize (lg_sl ([.ref h0, .int i]) ++ List.replicate (3 - (lg_sl ([.ref h0, .int i])).length) Slot.unset).toArray = ls at hl ⊢
  have hl : lv_has ls 3 [(0, .ref h0), (1, .int i)] := hl
  unfold A_MD_mandatoryOf at hr0
  refine lv_iconst (v := 0) hx hb d_MD_mandatoryOf_0 (by decide) ?_
  refine lv_istore_n (lv' := [(2, .int 0), (0, .ref h0), (1, .int i)]) hx hb d_MD_mandatoryOf_1 rfl hl (by decide) rfl (fun ls hl => ?_)
  refine lp_R (I := fun n2 locs ls => ∃ (k : Int32), va_S A s.heap s.heap locs ∧ lv_has ls 3 [(0, .ref h0), (1, .int i), (2, .int k)] ∧ A_MD_mandatoryOf_L2 σ i n2 k = some res) ?_ ?_ fuelM _ _ ⟨0, hS, lv_sub hl [1, 2, 0] rfl, hr0⟩
  · intro n2 ih2 locs ls ⟨k, hS, hl, hr0⟩
    rw [A_MD_mandatoryOf_L2] at hr0
    refine lv_iload_n hx hb d_MD_mandatoryOf_2 rfl (lv_at hl 2 rfl) ?_
    refine lv_aload_n hx hb d_MD_mandatoryOf_3 rfl (lv_at hl 0 rfl) ?_
    refine va_get (D := G.1) (ci := 6) (v := .int (gMD_mandatoryCount σ)) (C := RMD) (T := TMD) (N := 28) hx hb hts inMD hown hK hP 0 rfl rfl 3 (by decide) (hts _ fl_MD_71) (fun _ h9 => h9) rfl d_MD_mandatoryOf_4 ?_
    refine lv_icmp_ge (tgt := 28) hx hb d_MD_mandatoryOf_7 (by decide) (fun c19 => ?_) (fun c19 => ?_)
    · have hr0 := ai_pos c19 hr0
      refine lv_iconst (v := (-1)) hx hb d_MD_mandatoryOf_28 (by decide) ?_
      have hr0 := Option.some.inj hr0
      exact W.iret (v := (-1)) hx hb hr (fun t ht hW => ⟨⟨(-1), (), rfl, hr0, ht⟩, hS.F ht⟩) hS.2.2 d_MD_mandatoryOf_29
    · have hr0 := ai_neg c19 hr0
      refine lv_aload_n hx hb d_MD_mandatoryOf_10 rfl (lv_at hl 0 rfl) ?_
      refine va_get (D := G.1) (ci := 6) (v := .ref q2) (C := RMD) (T := TMD) (N := 28) hx hb hts inMD hown hK hP 0 rfl rfl 2 (by decide) (hts _ fl_MD_13) (fun _ h9 => h9) rfl d_MD_mandatoryOf_11 ?_
      refine lv_iload_n hx hb d_MD_mandatoryOf_14 rfl (lv_at hl 2 rfl) ?_
      have c20 := og_n hr0
      have hr0 := og_e hr0
      refine va_iald hx hb hK hP 2 0 rfl rfl (c20) d_MD_mandatoryOf_15 ?_
      refine lv_iload_n hx hb d_MD_mandatoryOf_16 rfl (lv_at hl 1 rfl) ?_
      refine lv_icmp_ne (tgt := 22) hx hb d_MD_mandatoryOf_17 (by decide) (fun c21 => ?_) (fun c21 => ?_)
      · have hr0 := ai_neg c21 hr0
        refine lv_iinc (v := k + 1) (lv' := [(2, .int (k + 1)), (0, .ref h0), (1, .int i)]) hx hb d_MD_mandatoryOf_22 hl (k := 2) rfl rfl (by decide) rfl (fun ls hl => ?_)
        refine lv_goto (tgt := 2) hx hb d_MD_mandatoryOf_25 (by decide) ?_
        exact ih2 _ _ ⟨(k + 1), hS, lv_sub hl [1, 2, 0] rfl, hr0⟩
      · have hr0 := ai_pos c21 hr0
        refine lv_iload_n hx hb d_MD_mandatoryOf_20 rfl (lv_at hl 2 rfl) ?_
        have hr0 := Option.some.inj hr0
        exact W.iret (v := k) hx hb hr (fun t ht hW => ⟨⟨k, (), rfl, hr0, ht⟩, hS.F ht⟩) hS.2.2 d_MD_mandatoryOf_21
  · rintro locs ls ⟨_, -, -, hz⟩; cases hz

def A_MD_mandatory (σ : tMD) (i : Int32) : Option (Int32 × tMD) := if (A_MD_isStatement σ i) = 0 then (some ((-1), σ)) else (if i < 0 ∨ 1500 ≤ i.toNatClampNeg then none else (if 0 < ((gMD_takes σ) i.toNatClampNeg) then (some ((-1), σ)) else ((A_MD_mandatoryOf σ i).bind (fun T24 => if 0 ≤ T24 then (some ((-1), σ)) else (if (gMD_mandatoryCount σ) = 60 then (some ((-1), σ)) else (if (gMD_mandatoryCount σ) < 0 ∨ 60 ≤ (gMD_mandatoryCount σ).toNatClampNeg then none else (bnd (uMD_mandatories σ (upd (gMD_mandatories σ) (gMD_mandatoryCount σ).toNatClampNeg i)) (fun T29 => bnd (uMD_mandatoryCount T29 ((gMD_mandatoryCount T29) + 1)) (fun T31 => some (gMD_mandatoryCount T31, T31))))))))))
set_option maxHeartbeats 4000000 in
set_option maxRecDepth 100000 in
theorem c_MD_mandatory (l : Launch) (G : pG) (h0 : Nat) (σ : tMD) (i : Int32) (H : Heap) (w : va_W) (hP0 : va_P G.1 vwCl w H) (hD0 : va_D (fun _ => True) w) (hσ : pMD G h0 σ w) (res : Int32 × tMD) (hr0 : A_MD_mandatory σ i = some res) : MWi l y_MD_mandatory w_MD_mandatory 1 22 0 G [.ref h0, .int i] H w res.1 (pMD G h0 res.2) := by
  refine Met.ofW (cc := b_MD_mandatory) (maxL := 2) (ret := (some .int)) (by decide) rfl ?_
  intro p e s m args below meth c s₁ B hml hv
  obtain ⟨rfl, rfl, hK⟩ := hv
  have hx := B.exec
  have hb := B.bytes
  have hr := B.returns
  have hts0 := atoms_spec (ws := w_MD_mandatory) B.pre
  have hts := fun w (h : w ∈ lw_g) => hts0 w (List.mem_cons_of_mem _ h)
  have hown : s.vm.findClass RMD = some m.cls := findClass_of_methodNamed B.named
  have hlocks := B.notSynchronized
  have hA : ∀ q : Nat, s.heap.size ≤ q → va_A w s.heap.size q := fun _ h => Or.inr h
  have hB : bk G.1 vwCl (va_A w s.heap.size) [w] s.heap := bk_init hP0 hD0
  generalize va_A w s.heap.size = A at *
  have hS : va_S A s.heap s.heap [] := va_S.rf
  obtain ⟨q1, q2, q3, q4, q5, q6, q7, q8, q9, q10, q11, q12, q13, q14, q15, q16, q17, q18, rfl⟩ := hσ
  have hB := bk_many hB
  have hk : 0 + 0 = 0 := rfl
  have hl := lv_entry ([.ref h0, .int i]) (n := 2) (Nat.le_of_ble_eq_true rfl)
  rw [lg_entry_eq]
  generalize (lg_sl ([.ref h0, .int i]) ++ List.replicate (2 - (lg_sl ([.ref h0, .int i])).length) Slot.unset).toArray = ls at hl ⊢
  have hl : lv_has ls 2 [(0, .ref h0), (1, .int i)] := hl
  unfold A_MD_mandatory at hr0
  refine lv_aload_n hx hb d_MD_mandatory_0 rfl (lv_at hl 0 rfl) ?_
  refine lv_iload_n hx hb d_MD_mandatory_1 rfl (lv_at hl 1 rfl) ?_
  have hpk19 : pMD G h0  σ ([[(h0, .inr (6, [.int (gMD_statements σ), .ref q1, .ref q2, .int (gMD_mandatoryCount σ), .int (gMD_rows σ), .ref q3, .ref q4, .ref q5, .ref q6, .ref q7, .int (gMD_fromCount σ), .ref q8, .int (gMD_piled σ), .int (gMD_puts σ), .int (gMD_steps σ), .ref q9, .ref q10, .ref q11, .ref q12, .ref q13, .int (gMD_savedCount σ), .ref q14, .int (gMD_labelCount σ), .ref q15, .int (gMD_letterCount σ), .ref q16, .ref q17, .ref q18]))], [(q1, .inl (G.2.1, 1500, .inl (gMD_takes σ)))], [(q2, .inl (G.2.1, 60, .inl (gMD_mandatories σ)))], [(q3, .inl (G.2.1, 4000, .inl (gMD_makers σ)))], [(q4, .inl (G.2.1, 4000, .inl (gMD_fromAt σ)))], [(q5, .inl (G.2.1, 4000, .inl (gMD_firstSame σ)))], [(q6, .inl (G.2.2.1, 4000, .inr (.inl (gMD_sizes σ))))], [(q7, .inl (G.2.1, 20100, .inl (gMD_froms σ)))], [(q8, .inl (G.2.1, 200, .inl (gMD_pile σ)))], [(q9, .inl (G.2.1, 26000, .inl (gMD_toldStep σ)))], [(q10, .inl (G.2.1, 26000, .inl (gMD_stepRow σ)))], [(q11, .inl (G.2.2.2, 4000, .inl (gMD_isSaved σ)))], [(q12, .inl (G.2.2.2, 4000, .inl (gMD_isTold σ)))], [(q13, .inl (G.2.1, 4000, .inl (gMD_savedNumber σ)))], [(q14, .inl (G.2.1, 1500, .inl (gMD_labels σ)))], [(q15, .inl (G.2.1, 120000, .inl (gMD_letters σ)))], [(q16, .inl (G.2.2.2, 26000, .inl (gMD_saving σ)))], [(q17, .inl (G.2.1, 4001, .inl (gMD_walk σ)))], [(q18, .inl (G.2.1, 4001, .inl (gMD_walkAt σ)))]].flatten) := ⟨q1, q2, q3, q4, q5, q6, q7, q8, q9, q10, q11, q12, q13, q14, q15, q16, q17, q18, rfl⟩
  refine rdV (G := G) (As := [.int i]) (rest := []) (C := RMD) ⟨hx, hb, hml, hown, hts⟩ (c_MD_isStatement l G h0 σ i _ _ hB.1 hpk19 _ rfl) (cwV 1 hts (gd_V ml_MD_74 im_MD_isStatement sl_MD_isStatement ini_MD k_MD_isStatement) rfl rmK_c rmK_s (by decide +kernel) ⟨Nat.le_of_ble_eq_true rfl, Nat.le_of_ble_eq_true rfl⟩) hK (pMD_recv hK hB.1 hpk19) hS ⟨Nat.le.intro hk, Nat.le.intro hk⟩ rfl hl.1 (Nat.le_of_ble_eq_true rfl) d_MD_mandatory_2 (fun locs hS => ?_)
  refine lv_if_eq (tgt := 34) hx hb d_MD_mandatory_5 (by decide) (fun c20 => ?_) (fun c20 => ?_)
  · have hr0 := ai_pos c20 hr0
    refine lv_iconst (v := (-1)) hx hb d_MD_mandatory_34 (by decide) ?_
    have hr0 := Option.some.inj hr0
    subst hr0
    refine W.widen (k := 0) (n := 0) (Nat.le_refl _) (Nat.le_refl _) ?_
    exact W.iret (v := (-1)) hx hb hr (fun t ht hW => ⟨⟨(-1), [[(h0, .inr (6, [.int (gMD_statements σ), .ref q1, .ref q2, .int (gMD_mandatoryCount σ), .int (gMD_rows σ), .ref q3, .ref q4, .ref q5, .ref q6, .ref q7, .int (gMD_fromCount σ), .ref q8, .int (gMD_piled σ), .int (gMD_puts σ), .int (gMD_steps σ), .ref q9, .ref q10, .ref q11, .ref q12, .ref q13, .int (gMD_savedCount σ), .ref q14, .int (gMD_labelCount σ), .ref q15, .int (gMD_letterCount σ), .ref q16, .ref q17, .ref q18]))], [(q1, .inl (G.2.1, 1500, .inl (gMD_takes σ)))], [(q2, .inl (G.2.1, 60, .inl (gMD_mandatories σ)))], [(q3, .inl (G.2.1, 4000, .inl (gMD_makers σ)))], [(q4, .inl (G.2.1, 4000, .inl (gMD_fromAt σ)))], [(q5, .inl (G.2.1, 4000, .inl (gMD_firstSame σ)))], [(q6, .inl (G.2.2.1, 4000, .inr (.inl (gMD_sizes σ))))], [(q7, .inl (G.2.1, 20100, .inl (gMD_froms σ)))], [(q8, .inl (G.2.1, 200, .inl (gMD_pile σ)))], [(q9, .inl (G.2.1, 26000, .inl (gMD_toldStep σ)))], [(q10, .inl (G.2.1, 26000, .inl (gMD_stepRow σ)))], [(q11, .inl (G.2.2.2, 4000, .inl (gMD_isSaved σ)))], [(q12, .inl (G.2.2.2, 4000, .inl (gMD_isTold σ)))], [(q13, .inl (G.2.1, 4000, .inl (gMD_savedNumber σ)))], [(q14, .inl (G.2.1, 1500, .inl (gMD_labels σ)))], [(q15, .inl (G.2.1, 120000, .inl (gMD_letters σ)))], [(q16, .inl (G.2.2.2, 26000, .inl (gMD_saving σ)))], [(q17, .inl (G.2.1, 4001, .inl (gMD_walk σ)))], [(q18, .inl (G.2.1, 4001, .inl (gMD_walkAt σ)))]].flatten, rfl, ⟨rfl, ⟨q1, q2, q3, q4, q5, q6, q7, q8, q9, q10, q11, q12, q13, q14, q15, q16, q17, q18, rfl⟩⟩, by rw [ht]; exact hB.1, hB.2⟩, hS.F ht⟩) hS.2.2 d_MD_mandatory_35
  · have hr0 := ai_neg c20 hr0
    refine lv_aload_n hx hb d_MD_mandatory_8 rfl (lv_at hl 0 rfl) ?_
    refine va_get (D := G.1) (ci := 6) (v := .ref q1) (C := RMD) (T := TMD) (N := 28) hx hb hts inMD hown hK hB.1 0 rfl rfl 1 (by decide) (hts _ fl_MD_7) (fun _ h9 => h9) rfl d_MD_mandatory_9 ?_
    refine lv_iload_n hx hb d_MD_mandatory_12 rfl (lv_at hl 1 rfl) ?_
    have c21 := og_n hr0
    have hr0 := og_e hr0
    refine va_iald hx hb hK hB.1 1 0 rfl rfl (c21) d_MD_mandatory_13 ?_
    refine lv_if_gt (tgt := 34) hx hb d_MD_mandatory_14 (by decide) (fun c22 => ?_) (fun c22 => ?_)
    · have hr0 := ai_pos c22 hr0
      refine lv_iconst (v := (-1)) hx hb d_MD_mandatory_34 (by decide) ?_
      have hr0 := Option.some.inj hr0
      subst hr0
      refine W.widen (k := 0) (n := 0) (Nat.le_refl _) (Nat.le_refl _) ?_
      exact W.iret (v := (-1)) hx hb hr (fun t ht hW => ⟨⟨(-1), [[(h0, .inr (6, [.int (gMD_statements σ), .ref q1, .ref q2, .int (gMD_mandatoryCount σ), .int (gMD_rows σ), .ref q3, .ref q4, .ref q5, .ref q6, .ref q7, .int (gMD_fromCount σ), .ref q8, .int (gMD_piled σ), .int (gMD_puts σ), .int (gMD_steps σ), .ref q9, .ref q10, .ref q11, .ref q12, .ref q13, .int (gMD_savedCount σ), .ref q14, .int (gMD_labelCount σ), .ref q15, .int (gMD_letterCount σ), .ref q16, .ref q17, .ref q18]))], [(q1, .inl (G.2.1, 1500, .inl (gMD_takes σ)))], [(q2, .inl (G.2.1, 60, .inl (gMD_mandatories σ)))], [(q3, .inl (G.2.1, 4000, .inl (gMD_makers σ)))], [(q4, .inl (G.2.1, 4000, .inl (gMD_fromAt σ)))], [(q5, .inl (G.2.1, 4000, .inl (gMD_firstSame σ)))], [(q6, .inl (G.2.2.1, 4000, .inr (.inl (gMD_sizes σ))))], [(q7, .inl (G.2.1, 20100, .inl (gMD_froms σ)))], [(q8, .inl (G.2.1, 200, .inl (gMD_pile σ)))], [(q9, .inl (G.2.1, 26000, .inl (gMD_toldStep σ)))], [(q10, .inl (G.2.1, 26000, .inl (gMD_stepRow σ)))], [(q11, .inl (G.2.2.2, 4000, .inl (gMD_isSaved σ)))], [(q12, .inl (G.2.2.2, 4000, .inl (gMD_isTold σ)))], [(q13, .inl (G.2.1, 4000, .inl (gMD_savedNumber σ)))], [(q14, .inl (G.2.1, 1500, .inl (gMD_labels σ)))], [(q15, .inl (G.2.1, 120000, .inl (gMD_letters σ)))], [(q16, .inl (G.2.2.2, 26000, .inl (gMD_saving σ)))], [(q17, .inl (G.2.1, 4001, .inl (gMD_walk σ)))], [(q18, .inl (G.2.1, 4001, .inl (gMD_walkAt σ)))]].flatten, rfl, ⟨rfl, ⟨q1, q2, q3, q4, q5, q6, q7, q8, q9, q10, q11, q12, q13, q14, q15, q16, q17, q18, rfl⟩⟩, by rw [ht]; exact hB.1, hB.2⟩, hS.F ht⟩) hS.2.2 d_MD_mandatory_35
    · have hr0 := ai_neg c22 hr0
      refine lv_aload_n hx hb d_MD_mandatory_17 rfl (lv_at hl 0 rfl) ?_
      refine lv_iload_n hx hb d_MD_mandatory_18 rfl (lv_at hl 1 rfl) ?_
      have hpk23 : pMD G h0  σ ([[(h0, .inr (6, [.int (gMD_statements σ), .ref q1, .ref q2, .int (gMD_mandatoryCount σ), .int (gMD_rows σ), .ref q3, .ref q4, .ref q5, .ref q6, .ref q7, .int (gMD_fromCount σ), .ref q8, .int (gMD_piled σ), .int (gMD_puts σ), .int (gMD_steps σ), .ref q9, .ref q10, .ref q11, .ref q12, .ref q13, .int (gMD_savedCount σ), .ref q14, .int (gMD_labelCount σ), .ref q15, .int (gMD_letterCount σ), .ref q16, .ref q17, .ref q18]))], [(q1, .inl (G.2.1, 1500, .inl (gMD_takes σ)))], [(q2, .inl (G.2.1, 60, .inl (gMD_mandatories σ)))], [(q3, .inl (G.2.1, 4000, .inl (gMD_makers σ)))], [(q4, .inl (G.2.1, 4000, .inl (gMD_fromAt σ)))], [(q5, .inl (G.2.1, 4000, .inl (gMD_firstSame σ)))], [(q6, .inl (G.2.2.1, 4000, .inr (.inl (gMD_sizes σ))))], [(q7, .inl (G.2.1, 20100, .inl (gMD_froms σ)))], [(q8, .inl (G.2.1, 200, .inl (gMD_pile σ)))], [(q9, .inl (G.2.1, 26000, .inl (gMD_toldStep σ)))], [(q10, .inl (G.2.1, 26000, .inl (gMD_stepRow σ)))], [(q11, .inl (G.2.2.2, 4000, .inl (gMD_isSaved σ)))], [(q12, .inl (G.2.2.2, 4000, .inl (gMD_isTold σ)))], [(q13, .inl (G.2.1, 4000, .inl (gMD_savedNumber σ)))], [(q14, .inl (G.2.1, 1500, .inl (gMD_labels σ)))], [(q15, .inl (G.2.1, 120000, .inl (gMD_letters σ)))], [(q16, .inl (G.2.2.2, 26000, .inl (gMD_saving σ)))], [(q17, .inl (G.2.1, 4001, .inl (gMD_walk σ)))], [(q18, .inl (G.2.1, 4001, .inl (gMD_walkAt σ)))]].flatten) := ⟨q1, q2, q3, q4, q5, q6, q7, q8, q9, q10, q11, q12, q13, q14, q15, q16, q17, q18, rfl⟩
      obtain ⟨T24, hT25, hr0⟩ := ob_e hr0
      refine rdV (G := G) (As := [.int i]) (rest := []) (C := RMD) ⟨hx, hb, hml, hown, hts⟩ (c_MD_mandatoryOf l G h0 σ i _ _ hB.1 hpk23 T24 hT25) (cwV 1 hts (gd_V ml_MD_78 im_MD_mandatoryOf sl_MD_mandatoryOf ini_MD k_MD_mandatoryOf) rfl rmK_c rmK_s (by decide +kernel) ⟨Nat.le_of_ble_eq_true rfl, Nat.le_of_ble_eq_true rfl⟩) hK (pMD_recv hK hB.1 hpk23) hS ⟨Nat.le.intro hk, Nat.le.intro hk⟩ rfl hl.1 (Nat.le_of_ble_eq_true rfl) d_MD_mandatory_19 (fun locs hS => ?_)
      refine lv_if_ge (tgt := 34) hx hb d_MD_mandatory_22 (by decide) (fun c26 => ?_) (fun c26 => ?_)
      · have hr0 := ai_pos c26 hr0
        refine lv_iconst (v := (-1)) hx hb d_MD_mandatory_34 (by decide) ?_
        have hr0 := Option.some.inj hr0
        subst hr0
        refine W.widen (k := 0) (n := 0) (Nat.le_refl _) (Nat.le_refl _) ?_
        exact W.iret (v := (-1)) hx hb hr (fun t ht hW => ⟨⟨(-1), [[(h0, .inr (6, [.int (gMD_statements σ), .ref q1, .ref q2, .int (gMD_mandatoryCount σ), .int (gMD_rows σ), .ref q3, .ref q4, .ref q5, .ref q6, .ref q7, .int (gMD_fromCount σ), .ref q8, .int (gMD_piled σ), .int (gMD_puts σ), .int (gMD_steps σ), .ref q9, .ref q10, .ref q11, .ref q12, .ref q13, .int (gMD_savedCount σ), .ref q14, .int (gMD_labelCount σ), .ref q15, .int (gMD_letterCount σ), .ref q16, .ref q17, .ref q18]))], [(q1, .inl (G.2.1, 1500, .inl (gMD_takes σ)))], [(q2, .inl (G.2.1, 60, .inl (gMD_mandatories σ)))], [(q3, .inl (G.2.1, 4000, .inl (gMD_makers σ)))], [(q4, .inl (G.2.1, 4000, .inl (gMD_fromAt σ)))], [(q5, .inl (G.2.1, 4000, .inl (gMD_firstSame σ)))], [(q6, .inl (G.2.2.1, 4000, .inr (.inl (gMD_sizes σ))))], [(q7, .inl (G.2.1, 20100, .inl (gMD_froms σ)))], [(q8, .inl (G.2.1, 200, .inl (gMD_pile σ)))], [(q9, .inl (G.2.1, 26000, .inl (gMD_toldStep σ)))], [(q10, .inl (G.2.1, 26000, .inl (gMD_stepRow σ)))], [(q11, .inl (G.2.2.2, 4000, .inl (gMD_isSaved σ)))], [(q12, .inl (G.2.2.2, 4000, .inl (gMD_isTold σ)))], [(q13, .inl (G.2.1, 4000, .inl (gMD_savedNumber σ)))], [(q14, .inl (G.2.1, 1500, .inl (gMD_labels σ)))], [(q15, .inl (G.2.1, 120000, .inl (gMD_letters σ)))], [(q16, .inl (G.2.2.2, 26000, .inl (gMD_saving σ)))], [(q17, .inl (G.2.1, 4001, .inl (gMD_walk σ)))], [(q18, .inl (G.2.1, 4001, .inl (gMD_walkAt σ)))]].flatten, rfl, ⟨rfl, ⟨q1, q2, q3, q4, q5, q6, q7, q8, q9, q10, q11, q12, q13, q14, q15, q16, q17, q18, rfl⟩⟩, by rw [ht]; exact hB.1, hB.2⟩, hS.F ht⟩) hS.2.2 d_MD_mandatory_35
      · have hr0 := ai_neg c26 hr0
        refine lv_aload_n hx hb d_MD_mandatory_25 rfl (lv_at hl 0 rfl) ?_
        refine va_get (D := G.1) (ci := 6) (v := .int (gMD_mandatoryCount σ)) (C := RMD) (T := TMD) (N := 28) hx hb hts inMD hown hK hB.1 0 rfl rfl 3 (by decide) (hts _ fl_MD_71) (fun _ h9 => h9) rfl d_MD_mandatory_26 ?_
        refine lv_bipush (v := 60) hx hb d_MD_mandatory_29 (by decide) ?_
        refine lv_icmp_ne (tgt := 36) hx hb d_MD_mandatory_31 (by decide) (fun c27 => ?_) (fun c27 => ?_)
        · have hr0 := ai_neg c27 hr0
          refine lv_aload_n hx hb d_MD_mandatory_36 rfl (lv_at hl 0 rfl) ?_
          refine va_get (D := G.1) (ci := 6) (v := .ref q2) (C := RMD) (T := TMD) (N := 28) hx hb hts inMD hown hK hB.1 0 rfl rfl 2 (by decide) (hts _ fl_MD_13) (fun _ h9 => h9) rfl d_MD_mandatory_37 ?_
          refine lv_aload_n hx hb d_MD_mandatory_40 rfl (lv_at hl 0 rfl) ?_
          refine va_get (D := G.1) (ci := 6) (v := .int (gMD_mandatoryCount σ)) (C := RMD) (T := TMD) (N := 28) hx hb hts inMD hown hK hB.1 0 rfl rfl 3 (by decide) (hts _ fl_MD_71) (fun _ h9 => h9) rfl d_MD_mandatory_41 ?_
          refine lv_iload_n hx hb d_MD_mandatory_44 rfl (lv_at hl 1 rfl) ?_
          have c28 := og_n hr0
          have hr0 := og_e hr0
          refine va_iast hx hb hK hB.1 hB.2 hS 2 0 rfl rfl (c28) d_MD_mandatory_45 (fun H locs hP hD hS => ?_)
          have hB : bk G.1 vwCl A [[(h0, .inr (6, [.int (gMD_statements σ), .ref q1, .ref q2, .int (gMD_mandatoryCount σ), .int (gMD_rows σ), .ref q3, .ref q4, .ref q5, .ref q6, .ref q7, .int (gMD_fromCount σ), .ref q8, .int (gMD_piled σ), .int (gMD_puts σ), .int (gMD_steps σ), .ref q9, .ref q10, .ref q11, .ref q12, .ref q13, .int (gMD_savedCount σ), .ref q14, .int (gMD_labelCount σ), .ref q15, .int (gMD_letterCount σ), .ref q16, .ref q17, .ref q18]))], [(q1, .inl (G.2.1, 1500, .inl (gMD_takes σ)))], [(q2, .inl (G.2.1, 60, .inl (upd (gMD_mandatories σ) (gMD_mandatoryCount σ).toNatClampNeg i)))], [(q3, .inl (G.2.1, 4000, .inl (gMD_makers σ)))], [(q4, .inl (G.2.1, 4000, .inl (gMD_fromAt σ)))], [(q5, .inl (G.2.1, 4000, .inl (gMD_firstSame σ)))], [(q6, .inl (G.2.2.1, 4000, .inr (.inl (gMD_sizes σ))))], [(q7, .inl (G.2.1, 20100, .inl (gMD_froms σ)))], [(q8, .inl (G.2.1, 200, .inl (gMD_pile σ)))], [(q9, .inl (G.2.1, 26000, .inl (gMD_toldStep σ)))], [(q10, .inl (G.2.1, 26000, .inl (gMD_stepRow σ)))], [(q11, .inl (G.2.2.2, 4000, .inl (gMD_isSaved σ)))], [(q12, .inl (G.2.2.2, 4000, .inl (gMD_isTold σ)))], [(q13, .inl (G.2.1, 4000, .inl (gMD_savedNumber σ)))], [(q14, .inl (G.2.1, 1500, .inl (gMD_labels σ)))], [(q15, .inl (G.2.1, 120000, .inl (gMD_letters σ)))], [(q16, .inl (G.2.2.2, 26000, .inl (gMD_saving σ)))], [(q17, .inl (G.2.1, 4001, .inl (gMD_walk σ)))], [(q18, .inl (G.2.1, 4001, .inl (gMD_walkAt σ)))]] H := ⟨hP, hD⟩
          obtain ⟨T29, hT30⟩ : ∃ z, uMD_mandatories σ (upd (gMD_mandatories σ) (gMD_mandatoryCount σ).toNatClampNeg i) = z := ⟨_, rfl⟩
          have hr0 := bnd_e hT30 hr0
          have hB : bk G.1 vwCl A [[(h0, .inr (6, [.int (gMD_statements T29), .ref q1, .ref q2, .int (gMD_mandatoryCount T29), .int (gMD_rows T29), .ref q3, .ref q4, .ref q5, .ref q6, .ref q7, .int (gMD_fromCount T29), .ref q8, .int (gMD_piled T29), .int (gMD_puts T29), .int (gMD_steps T29), .ref q9, .ref q10, .ref q11, .ref q12, .ref q13, .int (gMD_savedCount T29), .ref q14, .int (gMD_labelCount T29), .ref q15, .int (gMD_letterCount T29), .ref q16, .ref q17, .ref q18]))], [(q1, .inl (G.2.1, 1500, .inl (gMD_takes T29)))], [(q2, .inl (G.2.1, 60, .inl (gMD_mandatories T29)))], [(q3, .inl (G.2.1, 4000, .inl (gMD_makers T29)))], [(q4, .inl (G.2.1, 4000, .inl (gMD_fromAt T29)))], [(q5, .inl (G.2.1, 4000, .inl (gMD_firstSame T29)))], [(q6, .inl (G.2.2.1, 4000, .inr (.inl (gMD_sizes T29))))], [(q7, .inl (G.2.1, 20100, .inl (gMD_froms T29)))], [(q8, .inl (G.2.1, 200, .inl (gMD_pile T29)))], [(q9, .inl (G.2.1, 26000, .inl (gMD_toldStep T29)))], [(q10, .inl (G.2.1, 26000, .inl (gMD_stepRow T29)))], [(q11, .inl (G.2.2.2, 4000, .inl (gMD_isSaved T29)))], [(q12, .inl (G.2.2.2, 4000, .inl (gMD_isTold T29)))], [(q13, .inl (G.2.1, 4000, .inl (gMD_savedNumber T29)))], [(q14, .inl (G.2.1, 1500, .inl (gMD_labels T29)))], [(q15, .inl (G.2.1, 120000, .inl (gMD_letters T29)))], [(q16, .inl (G.2.2.2, 26000, .inl (gMD_saving T29)))], [(q17, .inl (G.2.1, 4001, .inl (gMD_walk T29)))], [(q18, .inl (G.2.1, 4001, .inl (gMD_walkAt T29)))]] H := by subst hT30; exact hB
          refine lv_aload_n hx hb d_MD_mandatory_46 rfl (lv_at hl 0 rfl) ?_
          refine lv_dup hx hb d_MD_mandatory_47 rfl ?_
          refine va_get (D := G.1) (ci := 6) (v := .int (gMD_mandatoryCount T29)) (C := RMD) (T := TMD) (N := 28) hx hb hts inMD hown hK hB.1 0 rfl rfl 3 (by decide) (hts _ fl_MD_71) (fun _ h9 => h9) rfl d_MD_mandatory_48 ?_
          refine lv_iconst (v := 1) hx hb d_MD_mandatory_51 (by decide) ?_
          refine lv_iadd hx hb d_MD_mandatory_52 ?_
          refine va_put (D := G.1) (ci := 6) (v := .int ((gMD_mandatoryCount T29) + 1)) (ty := .int) (C := RMD) (T := TMD) (N := 28) hx hb hts inMD tyMD tokMD nmMD hown hK hB.1 hB.2 hS 0 rfl rfl 3 (by decide) (hts _ fl_MD_71) (fun _ h9 => h9) rfl (by decide +kernel) rfl rfl (Nat.le_of_ble_eq_true rfl) d_MD_mandatory_53 (fun H locs hP hD hS => ?_)
          have hB : bk G.1 vwCl A [[(h0, .inr (6, [.int (gMD_statements T29), .ref q1, .ref q2, .int ((gMD_mandatoryCount T29) + 1), .int (gMD_rows T29), .ref q3, .ref q4, .ref q5, .ref q6, .ref q7, .int (gMD_fromCount T29), .ref q8, .int (gMD_piled T29), .int (gMD_puts T29), .int (gMD_steps T29), .ref q9, .ref q10, .ref q11, .ref q12, .ref q13, .int (gMD_savedCount T29), .ref q14, .int (gMD_labelCount T29), .ref q15, .int (gMD_letterCount T29), .ref q16, .ref q17, .ref q18]))], [(q1, .inl (G.2.1, 1500, .inl (gMD_takes T29)))], [(q2, .inl (G.2.1, 60, .inl (gMD_mandatories T29)))], [(q3, .inl (G.2.1, 4000, .inl (gMD_makers T29)))], [(q4, .inl (G.2.1, 4000, .inl (gMD_fromAt T29)))], [(q5, .inl (G.2.1, 4000, .inl (gMD_firstSame T29)))], [(q6, .inl (G.2.2.1, 4000, .inr (.inl (gMD_sizes T29))))], [(q7, .inl (G.2.1, 20100, .inl (gMD_froms T29)))], [(q8, .inl (G.2.1, 200, .inl (gMD_pile T29)))], [(q9, .inl (G.2.1, 26000, .inl (gMD_toldStep T29)))], [(q10, .inl (G.2.1, 26000, .inl (gMD_stepRow T29)))], [(q11, .inl (G.2.2.2, 4000, .inl (gMD_isSaved T29)))], [(q12, .inl (G.2.2.2, 4000, .inl (gMD_isTold T29)))], [(q13, .inl (G.2.1, 4000, .inl (gMD_savedNumber T29)))], [(q14, .inl (G.2.1, 1500, .inl (gMD_labels T29)))], [(q15, .inl (G.2.1, 120000, .inl (gMD_letters T29)))], [(q16, .inl (G.2.2.2, 26000, .inl (gMD_saving T29)))], [(q17, .inl (G.2.1, 4001, .inl (gMD_walk T29)))], [(q18, .inl (G.2.1, 4001, .inl (gMD_walkAt T29)))]] H := ⟨hP, hD⟩
          obtain ⟨T31, hT32⟩ : ∃ z, uMD_mandatoryCount T29 ((gMD_mandatoryCount T29) + 1) = z := ⟨_, rfl⟩
          have hr0 := bnd_e hT32 hr0
          have hB : bk G.1 vwCl A [[(h0, .inr (6, [.int (gMD_statements T31), .ref q1, .ref q2, .int (gMD_mandatoryCount T31), .int (gMD_rows T31), .ref q3, .ref q4, .ref q5, .ref q6, .ref q7, .int (gMD_fromCount T31), .ref q8, .int (gMD_piled T31), .int (gMD_puts T31), .int (gMD_steps T31), .ref q9, .ref q10, .ref q11, .ref q12, .ref q13, .int (gMD_savedCount T31), .ref q14, .int (gMD_labelCount T31), .ref q15, .int (gMD_letterCount T31), .ref q16, .ref q17, .ref q18]))], [(q1, .inl (G.2.1, 1500, .inl (gMD_takes T31)))], [(q2, .inl (G.2.1, 60, .inl (gMD_mandatories T31)))], [(q3, .inl (G.2.1, 4000, .inl (gMD_makers T31)))], [(q4, .inl (G.2.1, 4000, .inl (gMD_fromAt T31)))], [(q5, .inl (G.2.1, 4000, .inl (gMD_firstSame T31)))], [(q6, .inl (G.2.2.1, 4000, .inr (.inl (gMD_sizes T31))))], [(q7, .inl (G.2.1, 20100, .inl (gMD_froms T31)))], [(q8, .inl (G.2.1, 200, .inl (gMD_pile T31)))], [(q9, .inl (G.2.1, 26000, .inl (gMD_toldStep T31)))], [(q10, .inl (G.2.1, 26000, .inl (gMD_stepRow T31)))], [(q11, .inl (G.2.2.2, 4000, .inl (gMD_isSaved T31)))], [(q12, .inl (G.2.2.2, 4000, .inl (gMD_isTold T31)))], [(q13, .inl (G.2.1, 4000, .inl (gMD_savedNumber T31)))], [(q14, .inl (G.2.1, 1500, .inl (gMD_labels T31)))], [(q15, .inl (G.2.1, 120000, .inl (gMD_letters T31)))], [(q16, .inl (G.2.2.2, 26000, .inl (gMD_saving T31)))], [(q17, .inl (G.2.1, 4001, .inl (gMD_walk T31)))], [(q18, .inl (G.2.1, 4001, .inl (gMD_walkAt T31)))]] H := by subst hT32; exact hB
          refine lv_aload_n hx hb d_MD_mandatory_56 rfl (lv_at hl 0 rfl) ?_
          refine va_get (D := G.1) (ci := 6) (v := .int (gMD_mandatoryCount T31)) (C := RMD) (T := TMD) (N := 28) hx hb hts inMD hown hK hB.1 0 rfl rfl 3 (by decide) (hts _ fl_MD_71) (fun _ h9 => h9) rfl d_MD_mandatory_57 ?_
          have hr0 := Option.some.inj hr0
          subst hr0
          refine W.widen (k := 0) (n := 0) (Nat.le_refl _) (Nat.le_refl _) ?_
          exact W.iret (v := (gMD_mandatoryCount T31)) hx hb hr (fun t ht hW => ⟨⟨(gMD_mandatoryCount T31), [[(h0, .inr (6, [.int (gMD_statements T31), .ref q1, .ref q2, .int (gMD_mandatoryCount T31), .int (gMD_rows T31), .ref q3, .ref q4, .ref q5, .ref q6, .ref q7, .int (gMD_fromCount T31), .ref q8, .int (gMD_piled T31), .int (gMD_puts T31), .int (gMD_steps T31), .ref q9, .ref q10, .ref q11, .ref q12, .ref q13, .int (gMD_savedCount T31), .ref q14, .int (gMD_labelCount T31), .ref q15, .int (gMD_letterCount T31), .ref q16, .ref q17, .ref q18]))], [(q1, .inl (G.2.1, 1500, .inl (gMD_takes T31)))], [(q2, .inl (G.2.1, 60, .inl (gMD_mandatories T31)))], [(q3, .inl (G.2.1, 4000, .inl (gMD_makers T31)))], [(q4, .inl (G.2.1, 4000, .inl (gMD_fromAt T31)))], [(q5, .inl (G.2.1, 4000, .inl (gMD_firstSame T31)))], [(q6, .inl (G.2.2.1, 4000, .inr (.inl (gMD_sizes T31))))], [(q7, .inl (G.2.1, 20100, .inl (gMD_froms T31)))], [(q8, .inl (G.2.1, 200, .inl (gMD_pile T31)))], [(q9, .inl (G.2.1, 26000, .inl (gMD_toldStep T31)))], [(q10, .inl (G.2.1, 26000, .inl (gMD_stepRow T31)))], [(q11, .inl (G.2.2.2, 4000, .inl (gMD_isSaved T31)))], [(q12, .inl (G.2.2.2, 4000, .inl (gMD_isTold T31)))], [(q13, .inl (G.2.1, 4000, .inl (gMD_savedNumber T31)))], [(q14, .inl (G.2.1, 1500, .inl (gMD_labels T31)))], [(q15, .inl (G.2.1, 120000, .inl (gMD_letters T31)))], [(q16, .inl (G.2.2.2, 26000, .inl (gMD_saving T31)))], [(q17, .inl (G.2.1, 4001, .inl (gMD_walk T31)))], [(q18, .inl (G.2.1, 4001, .inl (gMD_walkAt T31)))]].flatten, rfl, ⟨rfl, ⟨q1, q2, q3, q4, q5, q6, q7, q8, q9, q10, q11, q12, q13, q14, q15, q16, q17, q18, rfl⟩⟩, by rw [ht]; exact hB.1, hB.2⟩, hS.F ht⟩) hS.2.2 d_MD_mandatory_60
        · have hr0 := ai_pos c27 hr0
          refine lv_iconst (v := (-1)) hx hb d_MD_mandatory_34 (by decide) ?_
          have hr0 := Option.some.inj hr0
          subst hr0
          refine W.widen (k := 0) (n := 0) (Nat.le_refl _) (Nat.le_refl _) ?_
          exact W.iret (v := (-1)) hx hb hr (fun t ht hW => ⟨⟨(-1), [[(h0, .inr (6, [.int (gMD_statements σ), .ref q1, .ref q2, .int (gMD_mandatoryCount σ), .int (gMD_rows σ), .ref q3, .ref q4, .ref q5, .ref q6, .ref q7, .int (gMD_fromCount σ), .ref q8, .int (gMD_piled σ), .int (gMD_puts σ), .int (gMD_steps σ), .ref q9, .ref q10, .ref q11, .ref q12, .ref q13, .int (gMD_savedCount σ), .ref q14, .int (gMD_labelCount σ), .ref q15, .int (gMD_letterCount σ), .ref q16, .ref q17, .ref q18]))], [(q1, .inl (G.2.1, 1500, .inl (gMD_takes σ)))], [(q2, .inl (G.2.1, 60, .inl (gMD_mandatories σ)))], [(q3, .inl (G.2.1, 4000, .inl (gMD_makers σ)))], [(q4, .inl (G.2.1, 4000, .inl (gMD_fromAt σ)))], [(q5, .inl (G.2.1, 4000, .inl (gMD_firstSame σ)))], [(q6, .inl (G.2.2.1, 4000, .inr (.inl (gMD_sizes σ))))], [(q7, .inl (G.2.1, 20100, .inl (gMD_froms σ)))], [(q8, .inl (G.2.1, 200, .inl (gMD_pile σ)))], [(q9, .inl (G.2.1, 26000, .inl (gMD_toldStep σ)))], [(q10, .inl (G.2.1, 26000, .inl (gMD_stepRow σ)))], [(q11, .inl (G.2.2.2, 4000, .inl (gMD_isSaved σ)))], [(q12, .inl (G.2.2.2, 4000, .inl (gMD_isTold σ)))], [(q13, .inl (G.2.1, 4000, .inl (gMD_savedNumber σ)))], [(q14, .inl (G.2.1, 1500, .inl (gMD_labels σ)))], [(q15, .inl (G.2.1, 120000, .inl (gMD_letters σ)))], [(q16, .inl (G.2.2.2, 26000, .inl (gMD_saving σ)))], [(q17, .inl (G.2.1, 4001, .inl (gMD_walk σ)))], [(q18, .inl (G.2.1, 4001, .inl (gMD_walkAt σ)))]].flatten, rfl, ⟨rfl, ⟨q1, q2, q3, q4, q5, q6, q7, q8, q9, q10, q11, q12, q13, q14, q15, q16, q17, q18, rfl⟩⟩, by rw [ht]; exact hB.1, hB.2⟩, hS.F ht⟩) hS.2.2 d_MD_mandatory_35

def A_MD_row (σ : tMD) (r : Int32) : Option (Int32) := if (A_MD_isRow σ r) = 0 then (some (-1)) else (if r < 0 ∨ 4000 ≤ r.toNatClampNeg then none else (some ((gMD_makers σ) r.toNatClampNeg)))
set_option maxHeartbeats 4000000 in
set_option maxRecDepth 100000 in
theorem c_MD_row (l : Launch) (G : pG) (h0 : Nat) (σ : tMD) (r : Int32) (H : Heap) (w : va_W) (hP0 : va_P G.1 vwCl w H) (hσ : pMD G h0 σ w) (res : Int32) (hr0 : A_MD_row σ r = some res) : MRi l y_MD_row w_MD_row 1 21 G [.ref h0, .int r] H res := by
  refine Met.ofW (cc := b_MD_row) (maxL := 2) (ret := (some .int)) (by decide) rfl ?_
  intro p e s m args below meth c s₁ B hml hv
  obtain ⟨rfl, rfl, hK⟩ := hv
  have hx := B.exec
  have hb := B.bytes
  have hr := B.returns
  have hts0 := atoms_spec (ws := w_MD_row) B.pre
  have hts := fun w (h : w ∈ lw_g) => hts0 w (List.mem_cons_of_mem _ h)
  have hown : s.vm.findClass RMD = some m.cls := findClass_of_methodNamed B.named
  have hlocks := B.notSynchronized
  have hσ0 := hσ
  obtain ⟨q1, q2, q3, q4, q5, q6, q7, q8, q9, q10, q11, q12, q13, q14, q15, q16, q17, q18, rfl⟩ := hσ
  have hP := hP0
  obtain ⟨A, hAe⟩ : ∃ A : Nat → Prop, A = fun _ => False := ⟨_, rfl⟩
  rw [← hAe]
  have hS : va_S A s.heap s.heap [] := va_S.rf
  have hl := lv_entry ([.ref h0, .int r]) (n := 2) (Nat.le_of_ble_eq_true rfl)
  rw [lg_entry_eq]
  generalize (lg_sl ([.ref h0, .int r]) ++ List.replicate (2 - (lg_sl ([.ref h0, .int r])).length) Slot.unset).toArray = ls at hl ⊢
  have hl : lv_has ls 2 [(0, .ref h0), (1, .int r)] := hl
  unfold A_MD_row at hr0
  refine lv_aload_n hx hb d_MD_row_0 rfl (lv_at hl 0 rfl) ?_
  refine lv_iload_n hx hb d_MD_row_1 rfl (lv_at hl 1 rfl) ?_
  refine rdV (G := G) (As := [.int r]) (rest := []) (C := RMD) ⟨hx, hb, hml, hown, hts⟩ (c_MD_isRow l G h0 σ r _ _ hP0 hσ0 _ rfl) (cwV 1 hts (gd_V ml_MD_109 im_MD_isRow sl_MD_isRow ini_MD k_MD_isRow) rfl rmK_c rmK_s (by decide +kernel) ⟨Nat.le_of_ble_eq_true rfl, Nat.le_of_ble_eq_true rfl⟩) hK (pMD_recv hK hP0 hσ0) hS ⟨Nat.le_refl _, Nat.le_refl _⟩ rfl hl.1 (Nat.le_of_ble_eq_true rfl) d_MD_row_2 (fun locs hS => ?_)
  refine lv_if_eq (tgt := 17) hx hb d_MD_row_5 (by decide) (fun c19 => ?_) (fun c19 => ?_)
  · have hr0 := ai_pos c19 hr0
    refine lv_iconst (v := (-1)) hx hb d_MD_row_17 (by decide) ?_
    have hr0 := Option.some.inj hr0
    exact W.iret (v := (-1)) hx hb hr (fun t ht hW => ⟨⟨(-1), (), rfl, hr0, ht⟩, hS.F ht⟩) hS.2.2 d_MD_row_18
  · have hr0 := ai_neg c19 hr0
    refine lv_aload_n hx hb d_MD_row_8 rfl (lv_at hl 0 rfl) ?_
    refine va_get (D := G.1) (ci := 6) (v := .ref q3) (C := RMD) (T := TMD) (N := 28) hx hb hts inMD hown hK hP 0 rfl rfl 5 (by decide) (hts _ fl_MD_16) (fun _ h9 => h9) rfl d_MD_row_9 ?_
    refine lv_iload_n hx hb d_MD_row_12 rfl (lv_at hl 1 rfl) ?_
    have c20 := og_n hr0
    have hr0 := og_e hr0
    refine va_iald hx hb hK hP 3 0 rfl rfl (c20) d_MD_row_13 ?_
    refine lv_goto (tgt := 18) hx hb d_MD_row_14 (by decide) ?_
    have hr0 := Option.some.inj hr0
    exact W.iret (v := ((gMD_makers σ) r.toNatClampNeg)) hx hb hr (fun t ht hW => ⟨⟨((gMD_makers σ) r.toNatClampNeg), (), rfl, hr0, ht⟩, hS.F ht⟩) hS.2.2 d_MD_row_18

def A_MD_frm (σ : tMD) (r : Int32) (k : Int32) : Option (Int32) := if (A_MD_isRow σ r) = 0 then (some (-1)) else (if k < 0 then (some (-1)) else (if r < 0 ∨ 4000 ≤ r.toNatClampNeg then none else (if ((gMD_makers σ) r.toNatClampNeg) < 0 ∨ 1500 ≤ ((gMD_makers σ) r.toNatClampNeg).toNatClampNeg then none else (if ((gMD_takes σ) ((gMD_makers σ) r.toNatClampNeg).toNatClampNeg) ≤ k then (some (-1)) else (if r < 0 ∨ 4000 ≤ r.toNatClampNeg then none else (if (((gMD_fromAt σ) r.toNatClampNeg) + k) < 0 ∨ 20100 ≤ (((gMD_fromAt σ) r.toNatClampNeg) + k).toNatClampNeg then none else (some ((gMD_froms σ) (((gMD_fromAt σ) r.toNatClampNeg) + k).toNatClampNeg))))))))
set_option maxHeartbeats 4000000 in
set_option maxRecDepth 100000 in
theorem c_MD_frm (l : Launch) (G : pG) (h0 : Nat) (σ : tMD) (r : Int32) (k : Int32) (H : Heap) (w : va_W) (hP0 : va_P G.1 vwCl w H) (hσ : pMD G h0 σ w) (res : Int32) (hr0 : A_MD_frm σ r k = some res) : MRi l y_MD_frm w_MD_frm 1 21 G [.ref h0, .int r, .int k] H res := by
  refine Met.ofW (cc := b_MD_frm) (maxL := 3) (ret := (some .int)) (by decide) rfl ?_
  intro p e s m args below meth c s₁ B hml hv
  obtain ⟨rfl, rfl, hK⟩ := hv
  have hx := B.exec
  have hb := B.bytes
  have hr := B.returns
  have hts0 := atoms_spec (ws := w_MD_frm) B.pre
  have hts := fun w (h : w ∈ lw_g) => hts0 w (List.mem_cons_of_mem _ h)
  have hown : s.vm.findClass RMD = some m.cls := findClass_of_methodNamed B.named
  have hlocks := B.notSynchronized
  have hσ0 := hσ
  obtain ⟨q1, q2, q3, q4, q5, q6, q7, q8, q9, q10, q11, q12, q13, q14, q15, q16, q17, q18, rfl⟩ := hσ
  have hP := hP0
  obtain ⟨A, hAe⟩ : ∃ A : Nat → Prop, A = fun _ => False := ⟨_, rfl⟩
  rw [← hAe]
  have hS : va_S A s.heap s.heap [] := va_S.rf
  have hl := lv_entry ([.ref h0, .int r, .int k]) (n := 3) (Nat.le_of_ble_eq_true rfl)
  rw [lg_entry_eq]
  generalize (lg_sl ([.ref h0, .int r, .int k]) ++ List.replicate (3 - (lg_sl ([.ref h0, .int r, .int k])).length) Slot.unset).toArray = ls at hl ⊢
  have hl : lv_has ls 3 [(0, .ref h0), (1, .int r), (2, .int k)] := hl
  unfold A_MD_frm at hr0
  refine lv_aload_n hx hb d_MD_frm_0 rfl (lv_at hl 0 rfl) ?_
  refine lv_iload_n hx hb d_MD_frm_1 rfl (lv_at hl 1 rfl) ?_
  refine rdV (G := G) (As := [.int r]) (rest := []) (C := RMD) ⟨hx, hb, hml, hown, hts⟩ (c_MD_isRow l G h0 σ r _ _ hP0 hσ0 _ rfl) (cwV 1 hts (gd_V ml_MD_109 im_MD_isRow sl_MD_isRow ini_MD k_MD_isRow) rfl rmK_c rmK_s (by decide +kernel) ⟨Nat.le_of_ble_eq_true rfl, Nat.le_of_ble_eq_true rfl⟩) hK (pMD_recv hK hP0 hσ0) hS ⟨Nat.le_refl _, Nat.le_refl _⟩ rfl hl.1 (Nat.le_of_ble_eq_true rfl) d_MD_frm_2 (fun locs hS => ?_)
  refine lv_if_eq (tgt := 43) hx hb d_MD_frm_5 (by decide) (fun c19 => ?_) (fun c19 => ?_)
  · have hr0 := ai_pos c19 hr0
    refine lv_iconst (v := (-1)) hx hb d_MD_frm_43 (by decide) ?_
    have hr0 := Option.some.inj hr0
    exact W.iret (v := (-1)) hx hb hr (fun t ht hW => ⟨⟨(-1), (), rfl, hr0, ht⟩, hS.F ht⟩) hS.2.2 d_MD_frm_44
  · have hr0 := ai_neg c19 hr0
    refine lv_iload_n hx hb d_MD_frm_8 rfl (lv_at hl 2 rfl) ?_
    refine lv_if_lt (tgt := 43) hx hb d_MD_frm_9 (by decide) (fun c20 => ?_) (fun c20 => ?_)
    · have hr0 := ai_pos c20 hr0
      refine lv_iconst (v := (-1)) hx hb d_MD_frm_43 (by decide) ?_
      have hr0 := Option.some.inj hr0
      exact W.iret (v := (-1)) hx hb hr (fun t ht hW => ⟨⟨(-1), (), rfl, hr0, ht⟩, hS.F ht⟩) hS.2.2 d_MD_frm_44
    · have hr0 := ai_neg c20 hr0
      refine lv_iload_n hx hb d_MD_frm_12 rfl (lv_at hl 2 rfl) ?_
      refine lv_aload_n hx hb d_MD_frm_13 rfl (lv_at hl 0 rfl) ?_
      refine va_get (D := G.1) (ci := 6) (v := .ref q1) (C := RMD) (T := TMD) (N := 28) hx hb hts inMD hown hK hP 0 rfl rfl 1 (by decide) (hts _ fl_MD_7) (fun _ h9 => h9) rfl d_MD_frm_14 ?_
      refine lv_aload_n hx hb d_MD_frm_17 rfl (lv_at hl 0 rfl) ?_
      refine va_get (D := G.1) (ci := 6) (v := .ref q3) (C := RMD) (T := TMD) (N := 28) hx hb hts inMD hown hK hP 0 rfl rfl 5 (by decide) (hts _ fl_MD_16) (fun _ h9 => h9) rfl d_MD_frm_18 ?_
      refine lv_iload_n hx hb d_MD_frm_21 rfl (lv_at hl 1 rfl) ?_
      have c21 := og_n hr0
      have hr0 := og_e hr0
      refine va_iald hx hb hK hP 3 0 rfl rfl (c21) d_MD_frm_22 ?_
      have c22 := og_n hr0
      have hr0 := og_e hr0
      refine va_iald hx hb hK hP 1 0 rfl rfl (c22) d_MD_frm_23 ?_
      refine lv_icmp_ge (tgt := 43) hx hb d_MD_frm_24 (by decide) (fun c23 => ?_) (fun c23 => ?_)
      · have hr0 := ai_pos c23 hr0
        refine lv_iconst (v := (-1)) hx hb d_MD_frm_43 (by decide) ?_
        have hr0 := Option.some.inj hr0
        exact W.iret (v := (-1)) hx hb hr (fun t ht hW => ⟨⟨(-1), (), rfl, hr0, ht⟩, hS.F ht⟩) hS.2.2 d_MD_frm_44
      · have hr0 := ai_neg c23 hr0
        refine lv_aload_n hx hb d_MD_frm_27 rfl (lv_at hl 0 rfl) ?_
        refine va_get (D := G.1) (ci := 6) (v := .ref q7) (C := RMD) (T := TMD) (N := 28) hx hb hts inMD hown hK hP 0 rfl rfl 9 (by decide) (hts _ fl_MD_29) (fun _ h9 => h9) rfl d_MD_frm_28 ?_
        refine lv_aload_n hx hb d_MD_frm_31 rfl (lv_at hl 0 rfl) ?_
        refine va_get (D := G.1) (ci := 6) (v := .ref q4) (C := RMD) (T := TMD) (N := 28) hx hb hts inMD hown hK hP 0 rfl rfl 6 (by decide) (hts _ fl_MD_19) (fun _ h9 => h9) rfl d_MD_frm_32 ?_
        refine lv_iload_n hx hb d_MD_frm_35 rfl (lv_at hl 1 rfl) ?_
        have c24 := og_n hr0
        have hr0 := og_e hr0
        refine va_iald hx hb hK hP 4 0 rfl rfl (c24) d_MD_frm_36 ?_
        refine lv_iload_n hx hb d_MD_frm_37 rfl (lv_at hl 2 rfl) ?_
        refine lv_iadd hx hb d_MD_frm_38 ?_
        have c25 := og_n hr0
        have hr0 := og_e hr0
        refine va_iald hx hb hK hP 7 0 rfl rfl (c25) d_MD_frm_39 ?_
        refine lv_goto (tgt := 44) hx hb d_MD_frm_40 (by decide) ?_
        have hr0 := Option.some.inj hr0
        exact W.iret (v := ((gMD_froms σ) (((gMD_fromAt σ) r.toNatClampNeg) + k).toNatClampNeg)) hx hb hr (fun t ht hW => ⟨⟨((gMD_froms σ) (((gMD_fromAt σ) r.toNatClampNeg) + k).toNatClampNeg), (), rfl, hr0, ht⟩, hS.F ht⟩) hS.2.2 d_MD_frm_44

def A_MD_same (σ : tMD) (r : Int32) (s2 : Int32) : Option (Int32) := if (A_MD_isRow σ r) = 0 then (some (-1)) else (if (A_MD_isRow σ s2) = 0 then (some (-1)) else (if r < 0 ∨ 4000 ≤ r.toNatClampNeg then none else (if s2 < 0 ∨ 4000 ≤ s2.toNatClampNeg then none else (if ((gMD_firstSame σ) r.toNatClampNeg) = ((gMD_firstSame σ) s2.toNatClampNeg) then (some 1) else (some 0)))))
set_option maxHeartbeats 4000000 in
set_option maxRecDepth 100000 in
theorem c_MD_same (l : Launch) (G : pG) (h0 : Nat) (σ : tMD) (r : Int32) (s2 : Int32) (H : Heap) (w : va_W) (hP0 : va_P G.1 vwCl w H) (hσ : pMD G h0 σ w) (res : Int32) (hr0 : A_MD_same σ r s2 = some res) : MRi l y_MD_same w_MD_same 1 21 G [.ref h0, .int r, .int s2] H res := by
  refine Met.ofW (cc := b_MD_same) (maxL := 3) (ret := (some .int)) (by decide) rfl ?_
  intro p e s m args below meth c s₁ B hml hv
  obtain ⟨rfl, rfl, hK⟩ := hv
  have hx := B.exec
  have hb := B.bytes
  have hr := B.returns
  have hts0 := atoms_spec (ws := w_MD_same) B.pre
  have hts := fun w (h : w ∈ lw_g) => hts0 w (List.mem_cons_of_mem _ h)
  have hown : s.vm.findClass RMD = some m.cls := findClass_of_methodNamed B.named
  have hlocks := B.notSynchronized
  have hσ0 := hσ
  obtain ⟨q1, q2, q3, q4, q5, q6, q7, q8, q9, q10, q11, q12, q13, q14, q15, q16, q17, q18, rfl⟩ := hσ
  have hP := hP0
  obtain ⟨A, hAe⟩ : ∃ A : Nat → Prop, A = fun _ => False := ⟨_, rfl⟩
  rw [← hAe]
  have hS : va_S A s.heap s.heap [] := va_S.rf
  have hl := lv_entry ([.ref h0, .int r, .int s2]) (n := 3) (Nat.le_of_ble_eq_true rfl)
  rw [lg_entry_eq]
  generalize (lg_sl ([.ref h0, .int r, .int s2]) ++ List.replicate (3 - (lg_sl ([.ref h0, .int r, .int s2])).length) Slot.unset).toArray = ls at hl ⊢
  have hl : lv_has ls 3 [(0, .ref h0), (1, .int r), (2, .int s2)] := hl
  unfold A_MD_same at hr0
  refine lv_aload_n hx hb d_MD_same_0 rfl (lv_at hl 0 rfl) ?_
  refine lv_iload_n hx hb d_MD_same_1 rfl (lv_at hl 1 rfl) ?_
  refine rdV (G := G) (As := [.int r]) (rest := []) (C := RMD) ⟨hx, hb, hml, hown, hts⟩ (c_MD_isRow l G h0 σ r _ _ hP0 hσ0 _ rfl) (cwV 1 hts (gd_V ml_MD_109 im_MD_isRow sl_MD_isRow ini_MD k_MD_isRow) rfl rmK_c rmK_s (by decide +kernel) ⟨Nat.le_of_ble_eq_true rfl, Nat.le_of_ble_eq_true rfl⟩) hK (pMD_recv hK hP0 hσ0) hS ⟨Nat.le_refl _, Nat.le_refl _⟩ rfl hl.1 (Nat.le_of_ble_eq_true rfl) d_MD_same_2 (fun locs hS => ?_)
  refine lv_if_eq (tgt := 16) hx hb d_MD_same_5 (by decide) (fun c19 => ?_) (fun c19 => ?_)
  · have hr0 := ai_pos c19 hr0
    refine lv_iconst (v := (-1)) hx hb d_MD_same_16 (by decide) ?_
    refine lv_goto (tgt := 40) hx hb d_MD_same_17 (by decide) ?_
    have hr0 := Option.some.inj hr0
    exact W.iret (v := (-1)) hx hb hr (fun t ht hW => ⟨⟨(-1), (), rfl, hr0, ht⟩, hS.F ht⟩) hS.2.2 d_MD_same_40
  · have hr0 := ai_neg c19 hr0
    refine lv_aload_n hx hb d_MD_same_8 rfl (lv_at hl 0 rfl) ?_
    refine lv_iload_n hx hb d_MD_same_9 rfl (lv_at hl 2 rfl) ?_
    refine rdV (G := G) (As := [.int s2]) (rest := []) (C := RMD) ⟨hx, hb, hml, hown, hts⟩ (c_MD_isRow l G h0 σ s2 _ _ hP0 hσ0 _ rfl) (cwV 1 hts (gd_V ml_MD_109 im_MD_isRow sl_MD_isRow ini_MD k_MD_isRow) rfl rmK_c rmK_s (by decide +kernel) ⟨Nat.le_of_ble_eq_true rfl, Nat.le_of_ble_eq_true rfl⟩) hK (pMD_recv hK hP0 hσ0) hS ⟨Nat.le_refl _, Nat.le_refl _⟩ rfl hl.1 (Nat.le_of_ble_eq_true rfl) d_MD_same_10 (fun locs hS => ?_)
    refine lv_if_ne (tgt := 20) hx hb d_MD_same_13 (by decide) (fun c20 => ?_) (fun c20 => ?_)
    · have hr0 := ai_neg c20 hr0
      refine lv_aload_n hx hb d_MD_same_20 rfl (lv_at hl 0 rfl) ?_
      refine va_get (D := G.1) (ci := 6) (v := .ref q5) (C := RMD) (T := TMD) (N := 28) hx hb hts inMD hown hK hP 0 rfl rfl 7 (by decide) (hts _ fl_MD_22) (fun _ h9 => h9) rfl d_MD_same_21 ?_
      refine lv_iload_n hx hb d_MD_same_24 rfl (lv_at hl 1 rfl) ?_
      have c21 := og_n hr0
      have hr0 := og_e hr0
      refine va_iald hx hb hK hP 5 0 rfl rfl (c21) d_MD_same_25 ?_
      refine lv_aload_n hx hb d_MD_same_26 rfl (lv_at hl 0 rfl) ?_
      refine va_get (D := G.1) (ci := 6) (v := .ref q5) (C := RMD) (T := TMD) (N := 28) hx hb hts inMD hown hK hP 0 rfl rfl 7 (by decide) (hts _ fl_MD_22) (fun _ h9 => h9) rfl d_MD_same_27 ?_
      refine lv_iload_n hx hb d_MD_same_30 rfl (lv_at hl 2 rfl) ?_
      have c22 := og_n hr0
      have hr0 := og_e hr0
      refine va_iald hx hb hK hP 5 0 rfl rfl (c22) d_MD_same_31 ?_
      refine lv_icmp_ne (tgt := 39) hx hb d_MD_same_32 (by decide) (fun c23 => ?_) (fun c23 => ?_)
      · have hr0 := ai_neg c23 hr0
        refine lv_iconst (v := 0) hx hb d_MD_same_39 (by decide) ?_
        have hr0 := Option.some.inj hr0
        exact W.iret (v := 0) hx hb hr (fun t ht hW => ⟨⟨0, (), rfl, hr0, ht⟩, hS.F ht⟩) hS.2.2 d_MD_same_40
      · have hr0 := ai_pos c23 hr0
        refine lv_iconst (v := 1) hx hb d_MD_same_35 (by decide) ?_
        refine lv_goto (tgt := 40) hx hb d_MD_same_36 (by decide) ?_
        have hr0 := Option.some.inj hr0
        exact W.iret (v := 1) hx hb hr (fun t ht hW => ⟨⟨1, (), rfl, hr0, ht⟩, hS.F ht⟩) hS.2.2 d_MD_same_40
    · have hr0 := ai_pos c20 hr0
      refine lv_iconst (v := (-1)) hx hb d_MD_same_16 (by decide) ?_
      refine lv_goto (tgt := 40) hx hb d_MD_same_17 (by decide) ?_
      have hr0 := Option.some.inj hr0
      exact W.iret (v := (-1)) hx hb hr (fun t ht hW => ⟨⟨(-1), (), rfl, hr0, ht⟩, hS.F ht⟩) hS.2.2 d_MD_same_40

def A_MD_step (σ : tMD) (k : Int32) : Option (Int32) := if k < 0 then (some (-1)) else (if (gMD_steps σ) ≤ k then (some (-1)) else (if k < 0 ∨ 26000 ≤ k.toNatClampNeg then none else (some ((gMD_toldStep σ) k.toNatClampNeg))))
set_option maxHeartbeats 4000000 in
set_option maxRecDepth 100000 in
theorem c_MD_step (l : Launch) (G : pG) (h0 : Nat) (σ : tMD) (k : Int32) (H : Heap) (w : va_W) (hP0 : va_P G.1 vwCl w H) (hσ : pMD G h0 σ w) (res : Int32) (hr0 : A_MD_step σ k = some res) : MRi l y_MD_step w_MD_step 0 0 G [.ref h0, .int k] H res := by
  refine Met.ofW (cc := b_MD_step) (maxL := 2) (ret := (some .int)) (by decide) rfl ?_
  intro p e s m args below meth c s₁ B hml hv
  obtain ⟨rfl, rfl, hK⟩ := hv
  have hx := B.exec
  have hb := B.bytes
  have hr := B.returns
  have hts0 := atoms_spec (ws := w_MD_step) B.pre
  have hts := fun w (h : w ∈ lw_g) => hts0 w (List.mem_cons_of_mem _ h)
  have hown : s.vm.findClass RMD = some m.cls := findClass_of_methodNamed B.named
  have hlocks := B.notSynchronized
  have hσ0 := hσ
  obtain ⟨q1, q2, q3, q4, q5, q6, q7, q8, q9, q10, q11, q12, q13, q14, q15, q16, q17, q18, rfl⟩ := hσ
  have hP := hP0
  obtain ⟨A, hAe⟩ : ∃ A : Nat → Prop, A = fun _ => False := ⟨_, rfl⟩
  rw [← hAe]
  have hS : va_S A s.heap s.heap [] := va_S.rf
  have hl := lv_entry ([.ref h0, .int k]) (n := 2) (Nat.le_of_ble_eq_true rfl)
  rw [lg_entry_eq]
  generalize (lg_sl ([.ref h0, .int k]) ++ List.replicate (2 - (lg_sl ([.ref h0, .int k])).length) Slot.unset).toArray = ls at hl ⊢
  have hl : lv_has ls 2 [(0, .ref h0), (1, .int k)] := hl
  unfold A_MD_step at hr0
  refine lv_iload_n hx hb d_MD_step_0 rfl (lv_at hl 1 rfl) ?_
  refine lv_if_lt (tgt := 21) hx hb d_MD_step_1 (by decide) (fun c19 => ?_) (fun c19 => ?_)
  · have hr0 := ai_pos c19 hr0
    refine lv_iconst (v := (-1)) hx hb d_MD_step_21 (by decide) ?_
    have hr0 := Option.some.inj hr0
    exact W.iret (v := (-1)) hx hb hr (fun t ht hW => ⟨⟨(-1), (), rfl, hr0, ht⟩, hS.F ht⟩) hS.2.2 d_MD_step_22
  · have hr0 := ai_neg c19 hr0
    refine lv_iload_n hx hb d_MD_step_4 rfl (lv_at hl 1 rfl) ?_
    refine lv_aload_n hx hb d_MD_step_5 rfl (lv_at hl 0 rfl) ?_
    refine va_get (D := G.1) (ci := 6) (v := .int (gMD_steps σ)) (C := RMD) (T := TMD) (N := 28) hx hb hts inMD hown hK hP 0 rfl rfl 14 (by decide) (hts _ fl_MD_112) (fun _ h9 => h9) rfl d_MD_step_6 ?_
    refine lv_icmp_ge (tgt := 21) hx hb d_MD_step_9 (by decide) (fun c20 => ?_) (fun c20 => ?_)
    · have hr0 := ai_pos c20 hr0
      refine lv_iconst (v := (-1)) hx hb d_MD_step_21 (by decide) ?_
      have hr0 := Option.some.inj hr0
      exact W.iret (v := (-1)) hx hb hr (fun t ht hW => ⟨⟨(-1), (), rfl, hr0, ht⟩, hS.F ht⟩) hS.2.2 d_MD_step_22
    · have hr0 := ai_neg c20 hr0
      refine lv_aload_n hx hb d_MD_step_12 rfl (lv_at hl 0 rfl) ?_
      refine va_get (D := G.1) (ci := 6) (v := .ref q9) (C := RMD) (T := TMD) (N := 28) hx hb hts inMD hown hK hP 0 rfl rfl 15 (by decide) (hts _ fl_MD_35) (fun _ h9 => h9) rfl d_MD_step_13 ?_
      refine lv_iload_n hx hb d_MD_step_16 rfl (lv_at hl 1 rfl) ?_
      have c21 := og_n hr0
      have hr0 := og_e hr0
      refine va_iald hx hb hK hP 9 0 rfl rfl (c21) d_MD_step_17 ?_
      refine lv_goto (tgt := 22) hx hb d_MD_step_18 (by decide) ?_
      have hr0 := Option.some.inj hr0
      exact W.iret (v := ((gMD_toldStep σ) k.toNatClampNeg)) hx hb hr (fun t ht hW => ⟨⟨((gMD_toldStep σ) k.toNatClampNeg), (), rfl, hr0, ht⟩, hS.F ht⟩) hS.2.2 d_MD_step_22

def A_MD_saves (σ : tMD) (k : Int32) : Option (Int32) := if k < 0 then (some (-1)) else (if k < (gMD_steps σ) then (if k < 0 ∨ 26000 ≤ k.toNatClampNeg then none else (if ((gMD_saving σ) k.toNatClampNeg) = 0 then (some 0) else (some 1))) else (some (-1)))
set_option maxHeartbeats 4000000 in
set_option maxRecDepth 100000 in
theorem c_MD_saves (l : Launch) (G : pG) (h0 : Nat) (σ : tMD) (k : Int32) (H : Heap) (w : va_W) (hP0 : va_P G.1 vwCl w H) (hσ : pMD G h0 σ w) (res : Int32) (hr0 : A_MD_saves σ k = some res) : MRi l y_MD_saves w_MD_saves 0 0 G [.ref h0, .int k] H res := by
  refine Met.ofW (cc := b_MD_saves) (maxL := 2) (ret := (some .int)) (by decide) rfl ?_
  intro p e s m args below meth c s₁ B hml hv
  obtain ⟨rfl, rfl, hK⟩ := hv
  have hx := B.exec
  have hb := B.bytes
  have hr := B.returns
  have hts0 := atoms_spec (ws := w_MD_saves) B.pre
  have hts := fun w (h : w ∈ lw_g) => hts0 w (List.mem_cons_of_mem _ h)
  have hown : s.vm.findClass RMD = some m.cls := findClass_of_methodNamed B.named
  have hlocks := B.notSynchronized
  have hσ0 := hσ
  obtain ⟨q1, q2, q3, q4, q5, q6, q7, q8, q9, q10, q11, q12, q13, q14, q15, q16, q17, q18, rfl⟩ := hσ
  have hP := hP0
  obtain ⟨A, hAe⟩ : ∃ A : Nat → Prop, A = fun _ => False := ⟨_, rfl⟩
  rw [← hAe]
  have hS : va_S A s.heap s.heap [] := va_S.rf
  have hl := lv_entry ([.ref h0, .int k]) (n := 2) (Nat.le_of_ble_eq_true rfl)
  rw [lg_entry_eq]
  generalize (lg_sl ([.ref h0, .int k]) ++ List.replicate (2 - (lg_sl ([.ref h0, .int k])).length) Slot.unset).toArray = ls at hl ⊢
  have hl : lv_has ls 2 [(0, .ref h0), (1, .int k)] := hl
  unfold A_MD_saves at hr0
  refine lv_iload_n hx hb d_MD_saves_0 rfl (lv_at hl 1 rfl) ?_
  refine lv_if_lt (tgt := 12) hx hb d_MD_saves_1 (by decide) (fun c19 => ?_) (fun c19 => ?_)
  · have hr0 := ai_pos c19 hr0
    refine lv_iconst (v := (-1)) hx hb d_MD_saves_12 (by decide) ?_
    refine lv_goto (tgt := 30) hx hb d_MD_saves_13 (by decide) ?_
    have hr0 := Option.some.inj hr0
    exact W.iret (v := (-1)) hx hb hr (fun t ht hW => ⟨⟨(-1), (), rfl, hr0, ht⟩, hS.F ht⟩) hS.2.2 d_MD_saves_30
  · have hr0 := ai_neg c19 hr0
    refine lv_iload_n hx hb d_MD_saves_4 rfl (lv_at hl 1 rfl) ?_
    refine lv_aload_n hx hb d_MD_saves_5 rfl (lv_at hl 0 rfl) ?_
    refine va_get (D := G.1) (ci := 6) (v := .int (gMD_steps σ)) (C := RMD) (T := TMD) (N := 28) hx hb hts inMD hown hK hP 0 rfl rfl 14 (by decide) (hts _ fl_MD_112) (fun _ h9 => h9) rfl d_MD_saves_6 ?_
    refine lv_icmp_lt (tgt := 16) hx hb d_MD_saves_9 (by decide) (fun c20 => ?_) (fun c20 => ?_)
    · have hr0 := ai_pos c20 hr0
      refine lv_aload_n hx hb d_MD_saves_16 rfl (lv_at hl 0 rfl) ?_
      refine va_get (D := G.1) (ci := 6) (v := .ref q16) (C := RMD) (T := TMD) (N := 28) hx hb hts inMD hown hK hP 0 rfl rfl 25 (by decide) (hts _ fl_MD_58) (fun _ h9 => h9) rfl d_MD_saves_17 ?_
      refine lv_iload_n hx hb d_MD_saves_20 rfl (lv_at hl 1 rfl) ?_
      have c21 := og_n hr0
      have hr0 := og_e hr0
      refine va_zald hx hb hK hP 16 2 rfl rfl (c21) d_MD_saves_21 ?_
      refine lv_if_eq (tgt := 29) hx hb d_MD_saves_22 (by decide) (fun c22 => ?_) (fun c22 => ?_)
      · have hr0 := ai_pos c22 hr0
        refine lv_iconst (v := 0) hx hb d_MD_saves_29 (by decide) ?_
        have hr0 := Option.some.inj hr0
        exact W.iret (v := 0) hx hb hr (fun t ht hW => ⟨⟨0, (), rfl, hr0, ht⟩, hS.F ht⟩) hS.2.2 d_MD_saves_30
      · have hr0 := ai_neg c22 hr0
        refine lv_iconst (v := 1) hx hb d_MD_saves_25 (by decide) ?_
        refine lv_goto (tgt := 30) hx hb d_MD_saves_26 (by decide) ?_
        have hr0 := Option.some.inj hr0
        exact W.iret (v := 1) hx hb hr (fun t ht hW => ⟨⟨1, (), rfl, hr0, ht⟩, hS.F ht⟩) hS.2.2 d_MD_saves_30
    · have hr0 := ai_neg c20 hr0
      refine lv_iconst (v := (-1)) hx hb d_MD_saves_12 (by decide) ?_
      refine lv_goto (tgt := 30) hx hb d_MD_saves_13 (by decide) ?_
      have hr0 := Option.some.inj hr0
      exact W.iret (v := (-1)) hx hb hr (fun t ht hW => ⟨⟨(-1), (), rfl, hr0, ht⟩, hS.F ht⟩) hS.2.2 d_MD_saves_30

def A_MD_label (σ : tMD) (k : Int32) : Option (Int32) := if k < 0 then (some (-1)) else (if (gMD_labelCount σ) ≤ k then (some (-1)) else (if k < 0 ∨ 1500 ≤ k.toNatClampNeg then none else (some ((gMD_labels σ) k.toNatClampNeg))))
set_option maxHeartbeats 4000000 in
set_option maxRecDepth 100000 in
theorem c_MD_label (l : Launch) (G : pG) (h0 : Nat) (σ : tMD) (k : Int32) (H : Heap) (w : va_W) (hP0 : va_P G.1 vwCl w H) (hσ : pMD G h0 σ w) (res : Int32) (hr0 : A_MD_label σ k = some res) : MRi l y_MD_label w_MD_label 0 0 G [.ref h0, .int k] H res := by
  refine Met.ofW (cc := b_MD_label) (maxL := 2) (ret := (some .int)) (by decide) rfl ?_
  intro p e s m args below meth c s₁ B hml hv
  obtain ⟨rfl, rfl, hK⟩ := hv
  have hx := B.exec
  have hb := B.bytes
  have hr := B.returns
  have hts0 := atoms_spec (ws := w_MD_label) B.pre
  have hts := fun w (h : w ∈ lw_g) => hts0 w (List.mem_cons_of_mem _ h)
  have hown : s.vm.findClass RMD = some m.cls := findClass_of_methodNamed B.named
  have hlocks := B.notSynchronized
  have hσ0 := hσ
  obtain ⟨q1, q2, q3, q4, q5, q6, q7, q8, q9, q10, q11, q12, q13, q14, q15, q16, q17, q18, rfl⟩ := hσ
  have hP := hP0
  obtain ⟨A, hAe⟩ : ∃ A : Nat → Prop, A = fun _ => False := ⟨_, rfl⟩
  rw [← hAe]
  have hS : va_S A s.heap s.heap [] := va_S.rf
  have hl := lv_entry ([.ref h0, .int k]) (n := 2) (Nat.le_of_ble_eq_true rfl)
  rw [lg_entry_eq]
  generalize (lg_sl ([.ref h0, .int k]) ++ List.replicate (2 - (lg_sl ([.ref h0, .int k])).length) Slot.unset).toArray = ls at hl ⊢
  have hl : lv_has ls 2 [(0, .ref h0), (1, .int k)] := hl
  unfold A_MD_label at hr0
  refine lv_iload_n hx hb d_MD_label_0 rfl (lv_at hl 1 rfl) ?_
  refine lv_if_lt (tgt := 21) hx hb d_MD_label_1 (by decide) (fun c19 => ?_) (fun c19 => ?_)
  · have hr0 := ai_pos c19 hr0
    refine lv_iconst (v := (-1)) hx hb d_MD_label_21 (by decide) ?_
    have hr0 := Option.some.inj hr0
    exact W.iret (v := (-1)) hx hb hr (fun t ht hW => ⟨⟨(-1), (), rfl, hr0, ht⟩, hS.F ht⟩) hS.2.2 d_MD_label_22
  · have hr0 := ai_neg c19 hr0
    refine lv_iload_n hx hb d_MD_label_4 rfl (lv_at hl 1 rfl) ?_
    refine lv_aload_n hx hb d_MD_label_5 rfl (lv_at hl 0 rfl) ?_
    refine va_get (D := G.1) (ci := 6) (v := .int (gMD_labelCount σ)) (C := RMD) (T := TMD) (N := 28) hx hb hts inMD hown hK hP 0 rfl rfl 22 (by decide) (hts _ fl_MD_115) (fun _ h9 => h9) rfl d_MD_label_6 ?_
    refine lv_icmp_ge (tgt := 21) hx hb d_MD_label_9 (by decide) (fun c20 => ?_) (fun c20 => ?_)
    · have hr0 := ai_pos c20 hr0
      refine lv_iconst (v := (-1)) hx hb d_MD_label_21 (by decide) ?_
      have hr0 := Option.some.inj hr0
      exact W.iret (v := (-1)) hx hb hr (fun t ht hW => ⟨⟨(-1), (), rfl, hr0, ht⟩, hS.F ht⟩) hS.2.2 d_MD_label_22
    · have hr0 := ai_neg c20 hr0
      refine lv_aload_n hx hb d_MD_label_12 rfl (lv_at hl 0 rfl) ?_
      refine va_get (D := G.1) (ci := 6) (v := .ref q14) (C := RMD) (T := TMD) (N := 28) hx hb hts inMD hown hK hP 0 rfl rfl 21 (by decide) (hts _ fl_MD_51) (fun _ h9 => h9) rfl d_MD_label_13 ?_
      refine lv_iload_n hx hb d_MD_label_16 rfl (lv_at hl 1 rfl) ?_
      have c21 := og_n hr0
      have hr0 := og_e hr0
      refine va_iald hx hb hK hP 14 0 rfl rfl (c21) d_MD_label_17 ?_
      refine lv_goto (tgt := 22) hx hb d_MD_label_18 (by decide) ?_
      have hr0 := Option.some.inj hr0
      exact W.iret (v := ((gMD_labels σ) k.toNatClampNeg)) hx hb hr (fun t ht hW => ⟨⟨((gMD_labels σ) k.toNatClampNeg), (), rfl, hr0, ht⟩, hS.F ht⟩) hS.2.2 d_MD_label_22

def A_MD_letter (σ : tMD) (k : Int32) : Option (Int32) := if k < 0 then (some (-1)) else (if (gMD_letterCount σ) ≤ k then (some (-1)) else (if k < 0 ∨ 120000 ≤ k.toNatClampNeg then none else (some ((gMD_letters σ) k.toNatClampNeg))))
set_option maxHeartbeats 4000000 in
set_option maxRecDepth 100000 in
theorem c_MD_letter (l : Launch) (G : pG) (h0 : Nat) (σ : tMD) (k : Int32) (H : Heap) (w : va_W) (hP0 : va_P G.1 vwCl w H) (hσ : pMD G h0 σ w) (res : Int32) (hr0 : A_MD_letter σ k = some res) : MRi l y_MD_letter w_MD_letter 0 0 G [.ref h0, .int k] H res := by
  refine Met.ofW (cc := b_MD_letter) (maxL := 2) (ret := (some .int)) (by decide) rfl ?_
  intro p e s m args below meth c s₁ B hml hv
  obtain ⟨rfl, rfl, hK⟩ := hv
  have hx := B.exec
  have hb := B.bytes
  have hr := B.returns
  have hts0 := atoms_spec (ws := w_MD_letter) B.pre
  have hts := fun w (h : w ∈ lw_g) => hts0 w (List.mem_cons_of_mem _ h)
  have hown : s.vm.findClass RMD = some m.cls := findClass_of_methodNamed B.named
  have hlocks := B.notSynchronized
  have hσ0 := hσ
  obtain ⟨q1, q2, q3, q4, q5, q6, q7, q8, q9, q10, q11, q12, q13, q14, q15, q16, q17, q18, rfl⟩ := hσ
  have hP := hP0
  obtain ⟨A, hAe⟩ : ∃ A : Nat → Prop, A = fun _ => False := ⟨_, rfl⟩
  rw [← hAe]
  have hS : va_S A s.heap s.heap [] := va_S.rf
  have hl := lv_entry ([.ref h0, .int k]) (n := 2) (Nat.le_of_ble_eq_true rfl)
  rw [lg_entry_eq]
  generalize (lg_sl ([.ref h0, .int k]) ++ List.replicate (2 - (lg_sl ([.ref h0, .int k])).length) Slot.unset).toArray = ls at hl ⊢
  have hl : lv_has ls 2 [(0, .ref h0), (1, .int k)] := hl
  unfold A_MD_letter at hr0
  refine lv_iload_n hx hb d_MD_letter_0 rfl (lv_at hl 1 rfl) ?_
  refine lv_if_lt (tgt := 21) hx hb d_MD_letter_1 (by decide) (fun c19 => ?_) (fun c19 => ?_)
  · have hr0 := ai_pos c19 hr0
    refine lv_iconst (v := (-1)) hx hb d_MD_letter_21 (by decide) ?_
    have hr0 := Option.some.inj hr0
    exact W.iret (v := (-1)) hx hb hr (fun t ht hW => ⟨⟨(-1), (), rfl, hr0, ht⟩, hS.F ht⟩) hS.2.2 d_MD_letter_22
  · have hr0 := ai_neg c19 hr0
    refine lv_iload_n hx hb d_MD_letter_4 rfl (lv_at hl 1 rfl) ?_
    refine lv_aload_n hx hb d_MD_letter_5 rfl (lv_at hl 0 rfl) ?_
    refine va_get (D := G.1) (ci := 6) (v := .int (gMD_letterCount σ)) (C := RMD) (T := TMD) (N := 28) hx hb hts inMD hown hK hP 0 rfl rfl 24 (by decide) (hts _ fl_MD_118) (fun _ h9 => h9) rfl d_MD_letter_6 ?_
    refine lv_icmp_ge (tgt := 21) hx hb d_MD_letter_9 (by decide) (fun c20 => ?_) (fun c20 => ?_)
    · have hr0 := ai_pos c20 hr0
      refine lv_iconst (v := (-1)) hx hb d_MD_letter_21 (by decide) ?_
      have hr0 := Option.some.inj hr0
      exact W.iret (v := (-1)) hx hb hr (fun t ht hW => ⟨⟨(-1), (), rfl, hr0, ht⟩, hS.F ht⟩) hS.2.2 d_MD_letter_22
    · have hr0 := ai_neg c20 hr0
      refine lv_aload_n hx hb d_MD_letter_12 rfl (lv_at hl 0 rfl) ?_
      refine va_get (D := G.1) (ci := 6) (v := .ref q15) (C := RMD) (T := TMD) (N := 28) hx hb hts inMD hown hK hP 0 rfl rfl 23 (by decide) (hts _ fl_MD_55) (fun _ h9 => h9) rfl d_MD_letter_13 ?_
      refine lv_iload_n hx hb d_MD_letter_16 rfl (lv_at hl 1 rfl) ?_
      have c21 := og_n hr0
      have hr0 := og_e hr0
      refine va_iald hx hb hK hP 15 0 rfl rfl (c21) d_MD_letter_17 ?_
      refine lv_goto (tgt := 22) hx hb d_MD_letter_18 (by decide) ?_
      have hr0 := Option.some.inj hr0
      exact W.iret (v := ((gMD_letters σ) k.toNatClampNeg)) hx hb hr (fun t ht hW => ⟨⟨((gMD_letters σ) k.toNatClampNeg), (), rfl, hr0, ht⟩, hS.F ht⟩) hS.2.2 d_MD_letter_22

def A_MD_size (σ : tMD) (r : Int32) : Option (Int64) := if (A_MD_isRow σ r) = 0 then (some (-1)) else (if r < 0 ∨ 4000 ≤ r.toNatClampNeg then none else (if (lg_cmp ((gMD_sizes σ) r.toNatClampNeg) 1000000000000000000) ≤ 0 then (if r < 0 ∨ 4000 ≤ r.toNatClampNeg then none else (some ((gMD_sizes σ) r.toNatClampNeg))) else (some (-2))))
set_option maxHeartbeats 4000000 in
set_option maxRecDepth 100000 in
theorem c_MD_size (l : Launch) (G : pG) (h0 : Nat) (σ : tMD) (r : Int32) (H : Heap) (w : va_W) (hP0 : va_P G.1 vwCl w H) (hσ : pMD G h0 σ w) (res : Int64) (hr0 : A_MD_size σ r = some res) : MRl l y_MD_size w_MD_size 1 21 G [.ref h0, .int r] H res := by
  refine Met.ofW (cc := b_MD_size) (maxL := 2) (ret := (some .long)) (by decide) rfl ?_
  intro p e s m args below meth c s₁ B hml hv
  obtain ⟨rfl, rfl, hK⟩ := hv
  have hx := B.exec
  have hb := B.bytes
  have hr := B.returns
  have hts0 := atoms_spec (ws := w_MD_size) B.pre
  have hts := fun w (h : w ∈ lw_g) => hts0 w (List.mem_cons_of_mem _ h)
  have hown : s.vm.findClass RMD = some m.cls := findClass_of_methodNamed B.named
  have hlocks := B.notSynchronized
  have hσ0 := hσ
  obtain ⟨q1, q2, q3, q4, q5, q6, q7, q8, q9, q10, q11, q12, q13, q14, q15, q16, q17, q18, rfl⟩ := hσ
  have hP := hP0
  obtain ⟨A, hAe⟩ : ∃ A : Nat → Prop, A = fun _ => False := ⟨_, rfl⟩
  rw [← hAe]
  have hS : va_S A s.heap s.heap [] := va_S.rf
  have hl := lv_entry ([.ref h0, .int r]) (n := 2) (Nat.le_of_ble_eq_true rfl)
  rw [lg_entry_eq]
  generalize (lg_sl ([.ref h0, .int r]) ++ List.replicate (2 - (lg_sl ([.ref h0, .int r])).length) Slot.unset).toArray = ls at hl ⊢
  have hl : lv_has ls 2 [(0, .ref h0), (1, .int r)] := hl
  unfold A_MD_size at hr0
  refine lv_aload_n hx hb d_MD_size_0 rfl (lv_at hl 0 rfl) ?_
  refine lv_iload_n hx hb d_MD_size_1 rfl (lv_at hl 1 rfl) ?_
  refine rdV (G := G) (As := [.int r]) (rest := []) (C := RMD) ⟨hx, hb, hml, hown, hts⟩ (c_MD_isRow l G h0 σ r _ _ hP0 hσ0 _ rfl) (cwV 1 hts (gd_V ml_MD_109 im_MD_isRow sl_MD_isRow ini_MD k_MD_isRow) rfl rmK_c rmK_s (by decide +kernel) ⟨Nat.le_of_ble_eq_true rfl, Nat.le_of_ble_eq_true rfl⟩) hK (pMD_recv hK hP0 hσ0) hS ⟨Nat.le_refl _, Nat.le_refl _⟩ rfl hl.1 (Nat.le_of_ble_eq_true rfl) d_MD_size_2 (fun locs hS => ?_)
  refine lv_if_ne (tgt := 14) hx hb d_MD_size_5 (by decide) (fun c19 => ?_) (fun c19 => ?_)
  · have hr0 := ai_neg c19 hr0
    refine lv_aload_n hx hb d_MD_size_14 rfl (lv_at hl 0 rfl) ?_
    refine va_get (D := G.1) (ci := 6) (v := .ref q6) (C := RMD) (T := TMD) (N := 28) hx hb hts inMD hown hK hP 0 rfl rfl 8 (by decide) (hts _ fl_MD_25) (fun _ h9 => h9) rfl d_MD_size_15 ?_
    refine lv_iload_n hx hb d_MD_size_18 rfl (lv_at hl 1 rfl) ?_
    have c20 := og_n hr0
    have hr0 := og_e hr0
    refine va_lald hx hb hK hP 6 1 rfl rfl (c20) d_MD_size_19 ?_
    refine lv_ldc2 (v := 1000000000000000000) hx hb hown (hts _ cl2_MD_86) d_MD_size_20 ?_
    refine W.lcmp hx hb d_MD_size_23 ?_
    refine lv_if_le (tgt := 33) hx hb d_MD_size_24 (by decide) (fun c21 => ?_) (fun c21 => ?_)
    · have hr0 := ai_pos c21 hr0
      refine lv_aload_n hx hb d_MD_size_33 rfl (lv_at hl 0 rfl) ?_
      refine va_get (D := G.1) (ci := 6) (v := .ref q6) (C := RMD) (T := TMD) (N := 28) hx hb hts inMD hown hK hP 0 rfl rfl 8 (by decide) (hts _ fl_MD_25) (fun _ h9 => h9) rfl d_MD_size_34 ?_
      refine lv_iload_n hx hb d_MD_size_37 rfl (lv_at hl 1 rfl) ?_
      have c22 := og_n hr0
      have hr0 := og_e hr0
      refine va_lald hx hb hK hP 6 1 rfl rfl (c22) d_MD_size_38 ?_
      have hr0 := Option.some.inj hr0
      exact W.lret (v := ((gMD_sizes σ) r.toNatClampNeg)) hx hb hr (fun t ht hW => ⟨⟨((gMD_sizes σ) r.toNatClampNeg), (), rfl, hr0, ht⟩, hS.F ht⟩) hS.2.2 d_MD_size_39
    · have hr0 := ai_neg c21 hr0
      refine lv_ldc2 (v := (-2)) hx hb hown (hts _ cl2_MD_152) d_MD_size_27 ?_
      refine lv_goto (tgt := 39) hx hb d_MD_size_30 (by decide) ?_
      have hr0 := Option.some.inj hr0
      exact W.lret (v := (-2)) hx hb hr (fun t ht hW => ⟨⟨(-2), (), rfl, hr0, ht⟩, hS.F ht⟩) hS.2.2 d_MD_size_39
  · have hr0 := ai_pos c19 hr0
    refine lv_ldc2 (v := (-1)) hx hb hown (hts _ cl2_MD_150) d_MD_size_8 ?_
    refine lv_goto (tgt := 39) hx hb d_MD_size_11 (by decide) ?_
    have hr0 := Option.some.inj hr0
    exact W.lret (v := (-1)) hx hb hr (fun t ht hW => ⟨⟨(-1), (), rfl, hr0, ht⟩, hS.F ht⟩) hS.2.2 d_MD_size_39

def A_MD_again (σ : tMD) (r : Int32) : Option (Int32 × tMD) := if (A_MD_isRow σ r) = 0 then (some ((-1), σ)) else (if (gMD_piled σ) = 200 then (some ((-1), σ)) else (if (gMD_puts σ) = 20000 then (some ((-1), σ)) else (if (gMD_piled σ) < 0 ∨ 200 ≤ (gMD_piled σ).toNatClampNeg then none else (bnd (uMD_pile σ (upd (gMD_pile σ) (gMD_piled σ).toNatClampNeg r)) (fun T24 => bnd (uMD_piled T24 ((gMD_piled T24) + 1)) (fun T26 => bnd (uMD_puts T26 ((gMD_puts T26) + 1)) (fun T28 => some (gMD_piled T28, T28))))))))
set_option maxHeartbeats 4000000 in
set_option maxRecDepth 100000 in
theorem c_MD_again (l : Launch) (G : pG) (h0 : Nat) (σ : tMD) (r : Int32) (H : Heap) (w : va_W) (hP0 : va_P G.1 vwCl w H) (hD0 : va_D (fun _ => True) w) (hσ : pMD G h0 σ w) (res : Int32 × tMD) (hr0 : A_MD_again σ r = some res) : MWi l y_MD_again w_MD_again 1 21 0 G [.ref h0, .int r] H w res.1 (pMD G h0 res.2) := by
  refine Met.ofW (cc := b_MD_again) (maxL := 2) (ret := (some .int)) (by decide) rfl ?_
  intro p e s m args below meth c s₁ B hml hv
  obtain ⟨rfl, rfl, hK⟩ := hv
  have hx := B.exec
  have hb := B.bytes
  have hr := B.returns
  have hts0 := atoms_spec (ws := w_MD_again) B.pre
  have hts := fun w (h : w ∈ lw_g) => hts0 w (List.mem_cons_of_mem _ h)
  have hown : s.vm.findClass RMD = some m.cls := findClass_of_methodNamed B.named
  have hlocks := B.notSynchronized
  have hA : ∀ q : Nat, s.heap.size ≤ q → va_A w s.heap.size q := fun _ h => Or.inr h
  have hB : bk G.1 vwCl (va_A w s.heap.size) [w] s.heap := bk_init hP0 hD0
  generalize va_A w s.heap.size = A at *
  have hS : va_S A s.heap s.heap [] := va_S.rf
  obtain ⟨q1, q2, q3, q4, q5, q6, q7, q8, q9, q10, q11, q12, q13, q14, q15, q16, q17, q18, rfl⟩ := hσ
  have hB := bk_many hB
  have hk : 0 + 0 = 0 := rfl
  have hl := lv_entry ([.ref h0, .int r]) (n := 2) (Nat.le_of_ble_eq_true rfl)
  rw [lg_entry_eq]
  generalize (lg_sl ([.ref h0, .int r]) ++ List.replicate (2 - (lg_sl ([.ref h0, .int r])).length) Slot.unset).toArray = ls at hl ⊢
  have hl : lv_has ls 2 [(0, .ref h0), (1, .int r)] := hl
  unfold A_MD_again at hr0
  refine lv_aload_n hx hb d_MD_again_0 rfl (lv_at hl 0 rfl) ?_
  refine lv_iload_n hx hb d_MD_again_1 rfl (lv_at hl 1 rfl) ?_
  have hpk19 : pMD G h0  σ ([[(h0, .inr (6, [.int (gMD_statements σ), .ref q1, .ref q2, .int (gMD_mandatoryCount σ), .int (gMD_rows σ), .ref q3, .ref q4, .ref q5, .ref q6, .ref q7, .int (gMD_fromCount σ), .ref q8, .int (gMD_piled σ), .int (gMD_puts σ), .int (gMD_steps σ), .ref q9, .ref q10, .ref q11, .ref q12, .ref q13, .int (gMD_savedCount σ), .ref q14, .int (gMD_labelCount σ), .ref q15, .int (gMD_letterCount σ), .ref q16, .ref q17, .ref q18]))], [(q1, .inl (G.2.1, 1500, .inl (gMD_takes σ)))], [(q2, .inl (G.2.1, 60, .inl (gMD_mandatories σ)))], [(q3, .inl (G.2.1, 4000, .inl (gMD_makers σ)))], [(q4, .inl (G.2.1, 4000, .inl (gMD_fromAt σ)))], [(q5, .inl (G.2.1, 4000, .inl (gMD_firstSame σ)))], [(q6, .inl (G.2.2.1, 4000, .inr (.inl (gMD_sizes σ))))], [(q7, .inl (G.2.1, 20100, .inl (gMD_froms σ)))], [(q8, .inl (G.2.1, 200, .inl (gMD_pile σ)))], [(q9, .inl (G.2.1, 26000, .inl (gMD_toldStep σ)))], [(q10, .inl (G.2.1, 26000, .inl (gMD_stepRow σ)))], [(q11, .inl (G.2.2.2, 4000, .inl (gMD_isSaved σ)))], [(q12, .inl (G.2.2.2, 4000, .inl (gMD_isTold σ)))], [(q13, .inl (G.2.1, 4000, .inl (gMD_savedNumber σ)))], [(q14, .inl (G.2.1, 1500, .inl (gMD_labels σ)))], [(q15, .inl (G.2.1, 120000, .inl (gMD_letters σ)))], [(q16, .inl (G.2.2.2, 26000, .inl (gMD_saving σ)))], [(q17, .inl (G.2.1, 4001, .inl (gMD_walk σ)))], [(q18, .inl (G.2.1, 4001, .inl (gMD_walkAt σ)))]].flatten) := ⟨q1, q2, q3, q4, q5, q6, q7, q8, q9, q10, q11, q12, q13, q14, q15, q16, q17, q18, rfl⟩
  refine rdV (G := G) (As := [.int r]) (rest := []) (C := RMD) ⟨hx, hb, hml, hown, hts⟩ (c_MD_isRow l G h0 σ r _ _ hB.1 hpk19 _ rfl) (cwV 1 hts (gd_V ml_MD_109 im_MD_isRow sl_MD_isRow ini_MD k_MD_isRow) rfl rmK_c rmK_s (by decide +kernel) ⟨Nat.le_of_ble_eq_true rfl, Nat.le_of_ble_eq_true rfl⟩) hK (pMD_recv hK hB.1 hpk19) hS ⟨Nat.le.intro hk, Nat.le.intro hk⟩ rfl hl.1 (Nat.le_of_ble_eq_true rfl) d_MD_again_2 (fun locs hS => ?_)
  refine lv_if_eq (tgt := 28) hx hb d_MD_again_5 (by decide) (fun c20 => ?_) (fun c20 => ?_)
  · have hr0 := ai_pos c20 hr0
    refine lv_iconst (v := (-1)) hx hb d_MD_again_28 (by decide) ?_
    have hr0 := Option.some.inj hr0
    subst hr0
    refine W.widen (k := 0) (n := 0) (Nat.le_refl _) (Nat.le_refl _) ?_
    exact W.iret (v := (-1)) hx hb hr (fun t ht hW => ⟨⟨(-1), [[(h0, .inr (6, [.int (gMD_statements σ), .ref q1, .ref q2, .int (gMD_mandatoryCount σ), .int (gMD_rows σ), .ref q3, .ref q4, .ref q5, .ref q6, .ref q7, .int (gMD_fromCount σ), .ref q8, .int (gMD_piled σ), .int (gMD_puts σ), .int (gMD_steps σ), .ref q9, .ref q10, .ref q11, .ref q12, .ref q13, .int (gMD_savedCount σ), .ref q14, .int (gMD_labelCount σ), .ref q15, .int (gMD_letterCount σ), .ref q16, .ref q17, .ref q18]))], [(q1, .inl (G.2.1, 1500, .inl (gMD_takes σ)))], [(q2, .inl (G.2.1, 60, .inl (gMD_mandatories σ)))], [(q3, .inl (G.2.1, 4000, .inl (gMD_makers σ)))], [(q4, .inl (G.2.1, 4000, .inl (gMD_fromAt σ)))], [(q5, .inl (G.2.1, 4000, .inl (gMD_firstSame σ)))], [(q6, .inl (G.2.2.1, 4000, .inr (.inl (gMD_sizes σ))))], [(q7, .inl (G.2.1, 20100, .inl (gMD_froms σ)))], [(q8, .inl (G.2.1, 200, .inl (gMD_pile σ)))], [(q9, .inl (G.2.1, 26000, .inl (gMD_toldStep σ)))], [(q10, .inl (G.2.1, 26000, .inl (gMD_stepRow σ)))], [(q11, .inl (G.2.2.2, 4000, .inl (gMD_isSaved σ)))], [(q12, .inl (G.2.2.2, 4000, .inl (gMD_isTold σ)))], [(q13, .inl (G.2.1, 4000, .inl (gMD_savedNumber σ)))], [(q14, .inl (G.2.1, 1500, .inl (gMD_labels σ)))], [(q15, .inl (G.2.1, 120000, .inl (gMD_letters σ)))], [(q16, .inl (G.2.2.2, 26000, .inl (gMD_saving σ)))], [(q17, .inl (G.2.1, 4001, .inl (gMD_walk σ)))], [(q18, .inl (G.2.1, 4001, .inl (gMD_walkAt σ)))]].flatten, rfl, ⟨rfl, ⟨q1, q2, q3, q4, q5, q6, q7, q8, q9, q10, q11, q12, q13, q14, q15, q16, q17, q18, rfl⟩⟩, by rw [ht]; exact hB.1, hB.2⟩, hS.F ht⟩) hS.2.2 d_MD_again_29
  · have hr0 := ai_neg c20 hr0
    refine lv_aload_n hx hb d_MD_again_8 rfl (lv_at hl 0 rfl) ?_
    refine va_get (D := G.1) (ci := 6) (v := .int (gMD_piled σ)) (C := RMD) (T := TMD) (N := 28) hx hb hts inMD hown hK hB.1 0 rfl rfl 12 (by decide) (hts _ fl_MD_90) (fun _ h9 => h9) rfl d_MD_again_9 ?_
    refine lv_sipush (v := 200) hx hb d_MD_again_12 (by decide) ?_
    refine lv_icmp_eq (tgt := 28) hx hb d_MD_again_15 (by decide) (fun c21 => ?_) (fun c21 => ?_)
    · have hr0 := ai_pos c21 hr0
      refine lv_iconst (v := (-1)) hx hb d_MD_again_28 (by decide) ?_
      have hr0 := Option.some.inj hr0
      subst hr0
      refine W.widen (k := 0) (n := 0) (Nat.le_refl _) (Nat.le_refl _) ?_
      exact W.iret (v := (-1)) hx hb hr (fun t ht hW => ⟨⟨(-1), [[(h0, .inr (6, [.int (gMD_statements σ), .ref q1, .ref q2, .int (gMD_mandatoryCount σ), .int (gMD_rows σ), .ref q3, .ref q4, .ref q5, .ref q6, .ref q7, .int (gMD_fromCount σ), .ref q8, .int (gMD_piled σ), .int (gMD_puts σ), .int (gMD_steps σ), .ref q9, .ref q10, .ref q11, .ref q12, .ref q13, .int (gMD_savedCount σ), .ref q14, .int (gMD_labelCount σ), .ref q15, .int (gMD_letterCount σ), .ref q16, .ref q17, .ref q18]))], [(q1, .inl (G.2.1, 1500, .inl (gMD_takes σ)))], [(q2, .inl (G.2.1, 60, .inl (gMD_mandatories σ)))], [(q3, .inl (G.2.1, 4000, .inl (gMD_makers σ)))], [(q4, .inl (G.2.1, 4000, .inl (gMD_fromAt σ)))], [(q5, .inl (G.2.1, 4000, .inl (gMD_firstSame σ)))], [(q6, .inl (G.2.2.1, 4000, .inr (.inl (gMD_sizes σ))))], [(q7, .inl (G.2.1, 20100, .inl (gMD_froms σ)))], [(q8, .inl (G.2.1, 200, .inl (gMD_pile σ)))], [(q9, .inl (G.2.1, 26000, .inl (gMD_toldStep σ)))], [(q10, .inl (G.2.1, 26000, .inl (gMD_stepRow σ)))], [(q11, .inl (G.2.2.2, 4000, .inl (gMD_isSaved σ)))], [(q12, .inl (G.2.2.2, 4000, .inl (gMD_isTold σ)))], [(q13, .inl (G.2.1, 4000, .inl (gMD_savedNumber σ)))], [(q14, .inl (G.2.1, 1500, .inl (gMD_labels σ)))], [(q15, .inl (G.2.1, 120000, .inl (gMD_letters σ)))], [(q16, .inl (G.2.2.2, 26000, .inl (gMD_saving σ)))], [(q17, .inl (G.2.1, 4001, .inl (gMD_walk σ)))], [(q18, .inl (G.2.1, 4001, .inl (gMD_walkAt σ)))]].flatten, rfl, ⟨rfl, ⟨q1, q2, q3, q4, q5, q6, q7, q8, q9, q10, q11, q12, q13, q14, q15, q16, q17, q18, rfl⟩⟩, by rw [ht]; exact hB.1, hB.2⟩, hS.F ht⟩) hS.2.2 d_MD_again_29
    · have hr0 := ai_neg c21 hr0
      refine lv_aload_n hx hb d_MD_again_18 rfl (lv_at hl 0 rfl) ?_
      refine va_get (D := G.1) (ci := 6) (v := .int (gMD_puts σ)) (C := RMD) (T := TMD) (N := 28) hx hb hts inMD hown hK hB.1 0 rfl rfl 13 (by decide) (hts _ fl_MD_96) (fun _ h9 => h9) rfl d_MD_again_19 ?_
      refine lv_sipush (v := 20000) hx hb d_MD_again_22 (by decide) ?_
      refine lv_icmp_ne (tgt := 30) hx hb d_MD_again_25 (by decide) (fun c22 => ?_) (fun c22 => ?_)
      · have hr0 := ai_neg c22 hr0
        refine lv_aload_n hx hb d_MD_again_30 rfl (lv_at hl 0 rfl) ?_
        refine va_get (D := G.1) (ci := 6) (v := .ref q8) (C := RMD) (T := TMD) (N := 28) hx hb hts inMD hown hK hB.1 0 rfl rfl 11 (by decide) (hts _ fl_MD_32) (fun _ h9 => h9) rfl d_MD_again_31 ?_
        refine lv_aload_n hx hb d_MD_again_34 rfl (lv_at hl 0 rfl) ?_
        refine va_get (D := G.1) (ci := 6) (v := .int (gMD_piled σ)) (C := RMD) (T := TMD) (N := 28) hx hb hts inMD hown hK hB.1 0 rfl rfl 12 (by decide) (hts _ fl_MD_90) (fun _ h9 => h9) rfl d_MD_again_35 ?_
        refine lv_iload_n hx hb d_MD_again_38 rfl (lv_at hl 1 rfl) ?_
        have c23 := og_n hr0
        have hr0 := og_e hr0
        refine va_iast hx hb hK hB.1 hB.2 hS 8 0 rfl rfl (c23) d_MD_again_39 (fun H locs hP hD hS => ?_)
        have hB : bk G.1 vwCl A [[(h0, .inr (6, [.int (gMD_statements σ), .ref q1, .ref q2, .int (gMD_mandatoryCount σ), .int (gMD_rows σ), .ref q3, .ref q4, .ref q5, .ref q6, .ref q7, .int (gMD_fromCount σ), .ref q8, .int (gMD_piled σ), .int (gMD_puts σ), .int (gMD_steps σ), .ref q9, .ref q10, .ref q11, .ref q12, .ref q13, .int (gMD_savedCount σ), .ref q14, .int (gMD_labelCount σ), .ref q15, .int (gMD_letterCount σ), .ref q16, .ref q17, .ref q18]))], [(q1, .inl (G.2.1, 1500, .inl (gMD_takes σ)))], [(q2, .inl (G.2.1, 60, .inl (gMD_mandatories σ)))], [(q3, .inl (G.2.1, 4000, .inl (gMD_makers σ)))], [(q4, .inl (G.2.1, 4000, .inl (gMD_fromAt σ)))], [(q5, .inl (G.2.1, 4000, .inl (gMD_firstSame σ)))], [(q6, .inl (G.2.2.1, 4000, .inr (.inl (gMD_sizes σ))))], [(q7, .inl (G.2.1, 20100, .inl (gMD_froms σ)))], [(q8, .inl (G.2.1, 200, .inl (upd (gMD_pile σ) (gMD_piled σ).toNatClampNeg r)))], [(q9, .inl (G.2.1, 26000, .inl (gMD_toldStep σ)))], [(q10, .inl (G.2.1, 26000, .inl (gMD_stepRow σ)))], [(q11, .inl (G.2.2.2, 4000, .inl (gMD_isSaved σ)))], [(q12, .inl (G.2.2.2, 4000, .inl (gMD_isTold σ)))], [(q13, .inl (G.2.1, 4000, .inl (gMD_savedNumber σ)))], [(q14, .inl (G.2.1, 1500, .inl (gMD_labels σ)))], [(q15, .inl (G.2.1, 120000, .inl (gMD_letters σ)))], [(q16, .inl (G.2.2.2, 26000, .inl (gMD_saving σ)))], [(q17, .inl (G.2.1, 4001, .inl (gMD_walk σ)))], [(q18, .inl (G.2.1, 4001, .inl (gMD_walkAt σ)))]] H := ⟨hP, hD⟩
        obtain ⟨T24, hT25⟩ : ∃ z, uMD_pile σ (upd (gMD_pile σ) (gMD_piled σ).toNatClampNeg r) = z := ⟨_, rfl⟩
        have hr0 := bnd_e hT25 hr0
        have hB : bk G.1 vwCl A [[(h0, .inr (6, [.int (gMD_statements T24), .ref q1, .ref q2, .int (gMD_mandatoryCount T24), .int (gMD_rows T24), .ref q3, .ref q4, .ref q5, .ref q6, .ref q7, .int (gMD_fromCount T24), .ref q8, .int (gMD_piled T24), .int (gMD_puts T24), .int (gMD_steps T24), .ref q9, .ref q10, .ref q11, .ref q12, .ref q13, .int (gMD_savedCount T24), .ref q14, .int (gMD_labelCount T24), .ref q15, .int (gMD_letterCount T24), .ref q16, .ref q17, .ref q18]))], [(q1, .inl (G.2.1, 1500, .inl (gMD_takes T24)))], [(q2, .inl (G.2.1, 60, .inl (gMD_mandatories T24)))], [(q3, .inl (G.2.1, 4000, .inl (gMD_makers T24)))], [(q4, .inl (G.2.1, 4000, .inl (gMD_fromAt T24)))], [(q5, .inl (G.2.1, 4000, .inl (gMD_firstSame T24)))], [(q6, .inl (G.2.2.1, 4000, .inr (.inl (gMD_sizes T24))))], [(q7, .inl (G.2.1, 20100, .inl (gMD_froms T24)))], [(q8, .inl (G.2.1, 200, .inl (gMD_pile T24)))], [(q9, .inl (G.2.1, 26000, .inl (gMD_toldStep T24)))], [(q10, .inl (G.2.1, 26000, .inl (gMD_stepRow T24)))], [(q11, .inl (G.2.2.2, 4000, .inl (gMD_isSaved T24)))], [(q12, .inl (G.2.2.2, 4000, .inl (gMD_isTold T24)))], [(q13, .inl (G.2.1, 4000, .inl (gMD_savedNumber T24)))], [(q14, .inl (G.2.1, 1500, .inl (gMD_labels T24)))], [(q15, .inl (G.2.1, 120000, .inl (gMD_letters T24)))], [(q16, .inl (G.2.2.2, 26000, .inl (gMD_saving T24)))], [(q17, .inl (G.2.1, 4001, .inl (gMD_walk T24)))], [(q18, .inl (G.2.1, 4001, .inl (gMD_walkAt T24)))]] H := by subst hT25; exact hB
        refine lv_aload_n hx hb d_MD_again_40 rfl (lv_at hl 0 rfl) ?_
        refine lv_dup hx hb d_MD_again_41 rfl ?_
        refine va_get (D := G.1) (ci := 6) (v := .int (gMD_piled T24)) (C := RMD) (T := TMD) (N := 28) hx hb hts inMD hown hK hB.1 0 rfl rfl 12 (by decide) (hts _ fl_MD_90) (fun _ h9 => h9) rfl d_MD_again_42 ?_
        refine lv_iconst (v := 1) hx hb d_MD_again_45 (by decide) ?_
        refine lv_iadd hx hb d_MD_again_46 ?_
        refine va_put (D := G.1) (ci := 6) (v := .int ((gMD_piled T24) + 1)) (ty := .int) (C := RMD) (T := TMD) (N := 28) hx hb hts inMD tyMD tokMD nmMD hown hK hB.1 hB.2 hS 0 rfl rfl 12 (by decide) (hts _ fl_MD_90) (fun _ h9 => h9) rfl (by decide +kernel) rfl rfl (Nat.le_of_ble_eq_true rfl) d_MD_again_47 (fun H locs hP hD hS => ?_)
        have hB : bk G.1 vwCl A [[(h0, .inr (6, [.int (gMD_statements T24), .ref q1, .ref q2, .int (gMD_mandatoryCount T24), .int (gMD_rows T24), .ref q3, .ref q4, .ref q5, .ref q6, .ref q7, .int (gMD_fromCount T24), .ref q8, .int ((gMD_piled T24) + 1), .int (gMD_puts T24), .int (gMD_steps T24), .ref q9, .ref q10, .ref q11, .ref q12, .ref q13, .int (gMD_savedCount T24), .ref q14, .int (gMD_labelCount T24), .ref q15, .int (gMD_letterCount T24), .ref q16, .ref q17, .ref q18]))], [(q1, .inl (G.2.1, 1500, .inl (gMD_takes T24)))], [(q2, .inl (G.2.1, 60, .inl (gMD_mandatories T24)))], [(q3, .inl (G.2.1, 4000, .inl (gMD_makers T24)))], [(q4, .inl (G.2.1, 4000, .inl (gMD_fromAt T24)))], [(q5, .inl (G.2.1, 4000, .inl (gMD_firstSame T24)))], [(q6, .inl (G.2.2.1, 4000, .inr (.inl (gMD_sizes T24))))], [(q7, .inl (G.2.1, 20100, .inl (gMD_froms T24)))], [(q8, .inl (G.2.1, 200, .inl (gMD_pile T24)))], [(q9, .inl (G.2.1, 26000, .inl (gMD_toldStep T24)))], [(q10, .inl (G.2.1, 26000, .inl (gMD_stepRow T24)))], [(q11, .inl (G.2.2.2, 4000, .inl (gMD_isSaved T24)))], [(q12, .inl (G.2.2.2, 4000, .inl (gMD_isTold T24)))], [(q13, .inl (G.2.1, 4000, .inl (gMD_savedNumber T24)))], [(q14, .inl (G.2.1, 1500, .inl (gMD_labels T24)))], [(q15, .inl (G.2.1, 120000, .inl (gMD_letters T24)))], [(q16, .inl (G.2.2.2, 26000, .inl (gMD_saving T24)))], [(q17, .inl (G.2.1, 4001, .inl (gMD_walk T24)))], [(q18, .inl (G.2.1, 4001, .inl (gMD_walkAt T24)))]] H := ⟨hP, hD⟩
        obtain ⟨T26, hT27⟩ : ∃ z, uMD_piled T24 ((gMD_piled T24) + 1) = z := ⟨_, rfl⟩
        have hr0 := bnd_e hT27 hr0
        have hB : bk G.1 vwCl A [[(h0, .inr (6, [.int (gMD_statements T26), .ref q1, .ref q2, .int (gMD_mandatoryCount T26), .int (gMD_rows T26), .ref q3, .ref q4, .ref q5, .ref q6, .ref q7, .int (gMD_fromCount T26), .ref q8, .int (gMD_piled T26), .int (gMD_puts T26), .int (gMD_steps T26), .ref q9, .ref q10, .ref q11, .ref q12, .ref q13, .int (gMD_savedCount T26), .ref q14, .int (gMD_labelCount T26), .ref q15, .int (gMD_letterCount T26), .ref q16, .ref q17, .ref q18]))], [(q1, .inl (G.2.1, 1500, .inl (gMD_takes T26)))], [(q2, .inl (G.2.1, 60, .inl (gMD_mandatories T26)))], [(q3, .inl (G.2.1, 4000, .inl (gMD_makers T26)))], [(q4, .inl (G.2.1, 4000, .inl (gMD_fromAt T26)))], [(q5, .inl (G.2.1, 4000, .inl (gMD_firstSame T26)))], [(q6, .inl (G.2.2.1, 4000, .inr (.inl (gMD_sizes T26))))], [(q7, .inl (G.2.1, 20100, .inl (gMD_froms T26)))], [(q8, .inl (G.2.1, 200, .inl (gMD_pile T26)))], [(q9, .inl (G.2.1, 26000, .inl (gMD_toldStep T26)))], [(q10, .inl (G.2.1, 26000, .inl (gMD_stepRow T26)))], [(q11, .inl (G.2.2.2, 4000, .inl (gMD_isSaved T26)))], [(q12, .inl (G.2.2.2, 4000, .inl (gMD_isTold T26)))], [(q13, .inl (G.2.1, 4000, .inl (gMD_savedNumber T26)))], [(q14, .inl (G.2.1, 1500, .inl (gMD_labels T26)))], [(q15, .inl (G.2.1, 120000, .inl (gMD_letters T26)))], [(q16, .inl (G.2.2.2, 26000, .inl (gMD_saving T26)))], [(q17, .inl (G.2.1, 4001, .inl (gMD_walk T26)))], [(q18, .inl (G.2.1, 4001, .inl (gMD_walkAt T26)))]] H := by subst hT27; exact hB
        refine lv_aload_n hx hb d_MD_again_50 rfl (lv_at hl 0 rfl) ?_
        refine lv_dup hx hb d_MD_again_51 rfl ?_
        refine va_get (D := G.1) (ci := 6) (v := .int (gMD_puts T26)) (C := RMD) (T := TMD) (N := 28) hx hb hts inMD hown hK hB.1 0 rfl rfl 13 (by decide) (hts _ fl_MD_96) (fun _ h9 => h9) rfl d_MD_again_52 ?_
        refine lv_iconst (v := 1) hx hb d_MD_again_55 (by decide) ?_
        refine lv_iadd hx hb d_MD_again_56 ?_
        refine va_put (D := G.1) (ci := 6) (v := .int ((gMD_puts T26) + 1)) (ty := .int) (C := RMD) (T := TMD) (N := 28) hx hb hts inMD tyMD tokMD nmMD hown hK hB.1 hB.2 hS 0 rfl rfl 13 (by decide) (hts _ fl_MD_96) (fun _ h9 => h9) rfl (by decide +kernel) rfl rfl (Nat.le_of_ble_eq_true rfl) d_MD_again_57 (fun H locs hP hD hS => ?_)
        have hB : bk G.1 vwCl A [[(h0, .inr (6, [.int (gMD_statements T26), .ref q1, .ref q2, .int (gMD_mandatoryCount T26), .int (gMD_rows T26), .ref q3, .ref q4, .ref q5, .ref q6, .ref q7, .int (gMD_fromCount T26), .ref q8, .int (gMD_piled T26), .int ((gMD_puts T26) + 1), .int (gMD_steps T26), .ref q9, .ref q10, .ref q11, .ref q12, .ref q13, .int (gMD_savedCount T26), .ref q14, .int (gMD_labelCount T26), .ref q15, .int (gMD_letterCount T26), .ref q16, .ref q17, .ref q18]))], [(q1, .inl (G.2.1, 1500, .inl (gMD_takes T26)))], [(q2, .inl (G.2.1, 60, .inl (gMD_mandatories T26)))], [(q3, .inl (G.2.1, 4000, .inl (gMD_makers T26)))], [(q4, .inl (G.2.1, 4000, .inl (gMD_fromAt T26)))], [(q5, .inl (G.2.1, 4000, .inl (gMD_firstSame T26)))], [(q6, .inl (G.2.2.1, 4000, .inr (.inl (gMD_sizes T26))))], [(q7, .inl (G.2.1, 20100, .inl (gMD_froms T26)))], [(q8, .inl (G.2.1, 200, .inl (gMD_pile T26)))], [(q9, .inl (G.2.1, 26000, .inl (gMD_toldStep T26)))], [(q10, .inl (G.2.1, 26000, .inl (gMD_stepRow T26)))], [(q11, .inl (G.2.2.2, 4000, .inl (gMD_isSaved T26)))], [(q12, .inl (G.2.2.2, 4000, .inl (gMD_isTold T26)))], [(q13, .inl (G.2.1, 4000, .inl (gMD_savedNumber T26)))], [(q14, .inl (G.2.1, 1500, .inl (gMD_labels T26)))], [(q15, .inl (G.2.1, 120000, .inl (gMD_letters T26)))], [(q16, .inl (G.2.2.2, 26000, .inl (gMD_saving T26)))], [(q17, .inl (G.2.1, 4001, .inl (gMD_walk T26)))], [(q18, .inl (G.2.1, 4001, .inl (gMD_walkAt T26)))]] H := ⟨hP, hD⟩
        obtain ⟨T28, hT29⟩ : ∃ z, uMD_puts T26 ((gMD_puts T26) + 1) = z := ⟨_, rfl⟩
        have hr0 := bnd_e hT29 hr0
        have hB : bk G.1 vwCl A [[(h0, .inr (6, [.int (gMD_statements T28), .ref q1, .ref q2, .int (gMD_mandatoryCount T28), .int (gMD_rows T28), .ref q3, .ref q4, .ref q5, .ref q6, .ref q7, .int (gMD_fromCount T28), .ref q8, .int (gMD_piled T28), .int (gMD_puts T28), .int (gMD_steps T28), .ref q9, .ref q10, .ref q11, .ref q12, .ref q13, .int (gMD_savedCount T28), .ref q14, .int (gMD_labelCount T28), .ref q15, .int (gMD_letterCount T28), .ref q16, .ref q17, .ref q18]))], [(q1, .inl (G.2.1, 1500, .inl (gMD_takes T28)))], [(q2, .inl (G.2.1, 60, .inl (gMD_mandatories T28)))], [(q3, .inl (G.2.1, 4000, .inl (gMD_makers T28)))], [(q4, .inl (G.2.1, 4000, .inl (gMD_fromAt T28)))], [(q5, .inl (G.2.1, 4000, .inl (gMD_firstSame T28)))], [(q6, .inl (G.2.2.1, 4000, .inr (.inl (gMD_sizes T28))))], [(q7, .inl (G.2.1, 20100, .inl (gMD_froms T28)))], [(q8, .inl (G.2.1, 200, .inl (gMD_pile T28)))], [(q9, .inl (G.2.1, 26000, .inl (gMD_toldStep T28)))], [(q10, .inl (G.2.1, 26000, .inl (gMD_stepRow T28)))], [(q11, .inl (G.2.2.2, 4000, .inl (gMD_isSaved T28)))], [(q12, .inl (G.2.2.2, 4000, .inl (gMD_isTold T28)))], [(q13, .inl (G.2.1, 4000, .inl (gMD_savedNumber T28)))], [(q14, .inl (G.2.1, 1500, .inl (gMD_labels T28)))], [(q15, .inl (G.2.1, 120000, .inl (gMD_letters T28)))], [(q16, .inl (G.2.2.2, 26000, .inl (gMD_saving T28)))], [(q17, .inl (G.2.1, 4001, .inl (gMD_walk T28)))], [(q18, .inl (G.2.1, 4001, .inl (gMD_walkAt T28)))]] H := by subst hT29; exact hB
        refine lv_aload_n hx hb d_MD_again_60 rfl (lv_at hl 0 rfl) ?_
        refine va_get (D := G.1) (ci := 6) (v := .int (gMD_piled T28)) (C := RMD) (T := TMD) (N := 28) hx hb hts inMD hown hK hB.1 0 rfl rfl 12 (by decide) (hts _ fl_MD_90) (fun _ h9 => h9) rfl d_MD_again_61 ?_
        have hr0 := Option.some.inj hr0
        subst hr0
        refine W.widen (k := 0) (n := 0) (Nat.le_refl _) (Nat.le_refl _) ?_
        exact W.iret (v := (gMD_piled T28)) hx hb hr (fun t ht hW => ⟨⟨(gMD_piled T28), [[(h0, .inr (6, [.int (gMD_statements T28), .ref q1, .ref q2, .int (gMD_mandatoryCount T28), .int (gMD_rows T28), .ref q3, .ref q4, .ref q5, .ref q6, .ref q7, .int (gMD_fromCount T28), .ref q8, .int (gMD_piled T28), .int (gMD_puts T28), .int (gMD_steps T28), .ref q9, .ref q10, .ref q11, .ref q12, .ref q13, .int (gMD_savedCount T28), .ref q14, .int (gMD_labelCount T28), .ref q15, .int (gMD_letterCount T28), .ref q16, .ref q17, .ref q18]))], [(q1, .inl (G.2.1, 1500, .inl (gMD_takes T28)))], [(q2, .inl (G.2.1, 60, .inl (gMD_mandatories T28)))], [(q3, .inl (G.2.1, 4000, .inl (gMD_makers T28)))], [(q4, .inl (G.2.1, 4000, .inl (gMD_fromAt T28)))], [(q5, .inl (G.2.1, 4000, .inl (gMD_firstSame T28)))], [(q6, .inl (G.2.2.1, 4000, .inr (.inl (gMD_sizes T28))))], [(q7, .inl (G.2.1, 20100, .inl (gMD_froms T28)))], [(q8, .inl (G.2.1, 200, .inl (gMD_pile T28)))], [(q9, .inl (G.2.1, 26000, .inl (gMD_toldStep T28)))], [(q10, .inl (G.2.1, 26000, .inl (gMD_stepRow T28)))], [(q11, .inl (G.2.2.2, 4000, .inl (gMD_isSaved T28)))], [(q12, .inl (G.2.2.2, 4000, .inl (gMD_isTold T28)))], [(q13, .inl (G.2.1, 4000, .inl (gMD_savedNumber T28)))], [(q14, .inl (G.2.1, 1500, .inl (gMD_labels T28)))], [(q15, .inl (G.2.1, 120000, .inl (gMD_letters T28)))], [(q16, .inl (G.2.2.2, 26000, .inl (gMD_saving T28)))], [(q17, .inl (G.2.1, 4001, .inl (gMD_walk T28)))], [(q18, .inl (G.2.1, 4001, .inl (gMD_walkAt T28)))]].flatten, rfl, ⟨rfl, ⟨q1, q2, q3, q4, q5, q6, q7, q8, q9, q10, q11, q12, q13, q14, q15, q16, q17, q18, rfl⟩⟩, by rw [ht]; exact hB.1, hB.2⟩, hS.F ht⟩) hS.2.2 d_MD_again_64
      · have hr0 := ai_pos c22 hr0
        refine lv_iconst (v := (-1)) hx hb d_MD_again_28 (by decide) ?_
        have hr0 := Option.some.inj hr0
        subst hr0
        refine W.widen (k := 0) (n := 0) (Nat.le_refl _) (Nat.le_refl _) ?_
        exact W.iret (v := (-1)) hx hb hr (fun t ht hW => ⟨⟨(-1), [[(h0, .inr (6, [.int (gMD_statements σ), .ref q1, .ref q2, .int (gMD_mandatoryCount σ), .int (gMD_rows σ), .ref q3, .ref q4, .ref q5, .ref q6, .ref q7, .int (gMD_fromCount σ), .ref q8, .int (gMD_piled σ), .int (gMD_puts σ), .int (gMD_steps σ), .ref q9, .ref q10, .ref q11, .ref q12, .ref q13, .int (gMD_savedCount σ), .ref q14, .int (gMD_labelCount σ), .ref q15, .int (gMD_letterCount σ), .ref q16, .ref q17, .ref q18]))], [(q1, .inl (G.2.1, 1500, .inl (gMD_takes σ)))], [(q2, .inl (G.2.1, 60, .inl (gMD_mandatories σ)))], [(q3, .inl (G.2.1, 4000, .inl (gMD_makers σ)))], [(q4, .inl (G.2.1, 4000, .inl (gMD_fromAt σ)))], [(q5, .inl (G.2.1, 4000, .inl (gMD_firstSame σ)))], [(q6, .inl (G.2.2.1, 4000, .inr (.inl (gMD_sizes σ))))], [(q7, .inl (G.2.1, 20100, .inl (gMD_froms σ)))], [(q8, .inl (G.2.1, 200, .inl (gMD_pile σ)))], [(q9, .inl (G.2.1, 26000, .inl (gMD_toldStep σ)))], [(q10, .inl (G.2.1, 26000, .inl (gMD_stepRow σ)))], [(q11, .inl (G.2.2.2, 4000, .inl (gMD_isSaved σ)))], [(q12, .inl (G.2.2.2, 4000, .inl (gMD_isTold σ)))], [(q13, .inl (G.2.1, 4000, .inl (gMD_savedNumber σ)))], [(q14, .inl (G.2.1, 1500, .inl (gMD_labels σ)))], [(q15, .inl (G.2.1, 120000, .inl (gMD_letters σ)))], [(q16, .inl (G.2.2.2, 26000, .inl (gMD_saving σ)))], [(q17, .inl (G.2.1, 4001, .inl (gMD_walk σ)))], [(q18, .inl (G.2.1, 4001, .inl (gMD_walkAt σ)))]].flatten, rfl, ⟨rfl, ⟨q1, q2, q3, q4, q5, q6, q7, q8, q9, q10, q11, q12, q13, q14, q15, q16, q17, q18, rfl⟩⟩, by rw [ht]; exact hB.1, hB.2⟩, hS.F ht⟩) hS.2.2 d_MD_again_29
