/-! the reference's fields behind a change of one -/
theorem gu_MD_statements_statements (σ : tMD) (v : Int32) : gMD_statements (uMD_statements σ v) = v := rfl
theorem gu_MD_statements_takes (σ : tMD) (v : Nat → Int32) : gMD_statements (uMD_takes σ v) = gMD_statements σ := rfl
theorem gu_MD_statements_mandatories (σ : tMD) (v : Nat → Int32) : gMD_statements (uMD_mandatories σ v) = gMD_statements σ := rfl
theorem gu_MD_statements_mandatoryCount (σ : tMD) (v : Int32) : gMD_statements (uMD_mandatoryCount σ v) = gMD_statements σ := rfl
theorem gu_MD_statements_rows (σ : tMD) (v : Int32) : gMD_statements (uMD_rows σ v) = gMD_statements σ := rfl
theorem gu_MD_statements_makers (σ : tMD) (v : Nat → Int32) : gMD_statements (uMD_makers σ v) = gMD_statements σ := rfl
theorem gu_MD_statements_fromAt (σ : tMD) (v : Nat → Int32) : gMD_statements (uMD_fromAt σ v) = gMD_statements σ := rfl
theorem gu_MD_statements_firstSame (σ : tMD) (v : Nat → Int32) : gMD_statements (uMD_firstSame σ v) = gMD_statements σ := rfl
theorem gu_MD_statements_sizes (σ : tMD) (v : Nat → Int64) : gMD_statements (uMD_sizes σ v) = gMD_statements σ := rfl
theorem gu_MD_statements_froms (σ : tMD) (v : Nat → Int32) : gMD_statements (uMD_froms σ v) = gMD_statements σ := rfl
theorem gu_MD_statements_fromCount (σ : tMD) (v : Int32) : gMD_statements (uMD_fromCount σ v) = gMD_statements σ := rfl
theorem gu_MD_statements_pile (σ : tMD) (v : Nat → Int32) : gMD_statements (uMD_pile σ v) = gMD_statements σ := rfl
theorem gu_MD_statements_piled (σ : tMD) (v : Int32) : gMD_statements (uMD_piled σ v) = gMD_statements σ := rfl
theorem gu_MD_statements_puts (σ : tMD) (v : Int32) : gMD_statements (uMD_puts σ v) = gMD_statements σ := rfl
theorem gu_MD_statements_steps (σ : tMD) (v : Int32) : gMD_statements (uMD_steps σ v) = gMD_statements σ := rfl
theorem gu_MD_statements_toldStep (σ : tMD) (v : Nat → Int32) : gMD_statements (uMD_toldStep σ v) = gMD_statements σ := rfl
theorem gu_MD_statements_stepRow (σ : tMD) (v : Nat → Int32) : gMD_statements (uMD_stepRow σ v) = gMD_statements σ := rfl
theorem gu_MD_statements_isSaved (σ : tMD) (v : Nat → Int32) : gMD_statements (uMD_isSaved σ v) = gMD_statements σ := rfl
theorem gu_MD_statements_isTold (σ : tMD) (v : Nat → Int32) : gMD_statements (uMD_isTold σ v) = gMD_statements σ := rfl
theorem gu_MD_statements_savedNumber (σ : tMD) (v : Nat → Int32) : gMD_statements (uMD_savedNumber σ v) = gMD_statements σ := rfl
theorem gu_MD_statements_savedCount (σ : tMD) (v : Int32) : gMD_statements (uMD_savedCount σ v) = gMD_statements σ := rfl
theorem gu_MD_statements_labels (σ : tMD) (v : Nat → Int32) : gMD_statements (uMD_labels σ v) = gMD_statements σ := rfl
theorem gu_MD_statements_labelCount (σ : tMD) (v : Int32) : gMD_statements (uMD_labelCount σ v) = gMD_statements σ := rfl
theorem gu_MD_statements_letters (σ : tMD) (v : Nat → Int32) : gMD_statements (uMD_letters σ v) = gMD_statements σ := rfl
theorem gu_MD_statements_letterCount (σ : tMD) (v : Int32) : gMD_statements (uMD_letterCount σ v) = gMD_statements σ := rfl
theorem gu_MD_statements_saving (σ : tMD) (v : Nat → Int32) : gMD_statements (uMD_saving σ v) = gMD_statements σ := rfl
theorem gu_MD_statements_walk (σ : tMD) (v : Nat → Int32) : gMD_statements (uMD_walk σ v) = gMD_statements σ := rfl
theorem gu_MD_statements_walkAt (σ : tMD) (v : Nat → Int32) : gMD_statements (uMD_walkAt σ v) = gMD_statements σ := rfl
theorem gu_MD_takes_statements (σ : tMD) (v : Int32) : gMD_takes (uMD_statements σ v) = gMD_takes σ := rfl
theorem gu_MD_takes_takes (σ : tMD) (v : Nat → Int32) : gMD_takes (uMD_takes σ v) = v := rfl
theorem gu_MD_takes_mandatories (σ : tMD) (v : Nat → Int32) : gMD_takes (uMD_mandatories σ v) = gMD_takes σ := rfl
theorem gu_MD_takes_mandatoryCount (σ : tMD) (v : Int32) : gMD_takes (uMD_mandatoryCount σ v) = gMD_takes σ := rfl
theorem gu_MD_takes_rows (σ : tMD) (v : Int32) : gMD_takes (uMD_rows σ v) = gMD_takes σ := rfl
theorem gu_MD_takes_makers (σ : tMD) (v : Nat → Int32) : gMD_takes (uMD_makers σ v) = gMD_takes σ := rfl
theorem gu_MD_takes_fromAt (σ : tMD) (v : Nat → Int32) : gMD_takes (uMD_fromAt σ v) = gMD_takes σ := rfl
theorem gu_MD_takes_firstSame (σ : tMD) (v : Nat → Int32) : gMD_takes (uMD_firstSame σ v) = gMD_takes σ := rfl
theorem gu_MD_takes_sizes (σ : tMD) (v : Nat → Int64) : gMD_takes (uMD_sizes σ v) = gMD_takes σ := rfl
theorem gu_MD_takes_froms (σ : tMD) (v : Nat → Int32) : gMD_takes (uMD_froms σ v) = gMD_takes σ := rfl
theorem gu_MD_takes_fromCount (σ : tMD) (v : Int32) : gMD_takes (uMD_fromCount σ v) = gMD_takes σ := rfl
theorem gu_MD_takes_pile (σ : tMD) (v : Nat → Int32) : gMD_takes (uMD_pile σ v) = gMD_takes σ := rfl
theorem gu_MD_takes_piled (σ : tMD) (v : Int32) : gMD_takes (uMD_piled σ v) = gMD_takes σ := rfl
theorem gu_MD_takes_puts (σ : tMD) (v : Int32) : gMD_takes (uMD_puts σ v) = gMD_takes σ := rfl
theorem gu_MD_takes_steps (σ : tMD) (v : Int32) : gMD_takes (uMD_steps σ v) = gMD_takes σ := rfl
theorem gu_MD_takes_toldStep (σ : tMD) (v : Nat → Int32) : gMD_takes (uMD_toldStep σ v) = gMD_takes σ := rfl
theorem gu_MD_takes_stepRow (σ : tMD) (v : Nat → Int32) : gMD_takes (uMD_stepRow σ v) = gMD_takes σ := rfl
theorem gu_MD_takes_isSaved (σ : tMD) (v : Nat → Int32) : gMD_takes (uMD_isSaved σ v) = gMD_takes σ := rfl
theorem gu_MD_takes_isTold (σ : tMD) (v : Nat → Int32) : gMD_takes (uMD_isTold σ v) = gMD_takes σ := rfl
theorem gu_MD_takes_savedNumber (σ : tMD) (v : Nat → Int32) : gMD_takes (uMD_savedNumber σ v) = gMD_takes σ := rfl
theorem gu_MD_takes_savedCount (σ : tMD) (v : Int32) : gMD_takes (uMD_savedCount σ v) = gMD_takes σ := rfl
theorem gu_MD_takes_labels (σ : tMD) (v : Nat → Int32) : gMD_takes (uMD_labels σ v) = gMD_takes σ := rfl
theorem gu_MD_takes_labelCount (σ : tMD) (v : Int32) : gMD_takes (uMD_labelCount σ v) = gMD_takes σ := rfl
theorem gu_MD_takes_letters (σ : tMD) (v : Nat → Int32) : gMD_takes (uMD_letters σ v) = gMD_takes σ := rfl
theorem gu_MD_takes_letterCount (σ : tMD) (v : Int32) : gMD_takes (uMD_letterCount σ v) = gMD_takes σ := rfl
theorem gu_MD_takes_saving (σ : tMD) (v : Nat → Int32) : gMD_takes (uMD_saving σ v) = gMD_takes σ := rfl
theorem gu_MD_takes_walk (σ : tMD) (v : Nat → Int32) : gMD_takes (uMD_walk σ v) = gMD_takes σ := rfl
theorem gu_MD_takes_walkAt (σ : tMD) (v : Nat → Int32) : gMD_takes (uMD_walkAt σ v) = gMD_takes σ := rfl
theorem gu_MD_mandatories_statements (σ : tMD) (v : Int32) : gMD_mandatories (uMD_statements σ v) = gMD_mandatories σ := rfl
theorem gu_MD_mandatories_takes (σ : tMD) (v : Nat → Int32) : gMD_mandatories (uMD_takes σ v) = gMD_mandatories σ := rfl
theorem gu_MD_mandatories_mandatories (σ : tMD) (v : Nat → Int32) : gMD_mandatories (uMD_mandatories σ v) = v := rfl
theorem gu_MD_mandatories_mandatoryCount (σ : tMD) (v : Int32) : gMD_mandatories (uMD_mandatoryCount σ v) = gMD_mandatories σ := rfl
theorem gu_MD_mandatories_rows (σ : tMD) (v : Int32) : gMD_mandatories (uMD_rows σ v) = gMD_mandatories σ := rfl
theorem gu_MD_mandatories_makers (σ : tMD) (v : Nat → Int32) : gMD_mandatories (uMD_makers σ v) = gMD_mandatories σ := rfl
theorem gu_MD_mandatories_fromAt (σ : tMD) (v : Nat → Int32) : gMD_mandatories (uMD_fromAt σ v) = gMD_mandatories σ := rfl
theorem gu_MD_mandatories_firstSame (σ : tMD) (v : Nat → Int32) : gMD_mandatories (uMD_firstSame σ v) = gMD_mandatories σ := rfl
theorem gu_MD_mandatories_sizes (σ : tMD) (v : Nat → Int64) : gMD_mandatories (uMD_sizes σ v) = gMD_mandatories σ := rfl
theorem gu_MD_mandatories_froms (σ : tMD) (v : Nat → Int32) : gMD_mandatories (uMD_froms σ v) = gMD_mandatories σ := rfl
theorem gu_MD_mandatories_fromCount (σ : tMD) (v : Int32) : gMD_mandatories (uMD_fromCount σ v) = gMD_mandatories σ := rfl
theorem gu_MD_mandatories_pile (σ : tMD) (v : Nat → Int32) : gMD_mandatories (uMD_pile σ v) = gMD_mandatories σ := rfl
theorem gu_MD_mandatories_piled (σ : tMD) (v : Int32) : gMD_mandatories (uMD_piled σ v) = gMD_mandatories σ := rfl
theorem gu_MD_mandatories_puts (σ : tMD) (v : Int32) : gMD_mandatories (uMD_puts σ v) = gMD_mandatories σ := rfl
theorem gu_MD_mandatories_steps (σ : tMD) (v : Int32) : gMD_mandatories (uMD_steps σ v) = gMD_mandatories σ := rfl
theorem gu_MD_mandatories_toldStep (σ : tMD) (v : Nat → Int32) : gMD_mandatories (uMD_toldStep σ v) = gMD_mandatories σ := rfl
theorem gu_MD_mandatories_stepRow (σ : tMD) (v : Nat → Int32) : gMD_mandatories (uMD_stepRow σ v) = gMD_mandatories σ := rfl
theorem gu_MD_mandatories_isSaved (σ : tMD) (v : Nat → Int32) : gMD_mandatories (uMD_isSaved σ v) = gMD_mandatories σ := rfl
theorem gu_MD_mandatories_isTold (σ : tMD) (v : Nat → Int32) : gMD_mandatories (uMD_isTold σ v) = gMD_mandatories σ := rfl
theorem gu_MD_mandatories_savedNumber (σ : tMD) (v : Nat → Int32) : gMD_mandatories (uMD_savedNumber σ v) = gMD_mandatories σ := rfl
theorem gu_MD_mandatories_savedCount (σ : tMD) (v : Int32) : gMD_mandatories (uMD_savedCount σ v) = gMD_mandatories σ := rfl
theorem gu_MD_mandatories_labels (σ : tMD) (v : Nat → Int32) : gMD_mandatories (uMD_labels σ v) = gMD_mandatories σ := rfl
theorem gu_MD_mandatories_labelCount (σ : tMD) (v : Int32) : gMD_mandatories (uMD_labelCount σ v) = gMD_mandatories σ := rfl
theorem gu_MD_mandatories_letters (σ : tMD) (v : Nat → Int32) : gMD_mandatories (uMD_letters σ v) = gMD_mandatories σ := rfl
theorem gu_MD_mandatories_letterCount (σ : tMD) (v : Int32) : gMD_mandatories (uMD_letterCount σ v) = gMD_mandatories σ := rfl
theorem gu_MD_mandatories_saving (σ : tMD) (v : Nat → Int32) : gMD_mandatories (uMD_saving σ v) = gMD_mandatories σ := rfl
theorem gu_MD_mandatories_walk (σ : tMD) (v : Nat → Int32) : gMD_mandatories (uMD_walk σ v) = gMD_mandatories σ := rfl
theorem gu_MD_mandatories_walkAt (σ : tMD) (v : Nat → Int32) : gMD_mandatories (uMD_walkAt σ v) = gMD_mandatories σ := rfl
theorem gu_MD_mandatoryCount_statements (σ : tMD) (v : Int32) : gMD_mandatoryCount (uMD_statements σ v) = gMD_mandatoryCount σ := rfl
theorem gu_MD_mandatoryCount_takes (σ : tMD) (v : Nat → Int32) : gMD_mandatoryCount (uMD_takes σ v) = gMD_mandatoryCount σ := rfl
theorem gu_MD_mandatoryCount_mandatories (σ : tMD) (v : Nat → Int32) : gMD_mandatoryCount (uMD_mandatories σ v) = gMD_mandatoryCount σ := rfl
theorem gu_MD_mandatoryCount_mandatoryCount (σ : tMD) (v : Int32) : gMD_mandatoryCount (uMD_mandatoryCount σ v) = v := rfl
theorem gu_MD_mandatoryCount_rows (σ : tMD) (v : Int32) : gMD_mandatoryCount (uMD_rows σ v) = gMD_mandatoryCount σ := rfl
theorem gu_MD_mandatoryCount_makers (σ : tMD) (v : Nat → Int32) : gMD_mandatoryCount (uMD_makers σ v) = gMD_mandatoryCount σ := rfl
theorem gu_MD_mandatoryCount_fromAt (σ : tMD) (v : Nat → Int32) : gMD_mandatoryCount (uMD_fromAt σ v) = gMD_mandatoryCount σ := rfl
theorem gu_MD_mandatoryCount_firstSame (σ : tMD) (v : Nat → Int32) : gMD_mandatoryCount (uMD_firstSame σ v) = gMD_mandatoryCount σ := rfl
theorem gu_MD_mandatoryCount_sizes (σ : tMD) (v : Nat → Int64) : gMD_mandatoryCount (uMD_sizes σ v) = gMD_mandatoryCount σ := rfl
theorem gu_MD_mandatoryCount_froms (σ : tMD) (v : Nat → Int32) : gMD_mandatoryCount (uMD_froms σ v) = gMD_mandatoryCount σ := rfl
theorem gu_MD_mandatoryCount_fromCount (σ : tMD) (v : Int32) : gMD_mandatoryCount (uMD_fromCount σ v) = gMD_mandatoryCount σ := rfl
theorem gu_MD_mandatoryCount_pile (σ : tMD) (v : Nat → Int32) : gMD_mandatoryCount (uMD_pile σ v) = gMD_mandatoryCount σ := rfl
theorem gu_MD_mandatoryCount_piled (σ : tMD) (v : Int32) : gMD_mandatoryCount (uMD_piled σ v) = gMD_mandatoryCount σ := rfl
theorem gu_MD_mandatoryCount_puts (σ : tMD) (v : Int32) : gMD_mandatoryCount (uMD_puts σ v) = gMD_mandatoryCount σ := rfl
theorem gu_MD_mandatoryCount_steps (σ : tMD) (v : Int32) : gMD_mandatoryCount (uMD_steps σ v) = gMD_mandatoryCount σ := rfl
theorem gu_MD_mandatoryCount_toldStep (σ : tMD) (v : Nat → Int32) : gMD_mandatoryCount (uMD_toldStep σ v) = gMD_mandatoryCount σ := rfl
theorem gu_MD_mandatoryCount_stepRow (σ : tMD) (v : Nat → Int32) : gMD_mandatoryCount (uMD_stepRow σ v) = gMD_mandatoryCount σ := rfl
theorem gu_MD_mandatoryCount_isSaved (σ : tMD) (v : Nat → Int32) : gMD_mandatoryCount (uMD_isSaved σ v) = gMD_mandatoryCount σ := rfl
theorem gu_MD_mandatoryCount_isTold (σ : tMD) (v : Nat → Int32) : gMD_mandatoryCount (uMD_isTold σ v) = gMD_mandatoryCount σ := rfl
theorem gu_MD_mandatoryCount_savedNumber (σ : tMD) (v : Nat → Int32) : gMD_mandatoryCount (uMD_savedNumber σ v) = gMD_mandatoryCount σ := rfl
theorem gu_MD_mandatoryCount_savedCount (σ : tMD) (v : Int32) : gMD_mandatoryCount (uMD_savedCount σ v) = gMD_mandatoryCount σ := rfl
theorem gu_MD_mandatoryCount_labels (σ : tMD) (v : Nat → Int32) : gMD_mandatoryCount (uMD_labels σ v) = gMD_mandatoryCount σ := rfl
theorem gu_MD_mandatoryCount_labelCount (σ : tMD) (v : Int32) : gMD_mandatoryCount (uMD_labelCount σ v) = gMD_mandatoryCount σ := rfl
theorem gu_MD_mandatoryCount_letters (σ : tMD) (v : Nat → Int32) : gMD_mandatoryCount (uMD_letters σ v) = gMD_mandatoryCount σ := rfl
theorem gu_MD_mandatoryCount_letterCount (σ : tMD) (v : Int32) : gMD_mandatoryCount (uMD_letterCount σ v) = gMD_mandatoryCount σ := rfl
theorem gu_MD_mandatoryCount_saving (σ : tMD) (v : Nat → Int32) : gMD_mandatoryCount (uMD_saving σ v) = gMD_mandatoryCount σ := rfl
theorem gu_MD_mandatoryCount_walk (σ : tMD) (v : Nat → Int32) : gMD_mandatoryCount (uMD_walk σ v) = gMD_mandatoryCount σ := rfl
theorem gu_MD_mandatoryCount_walkAt (σ : tMD) (v : Nat → Int32) : gMD_mandatoryCount (uMD_walkAt σ v) = gMD_mandatoryCount σ := rfl
theorem gu_MD_rows_statements (σ : tMD) (v : Int32) : gMD_rows (uMD_statements σ v) = gMD_rows σ := rfl
theorem gu_MD_rows_takes (σ : tMD) (v : Nat → Int32) : gMD_rows (uMD_takes σ v) = gMD_rows σ := rfl
theorem gu_MD_rows_mandatories (σ : tMD) (v : Nat → Int32) : gMD_rows (uMD_mandatories σ v) = gMD_rows σ := rfl
theorem gu_MD_rows_mandatoryCount (σ : tMD) (v : Int32) : gMD_rows (uMD_mandatoryCount σ v) = gMD_rows σ := rfl
theorem gu_MD_rows_rows (σ : tMD) (v : Int32) : gMD_rows (uMD_rows σ v) = v := rfl
theorem gu_MD_rows_makers (σ : tMD) (v : Nat → Int32) : gMD_rows (uMD_makers σ v) = gMD_rows σ := rfl
theorem gu_MD_rows_fromAt (σ : tMD) (v : Nat → Int32) : gMD_rows (uMD_fromAt σ v) = gMD_rows σ := rfl
theorem gu_MD_rows_firstSame (σ : tMD) (v : Nat → Int32) : gMD_rows (uMD_firstSame σ v) = gMD_rows σ := rfl
theorem gu_MD_rows_sizes (σ : tMD) (v : Nat → Int64) : gMD_rows (uMD_sizes σ v) = gMD_rows σ := rfl
theorem gu_MD_rows_froms (σ : tMD) (v : Nat → Int32) : gMD_rows (uMD_froms σ v) = gMD_rows σ := rfl
theorem gu_MD_rows_fromCount (σ : tMD) (v : Int32) : gMD_rows (uMD_fromCount σ v) = gMD_rows σ := rfl
theorem gu_MD_rows_pile (σ : tMD) (v : Nat → Int32) : gMD_rows (uMD_pile σ v) = gMD_rows σ := rfl
theorem gu_MD_rows_piled (σ : tMD) (v : Int32) : gMD_rows (uMD_piled σ v) = gMD_rows σ := rfl
theorem gu_MD_rows_puts (σ : tMD) (v : Int32) : gMD_rows (uMD_puts σ v) = gMD_rows σ := rfl
theorem gu_MD_rows_steps (σ : tMD) (v : Int32) : gMD_rows (uMD_steps σ v) = gMD_rows σ := rfl
theorem gu_MD_rows_toldStep (σ : tMD) (v : Nat → Int32) : gMD_rows (uMD_toldStep σ v) = gMD_rows σ := rfl
theorem gu_MD_rows_stepRow (σ : tMD) (v : Nat → Int32) : gMD_rows (uMD_stepRow σ v) = gMD_rows σ := rfl
theorem gu_MD_rows_isSaved (σ : tMD) (v : Nat → Int32) : gMD_rows (uMD_isSaved σ v) = gMD_rows σ := rfl
theorem gu_MD_rows_isTold (σ : tMD) (v : Nat → Int32) : gMD_rows (uMD_isTold σ v) = gMD_rows σ := rfl
theorem gu_MD_rows_savedNumber (σ : tMD) (v : Nat → Int32) : gMD_rows (uMD_savedNumber σ v) = gMD_rows σ := rfl
theorem gu_MD_rows_savedCount (σ : tMD) (v : Int32) : gMD_rows (uMD_savedCount σ v) = gMD_rows σ := rfl
theorem gu_MD_rows_labels (σ : tMD) (v : Nat → Int32) : gMD_rows (uMD_labels σ v) = gMD_rows σ := rfl
theorem gu_MD_rows_labelCount (σ : tMD) (v : Int32) : gMD_rows (uMD_labelCount σ v) = gMD_rows σ := rfl
theorem gu_MD_rows_letters (σ : tMD) (v : Nat → Int32) : gMD_rows (uMD_letters σ v) = gMD_rows σ := rfl
theorem gu_MD_rows_letterCount (σ : tMD) (v : Int32) : gMD_rows (uMD_letterCount σ v) = gMD_rows σ := rfl
theorem gu_MD_rows_saving (σ : tMD) (v : Nat → Int32) : gMD_rows (uMD_saving σ v) = gMD_rows σ := rfl
theorem gu_MD_rows_walk (σ : tMD) (v : Nat → Int32) : gMD_rows (uMD_walk σ v) = gMD_rows σ := rfl
theorem gu_MD_rows_walkAt (σ : tMD) (v : Nat → Int32) : gMD_rows (uMD_walkAt σ v) = gMD_rows σ := rfl
theorem gu_MD_makers_statements (σ : tMD) (v : Int32) : gMD_makers (uMD_statements σ v) = gMD_makers σ := rfl
theorem gu_MD_makers_takes (σ : tMD) (v : Nat → Int32) : gMD_makers (uMD_takes σ v) = gMD_makers σ := rfl
theorem gu_MD_makers_mandatories (σ : tMD) (v : Nat → Int32) : gMD_makers (uMD_mandatories σ v) = gMD_makers σ := rfl
theorem gu_MD_makers_mandatoryCount (σ : tMD) (v : Int32) : gMD_makers (uMD_mandatoryCount σ v) = gMD_makers σ := rfl
theorem gu_MD_makers_rows (σ : tMD) (v : Int32) : gMD_makers (uMD_rows σ v) = gMD_makers σ := rfl
theorem gu_MD_makers_makers (σ : tMD) (v : Nat → Int32) : gMD_makers (uMD_makers σ v) = v := rfl
theorem gu_MD_makers_fromAt (σ : tMD) (v : Nat → Int32) : gMD_makers (uMD_fromAt σ v) = gMD_makers σ := rfl
theorem gu_MD_makers_firstSame (σ : tMD) (v : Nat → Int32) : gMD_makers (uMD_firstSame σ v) = gMD_makers σ := rfl
theorem gu_MD_makers_sizes (σ : tMD) (v : Nat → Int64) : gMD_makers (uMD_sizes σ v) = gMD_makers σ := rfl
theorem gu_MD_makers_froms (σ : tMD) (v : Nat → Int32) : gMD_makers (uMD_froms σ v) = gMD_makers σ := rfl
theorem gu_MD_makers_fromCount (σ : tMD) (v : Int32) : gMD_makers (uMD_fromCount σ v) = gMD_makers σ := rfl
theorem gu_MD_makers_pile (σ : tMD) (v : Nat → Int32) : gMD_makers (uMD_pile σ v) = gMD_makers σ := rfl
theorem gu_MD_makers_piled (σ : tMD) (v : Int32) : gMD_makers (uMD_piled σ v) = gMD_makers σ := rfl
theorem gu_MD_makers_puts (σ : tMD) (v : Int32) : gMD_makers (uMD_puts σ v) = gMD_makers σ := rfl
theorem gu_MD_makers_steps (σ : tMD) (v : Int32) : gMD_makers (uMD_steps σ v) = gMD_makers σ := rfl
theorem gu_MD_makers_toldStep (σ : tMD) (v : Nat → Int32) : gMD_makers (uMD_toldStep σ v) = gMD_makers σ := rfl
theorem gu_MD_makers_stepRow (σ : tMD) (v : Nat → Int32) : gMD_makers (uMD_stepRow σ v) = gMD_makers σ := rfl
theorem gu_MD_makers_isSaved (σ : tMD) (v : Nat → Int32) : gMD_makers (uMD_isSaved σ v) = gMD_makers σ := rfl
theorem gu_MD_makers_isTold (σ : tMD) (v : Nat → Int32) : gMD_makers (uMD_isTold σ v) = gMD_makers σ := rfl
theorem gu_MD_makers_savedNumber (σ : tMD) (v : Nat → Int32) : gMD_makers (uMD_savedNumber σ v) = gMD_makers σ := rfl
theorem gu_MD_makers_savedCount (σ : tMD) (v : Int32) : gMD_makers (uMD_savedCount σ v) = gMD_makers σ := rfl
theorem gu_MD_makers_labels (σ : tMD) (v : Nat → Int32) : gMD_makers (uMD_labels σ v) = gMD_makers σ := rfl
theorem gu_MD_makers_labelCount (σ : tMD) (v : Int32) : gMD_makers (uMD_labelCount σ v) = gMD_makers σ := rfl
theorem gu_MD_makers_letters (σ : tMD) (v : Nat → Int32) : gMD_makers (uMD_letters σ v) = gMD_makers σ := rfl
theorem gu_MD_makers_letterCount (σ : tMD) (v : Int32) : gMD_makers (uMD_letterCount σ v) = gMD_makers σ := rfl
theorem gu_MD_makers_saving (σ : tMD) (v : Nat → Int32) : gMD_makers (uMD_saving σ v) = gMD_makers σ := rfl
theorem gu_MD_makers_walk (σ : tMD) (v : Nat → Int32) : gMD_makers (uMD_walk σ v) = gMD_makers σ := rfl
theorem gu_MD_makers_walkAt (σ : tMD) (v : Nat → Int32) : gMD_makers (uMD_walkAt σ v) = gMD_makers σ := rfl
theorem gu_MD_fromAt_statements (σ : tMD) (v : Int32) : gMD_fromAt (uMD_statements σ v) = gMD_fromAt σ := rfl
theorem gu_MD_fromAt_takes (σ : tMD) (v : Nat → Int32) : gMD_fromAt (uMD_takes σ v) = gMD_fromAt σ := rfl
theorem gu_MD_fromAt_mandatories (σ : tMD) (v : Nat → Int32) : gMD_fromAt (uMD_mandatories σ v) = gMD_fromAt σ := rfl
theorem gu_MD_fromAt_mandatoryCount (σ : tMD) (v : Int32) : gMD_fromAt (uMD_mandatoryCount σ v) = gMD_fromAt σ := rfl
theorem gu_MD_fromAt_rows (σ : tMD) (v : Int32) : gMD_fromAt (uMD_rows σ v) = gMD_fromAt σ := rfl
theorem gu_MD_fromAt_makers (σ : tMD) (v : Nat → Int32) : gMD_fromAt (uMD_makers σ v) = gMD_fromAt σ := rfl
theorem gu_MD_fromAt_fromAt (σ : tMD) (v : Nat → Int32) : gMD_fromAt (uMD_fromAt σ v) = v := rfl
theorem gu_MD_fromAt_firstSame (σ : tMD) (v : Nat → Int32) : gMD_fromAt (uMD_firstSame σ v) = gMD_fromAt σ := rfl
theorem gu_MD_fromAt_sizes (σ : tMD) (v : Nat → Int64) : gMD_fromAt (uMD_sizes σ v) = gMD_fromAt σ := rfl
theorem gu_MD_fromAt_froms (σ : tMD) (v : Nat → Int32) : gMD_fromAt (uMD_froms σ v) = gMD_fromAt σ := rfl
theorem gu_MD_fromAt_fromCount (σ : tMD) (v : Int32) : gMD_fromAt (uMD_fromCount σ v) = gMD_fromAt σ := rfl
theorem gu_MD_fromAt_pile (σ : tMD) (v : Nat → Int32) : gMD_fromAt (uMD_pile σ v) = gMD_fromAt σ := rfl
theorem gu_MD_fromAt_piled (σ : tMD) (v : Int32) : gMD_fromAt (uMD_piled σ v) = gMD_fromAt σ := rfl
theorem gu_MD_fromAt_puts (σ : tMD) (v : Int32) : gMD_fromAt (uMD_puts σ v) = gMD_fromAt σ := rfl
theorem gu_MD_fromAt_steps (σ : tMD) (v : Int32) : gMD_fromAt (uMD_steps σ v) = gMD_fromAt σ := rfl
theorem gu_MD_fromAt_toldStep (σ : tMD) (v : Nat → Int32) : gMD_fromAt (uMD_toldStep σ v) = gMD_fromAt σ := rfl
theorem gu_MD_fromAt_stepRow (σ : tMD) (v : Nat → Int32) : gMD_fromAt (uMD_stepRow σ v) = gMD_fromAt σ := rfl
theorem gu_MD_fromAt_isSaved (σ : tMD) (v : Nat → Int32) : gMD_fromAt (uMD_isSaved σ v) = gMD_fromAt σ := rfl
theorem gu_MD_fromAt_isTold (σ : tMD) (v : Nat → Int32) : gMD_fromAt (uMD_isTold σ v) = gMD_fromAt σ := rfl
theorem gu_MD_fromAt_savedNumber (σ : tMD) (v : Nat → Int32) : gMD_fromAt (uMD_savedNumber σ v) = gMD_fromAt σ := rfl
theorem gu_MD_fromAt_savedCount (σ : tMD) (v : Int32) : gMD_fromAt (uMD_savedCount σ v) = gMD_fromAt σ := rfl
theorem gu_MD_fromAt_labels (σ : tMD) (v : Nat → Int32) : gMD_fromAt (uMD_labels σ v) = gMD_fromAt σ := rfl
theorem gu_MD_fromAt_labelCount (σ : tMD) (v : Int32) : gMD_fromAt (uMD_labelCount σ v) = gMD_fromAt σ := rfl
theorem gu_MD_fromAt_letters (σ : tMD) (v : Nat → Int32) : gMD_fromAt (uMD_letters σ v) = gMD_fromAt σ := rfl
theorem gu_MD_fromAt_letterCount (σ : tMD) (v : Int32) : gMD_fromAt (uMD_letterCount σ v) = gMD_fromAt σ := rfl
theorem gu_MD_fromAt_saving (σ : tMD) (v : Nat → Int32) : gMD_fromAt (uMD_saving σ v) = gMD_fromAt σ := rfl
theorem gu_MD_fromAt_walk (σ : tMD) (v : Nat → Int32) : gMD_fromAt (uMD_walk σ v) = gMD_fromAt σ := rfl
theorem gu_MD_fromAt_walkAt (σ : tMD) (v : Nat → Int32) : gMD_fromAt (uMD_walkAt σ v) = gMD_fromAt σ := rfl
theorem gu_MD_firstSame_statements (σ : tMD) (v : Int32) : gMD_firstSame (uMD_statements σ v) = gMD_firstSame σ := rfl
theorem gu_MD_firstSame_takes (σ : tMD) (v : Nat → Int32) : gMD_firstSame (uMD_takes σ v) = gMD_firstSame σ := rfl
theorem gu_MD_firstSame_mandatories (σ : tMD) (v : Nat → Int32) : gMD_firstSame (uMD_mandatories σ v) = gMD_firstSame σ := rfl
theorem gu_MD_firstSame_mandatoryCount (σ : tMD) (v : Int32) : gMD_firstSame (uMD_mandatoryCount σ v) = gMD_firstSame σ := rfl
theorem gu_MD_firstSame_rows (σ : tMD) (v : Int32) : gMD_firstSame (uMD_rows σ v) = gMD_firstSame σ := rfl
theorem gu_MD_firstSame_makers (σ : tMD) (v : Nat → Int32) : gMD_firstSame (uMD_makers σ v) = gMD_firstSame σ := rfl
theorem gu_MD_firstSame_fromAt (σ : tMD) (v : Nat → Int32) : gMD_firstSame (uMD_fromAt σ v) = gMD_firstSame σ := rfl
theorem gu_MD_firstSame_firstSame (σ : tMD) (v : Nat → Int32) : gMD_firstSame (uMD_firstSame σ v) = v := rfl
theorem gu_MD_firstSame_sizes (σ : tMD) (v : Nat → Int64) : gMD_firstSame (uMD_sizes σ v) = gMD_firstSame σ := rfl
theorem gu_MD_firstSame_froms (σ : tMD) (v : Nat → Int32) : gMD_firstSame (uMD_froms σ v) = gMD_firstSame σ := rfl
theorem gu_MD_firstSame_fromCount (σ : tMD) (v : Int32) : gMD_firstSame (uMD_fromCount σ v) = gMD_firstSame σ := rfl
theorem gu_MD_firstSame_pile (σ : tMD) (v : Nat → Int32) : gMD_firstSame (uMD_pile σ v) = gMD_firstSame σ := rfl
theorem gu_MD_firstSame_piled (σ : tMD) (v : Int32) : gMD_firstSame (uMD_piled σ v) = gMD_firstSame σ := rfl
theorem gu_MD_firstSame_puts (σ : tMD) (v : Int32) : gMD_firstSame (uMD_puts σ v) = gMD_firstSame σ := rfl
theorem gu_MD_firstSame_steps (σ : tMD) (v : Int32) : gMD_firstSame (uMD_steps σ v) = gMD_firstSame σ := rfl
theorem gu_MD_firstSame_toldStep (σ : tMD) (v : Nat → Int32) : gMD_firstSame (uMD_toldStep σ v) = gMD_firstSame σ := rfl
theorem gu_MD_firstSame_stepRow (σ : tMD) (v : Nat → Int32) : gMD_firstSame (uMD_stepRow σ v) = gMD_firstSame σ := rfl
theorem gu_MD_firstSame_isSaved (σ : tMD) (v : Nat → Int32) : gMD_firstSame (uMD_isSaved σ v) = gMD_firstSame σ := rfl
theorem gu_MD_firstSame_isTold (σ : tMD) (v : Nat → Int32) : gMD_firstSame (uMD_isTold σ v) = gMD_firstSame σ := rfl
theorem gu_MD_firstSame_savedNumber (σ : tMD) (v : Nat → Int32) : gMD_firstSame (uMD_savedNumber σ v) = gMD_firstSame σ := rfl
theorem gu_MD_firstSame_savedCount (σ : tMD) (v : Int32) : gMD_firstSame (uMD_savedCount σ v) = gMD_firstSame σ := rfl
theorem gu_MD_firstSame_labels (σ : tMD) (v : Nat → Int32) : gMD_firstSame (uMD_labels σ v) = gMD_firstSame σ := rfl
theorem gu_MD_firstSame_labelCount (σ : tMD) (v : Int32) : gMD_firstSame (uMD_labelCount σ v) = gMD_firstSame σ := rfl
theorem gu_MD_firstSame_letters (σ : tMD) (v : Nat → Int32) : gMD_firstSame (uMD_letters σ v) = gMD_firstSame σ := rfl
theorem gu_MD_firstSame_letterCount (σ : tMD) (v : Int32) : gMD_firstSame (uMD_letterCount σ v) = gMD_firstSame σ := rfl
theorem gu_MD_firstSame_saving (σ : tMD) (v : Nat → Int32) : gMD_firstSame (uMD_saving σ v) = gMD_firstSame σ := rfl
theorem gu_MD_firstSame_walk (σ : tMD) (v : Nat → Int32) : gMD_firstSame (uMD_walk σ v) = gMD_firstSame σ := rfl
theorem gu_MD_firstSame_walkAt (σ : tMD) (v : Nat → Int32) : gMD_firstSame (uMD_walkAt σ v) = gMD_firstSame σ := rfl
theorem gu_MD_sizes_statements (σ : tMD) (v : Int32) : gMD_sizes (uMD_statements σ v) = gMD_sizes σ := rfl
theorem gu_MD_sizes_takes (σ : tMD) (v : Nat → Int32) : gMD_sizes (uMD_takes σ v) = gMD_sizes σ := rfl
theorem gu_MD_sizes_mandatories (σ : tMD) (v : Nat → Int32) : gMD_sizes (uMD_mandatories σ v) = gMD_sizes σ := rfl
theorem gu_MD_sizes_mandatoryCount (σ : tMD) (v : Int32) : gMD_sizes (uMD_mandatoryCount σ v) = gMD_sizes σ := rfl
theorem gu_MD_sizes_rows (σ : tMD) (v : Int32) : gMD_sizes (uMD_rows σ v) = gMD_sizes σ := rfl
theorem gu_MD_sizes_makers (σ : tMD) (v : Nat → Int32) : gMD_sizes (uMD_makers σ v) = gMD_sizes σ := rfl
theorem gu_MD_sizes_fromAt (σ : tMD) (v : Nat → Int32) : gMD_sizes (uMD_fromAt σ v) = gMD_sizes σ := rfl
theorem gu_MD_sizes_firstSame (σ : tMD) (v : Nat → Int32) : gMD_sizes (uMD_firstSame σ v) = gMD_sizes σ := rfl
theorem gu_MD_sizes_sizes (σ : tMD) (v : Nat → Int64) : gMD_sizes (uMD_sizes σ v) = v := rfl
theorem gu_MD_sizes_froms (σ : tMD) (v : Nat → Int32) : gMD_sizes (uMD_froms σ v) = gMD_sizes σ := rfl
theorem gu_MD_sizes_fromCount (σ : tMD) (v : Int32) : gMD_sizes (uMD_fromCount σ v) = gMD_sizes σ := rfl
theorem gu_MD_sizes_pile (σ : tMD) (v : Nat → Int32) : gMD_sizes (uMD_pile σ v) = gMD_sizes σ := rfl
theorem gu_MD_sizes_piled (σ : tMD) (v : Int32) : gMD_sizes (uMD_piled σ v) = gMD_sizes σ := rfl
theorem gu_MD_sizes_puts (σ : tMD) (v : Int32) : gMD_sizes (uMD_puts σ v) = gMD_sizes σ := rfl
theorem gu_MD_sizes_steps (σ : tMD) (v : Int32) : gMD_sizes (uMD_steps σ v) = gMD_sizes σ := rfl
theorem gu_MD_sizes_toldStep (σ : tMD) (v : Nat → Int32) : gMD_sizes (uMD_toldStep σ v) = gMD_sizes σ := rfl
theorem gu_MD_sizes_stepRow (σ : tMD) (v : Nat → Int32) : gMD_sizes (uMD_stepRow σ v) = gMD_sizes σ := rfl
theorem gu_MD_sizes_isSaved (σ : tMD) (v : Nat → Int32) : gMD_sizes (uMD_isSaved σ v) = gMD_sizes σ := rfl
theorem gu_MD_sizes_isTold (σ : tMD) (v : Nat → Int32) : gMD_sizes (uMD_isTold σ v) = gMD_sizes σ := rfl
theorem gu_MD_sizes_savedNumber (σ : tMD) (v : Nat → Int32) : gMD_sizes (uMD_savedNumber σ v) = gMD_sizes σ := rfl
theorem gu_MD_sizes_savedCount (σ : tMD) (v : Int32) : gMD_sizes (uMD_savedCount σ v) = gMD_sizes σ := rfl
theorem gu_MD_sizes_labels (σ : tMD) (v : Nat → Int32) : gMD_sizes (uMD_labels σ v) = gMD_sizes σ := rfl
theorem gu_MD_sizes_labelCount (σ : tMD) (v : Int32) : gMD_sizes (uMD_labelCount σ v) = gMD_sizes σ := rfl
theorem gu_MD_sizes_letters (σ : tMD) (v : Nat → Int32) : gMD_sizes (uMD_letters σ v) = gMD_sizes σ := rfl
theorem gu_MD_sizes_letterCount (σ : tMD) (v : Int32) : gMD_sizes (uMD_letterCount σ v) = gMD_sizes σ := rfl
theorem gu_MD_sizes_saving (σ : tMD) (v : Nat → Int32) : gMD_sizes (uMD_saving σ v) = gMD_sizes σ := rfl
theorem gu_MD_sizes_walk (σ : tMD) (v : Nat → Int32) : gMD_sizes (uMD_walk σ v) = gMD_sizes σ := rfl
theorem gu_MD_sizes_walkAt (σ : tMD) (v : Nat → Int32) : gMD_sizes (uMD_walkAt σ v) = gMD_sizes σ := rfl
theorem gu_MD_froms_statements (σ : tMD) (v : Int32) : gMD_froms (uMD_statements σ v) = gMD_froms σ := rfl
theorem gu_MD_froms_takes (σ : tMD) (v : Nat → Int32) : gMD_froms (uMD_takes σ v) = gMD_froms σ := rfl
theorem gu_MD_froms_mandatories (σ : tMD) (v : Nat → Int32) : gMD_froms (uMD_mandatories σ v) = gMD_froms σ := rfl
theorem gu_MD_froms_mandatoryCount (σ : tMD) (v : Int32) : gMD_froms (uMD_mandatoryCount σ v) = gMD_froms σ := rfl
theorem gu_MD_froms_rows (σ : tMD) (v : Int32) : gMD_froms (uMD_rows σ v) = gMD_froms σ := rfl
theorem gu_MD_froms_makers (σ : tMD) (v : Nat → Int32) : gMD_froms (uMD_makers σ v) = gMD_froms σ := rfl
theorem gu_MD_froms_fromAt (σ : tMD) (v : Nat → Int32) : gMD_froms (uMD_fromAt σ v) = gMD_froms σ := rfl
theorem gu_MD_froms_firstSame (σ : tMD) (v : Nat → Int32) : gMD_froms (uMD_firstSame σ v) = gMD_froms σ := rfl
theorem gu_MD_froms_sizes (σ : tMD) (v : Nat → Int64) : gMD_froms (uMD_sizes σ v) = gMD_froms σ := rfl
theorem gu_MD_froms_froms (σ : tMD) (v : Nat → Int32) : gMD_froms (uMD_froms σ v) = v := rfl
theorem gu_MD_froms_fromCount (σ : tMD) (v : Int32) : gMD_froms (uMD_fromCount σ v) = gMD_froms σ := rfl
theorem gu_MD_froms_pile (σ : tMD) (v : Nat → Int32) : gMD_froms (uMD_pile σ v) = gMD_froms σ := rfl
theorem gu_MD_froms_piled (σ : tMD) (v : Int32) : gMD_froms (uMD_piled σ v) = gMD_froms σ := rfl
theorem gu_MD_froms_puts (σ : tMD) (v : Int32) : gMD_froms (uMD_puts σ v) = gMD_froms σ := rfl
theorem gu_MD_froms_steps (σ : tMD) (v : Int32) : gMD_froms (uMD_steps σ v) = gMD_froms σ := rfl
theorem gu_MD_froms_toldStep (σ : tMD) (v : Nat → Int32) : gMD_froms (uMD_toldStep σ v) = gMD_froms σ := rfl
theorem gu_MD_froms_stepRow (σ : tMD) (v : Nat → Int32) : gMD_froms (uMD_stepRow σ v) = gMD_froms σ := rfl
theorem gu_MD_froms_isSaved (σ : tMD) (v : Nat → Int32) : gMD_froms (uMD_isSaved σ v) = gMD_froms σ := rfl
theorem gu_MD_froms_isTold (σ : tMD) (v : Nat → Int32) : gMD_froms (uMD_isTold σ v) = gMD_froms σ := rfl
theorem gu_MD_froms_savedNumber (σ : tMD) (v : Nat → Int32) : gMD_froms (uMD_savedNumber σ v) = gMD_froms σ := rfl
theorem gu_MD_froms_savedCount (σ : tMD) (v : Int32) : gMD_froms (uMD_savedCount σ v) = gMD_froms σ := rfl
theorem gu_MD_froms_labels (σ : tMD) (v : Nat → Int32) : gMD_froms (uMD_labels σ v) = gMD_froms σ := rfl
theorem gu_MD_froms_labelCount (σ : tMD) (v : Int32) : gMD_froms (uMD_labelCount σ v) = gMD_froms σ := rfl
theorem gu_MD_froms_letters (σ : tMD) (v : Nat → Int32) : gMD_froms (uMD_letters σ v) = gMD_froms σ := rfl
theorem gu_MD_froms_letterCount (σ : tMD) (v : Int32) : gMD_froms (uMD_letterCount σ v) = gMD_froms σ := rfl
theorem gu_MD_froms_saving (σ : tMD) (v : Nat → Int32) : gMD_froms (uMD_saving σ v) = gMD_froms σ := rfl
theorem gu_MD_froms_walk (σ : tMD) (v : Nat → Int32) : gMD_froms (uMD_walk σ v) = gMD_froms σ := rfl
theorem gu_MD_froms_walkAt (σ : tMD) (v : Nat → Int32) : gMD_froms (uMD_walkAt σ v) = gMD_froms σ := rfl
theorem gu_MD_fromCount_statements (σ : tMD) (v : Int32) : gMD_fromCount (uMD_statements σ v) = gMD_fromCount σ := rfl
theorem gu_MD_fromCount_takes (σ : tMD) (v : Nat → Int32) : gMD_fromCount (uMD_takes σ v) = gMD_fromCount σ := rfl
theorem gu_MD_fromCount_mandatories (σ : tMD) (v : Nat → Int32) : gMD_fromCount (uMD_mandatories σ v) = gMD_fromCount σ := rfl
theorem gu_MD_fromCount_mandatoryCount (σ : tMD) (v : Int32) : gMD_fromCount (uMD_mandatoryCount σ v) = gMD_fromCount σ := rfl
theorem gu_MD_fromCount_rows (σ : tMD) (v : Int32) : gMD_fromCount (uMD_rows σ v) = gMD_fromCount σ := rfl
theorem gu_MD_fromCount_makers (σ : tMD) (v : Nat → Int32) : gMD_fromCount (uMD_makers σ v) = gMD_fromCount σ := rfl
theorem gu_MD_fromCount_fromAt (σ : tMD) (v : Nat → Int32) : gMD_fromCount (uMD_fromAt σ v) = gMD_fromCount σ := rfl
theorem gu_MD_fromCount_firstSame (σ : tMD) (v : Nat → Int32) : gMD_fromCount (uMD_firstSame σ v) = gMD_fromCount σ := rfl
theorem gu_MD_fromCount_sizes (σ : tMD) (v : Nat → Int64) : gMD_fromCount (uMD_sizes σ v) = gMD_fromCount σ := rfl
theorem gu_MD_fromCount_froms (σ : tMD) (v : Nat → Int32) : gMD_fromCount (uMD_froms σ v) = gMD_fromCount σ := rfl
theorem gu_MD_fromCount_fromCount (σ : tMD) (v : Int32) : gMD_fromCount (uMD_fromCount σ v) = v := rfl
theorem gu_MD_fromCount_pile (σ : tMD) (v : Nat → Int32) : gMD_fromCount (uMD_pile σ v) = gMD_fromCount σ := rfl
theorem gu_MD_fromCount_piled (σ : tMD) (v : Int32) : gMD_fromCount (uMD_piled σ v) = gMD_fromCount σ := rfl
theorem gu_MD_fromCount_puts (σ : tMD) (v : Int32) : gMD_fromCount (uMD_puts σ v) = gMD_fromCount σ := rfl
theorem gu_MD_fromCount_steps (σ : tMD) (v : Int32) : gMD_fromCount (uMD_steps σ v) = gMD_fromCount σ := rfl
theorem gu_MD_fromCount_toldStep (σ : tMD) (v : Nat → Int32) : gMD_fromCount (uMD_toldStep σ v) = gMD_fromCount σ := rfl
theorem gu_MD_fromCount_stepRow (σ : tMD) (v : Nat → Int32) : gMD_fromCount (uMD_stepRow σ v) = gMD_fromCount σ := rfl
theorem gu_MD_fromCount_isSaved (σ : tMD) (v : Nat → Int32) : gMD_fromCount (uMD_isSaved σ v) = gMD_fromCount σ := rfl
theorem gu_MD_fromCount_isTold (σ : tMD) (v : Nat → Int32) : gMD_fromCount (uMD_isTold σ v) = gMD_fromCount σ := rfl
theorem gu_MD_fromCount_savedNumber (σ : tMD) (v : Nat → Int32) : gMD_fromCount (uMD_savedNumber σ v) = gMD_fromCount σ := rfl
theorem gu_MD_fromCount_savedCount (σ : tMD) (v : Int32) : gMD_fromCount (uMD_savedCount σ v) = gMD_fromCount σ := rfl
theorem gu_MD_fromCount_labels (σ : tMD) (v : Nat → Int32) : gMD_fromCount (uMD_labels σ v) = gMD_fromCount σ := rfl
theorem gu_MD_fromCount_labelCount (σ : tMD) (v : Int32) : gMD_fromCount (uMD_labelCount σ v) = gMD_fromCount σ := rfl
theorem gu_MD_fromCount_letters (σ : tMD) (v : Nat → Int32) : gMD_fromCount (uMD_letters σ v) = gMD_fromCount σ := rfl
theorem gu_MD_fromCount_letterCount (σ : tMD) (v : Int32) : gMD_fromCount (uMD_letterCount σ v) = gMD_fromCount σ := rfl
theorem gu_MD_fromCount_saving (σ : tMD) (v : Nat → Int32) : gMD_fromCount (uMD_saving σ v) = gMD_fromCount σ := rfl
theorem gu_MD_fromCount_walk (σ : tMD) (v : Nat → Int32) : gMD_fromCount (uMD_walk σ v) = gMD_fromCount σ := rfl
theorem gu_MD_fromCount_walkAt (σ : tMD) (v : Nat → Int32) : gMD_fromCount (uMD_walkAt σ v) = gMD_fromCount σ := rfl
theorem gu_MD_pile_statements (σ : tMD) (v : Int32) : gMD_pile (uMD_statements σ v) = gMD_pile σ := rfl
theorem gu_MD_pile_takes (σ : tMD) (v : Nat → Int32) : gMD_pile (uMD_takes σ v) = gMD_pile σ := rfl
theorem gu_MD_pile_mandatories (σ : tMD) (v : Nat → Int32) : gMD_pile (uMD_mandatories σ v) = gMD_pile σ := rfl
theorem gu_MD_pile_mandatoryCount (σ : tMD) (v : Int32) : gMD_pile (uMD_mandatoryCount σ v) = gMD_pile σ := rfl
theorem gu_MD_pile_rows (σ : tMD) (v : Int32) : gMD_pile (uMD_rows σ v) = gMD_pile σ := rfl
theorem gu_MD_pile_makers (σ : tMD) (v : Nat → Int32) : gMD_pile (uMD_makers σ v) = gMD_pile σ := rfl
theorem gu_MD_pile_fromAt (σ : tMD) (v : Nat → Int32) : gMD_pile (uMD_fromAt σ v) = gMD_pile σ := rfl
theorem gu_MD_pile_firstSame (σ : tMD) (v : Nat → Int32) : gMD_pile (uMD_firstSame σ v) = gMD_pile σ := rfl
theorem gu_MD_pile_sizes (σ : tMD) (v : Nat → Int64) : gMD_pile (uMD_sizes σ v) = gMD_pile σ := rfl
theorem gu_MD_pile_froms (σ : tMD) (v : Nat → Int32) : gMD_pile (uMD_froms σ v) = gMD_pile σ := rfl
theorem gu_MD_pile_fromCount (σ : tMD) (v : Int32) : gMD_pile (uMD_fromCount σ v) = gMD_pile σ := rfl
theorem gu_MD_pile_pile (σ : tMD) (v : Nat → Int32) : gMD_pile (uMD_pile σ v) = v := rfl
theorem gu_MD_pile_piled (σ : tMD) (v : Int32) : gMD_pile (uMD_piled σ v) = gMD_pile σ := rfl
theorem gu_MD_pile_puts (σ : tMD) (v : Int32) : gMD_pile (uMD_puts σ v) = gMD_pile σ := rfl
theorem gu_MD_pile_steps (σ : tMD) (v : Int32) : gMD_pile (uMD_steps σ v) = gMD_pile σ := rfl
theorem gu_MD_pile_toldStep (σ : tMD) (v : Nat → Int32) : gMD_pile (uMD_toldStep σ v) = gMD_pile σ := rfl
theorem gu_MD_pile_stepRow (σ : tMD) (v : Nat → Int32) : gMD_pile (uMD_stepRow σ v) = gMD_pile σ := rfl
theorem gu_MD_pile_isSaved (σ : tMD) (v : Nat → Int32) : gMD_pile (uMD_isSaved σ v) = gMD_pile σ := rfl
theorem gu_MD_pile_isTold (σ : tMD) (v : Nat → Int32) : gMD_pile (uMD_isTold σ v) = gMD_pile σ := rfl
theorem gu_MD_pile_savedNumber (σ : tMD) (v : Nat → Int32) : gMD_pile (uMD_savedNumber σ v) = gMD_pile σ := rfl
theorem gu_MD_pile_savedCount (σ : tMD) (v : Int32) : gMD_pile (uMD_savedCount σ v) = gMD_pile σ := rfl
theorem gu_MD_pile_labels (σ : tMD) (v : Nat → Int32) : gMD_pile (uMD_labels σ v) = gMD_pile σ := rfl
theorem gu_MD_pile_labelCount (σ : tMD) (v : Int32) : gMD_pile (uMD_labelCount σ v) = gMD_pile σ := rfl
theorem gu_MD_pile_letters (σ : tMD) (v : Nat → Int32) : gMD_pile (uMD_letters σ v) = gMD_pile σ := rfl
theorem gu_MD_pile_letterCount (σ : tMD) (v : Int32) : gMD_pile (uMD_letterCount σ v) = gMD_pile σ := rfl
theorem gu_MD_pile_saving (σ : tMD) (v : Nat → Int32) : gMD_pile (uMD_saving σ v) = gMD_pile σ := rfl
theorem gu_MD_pile_walk (σ : tMD) (v : Nat → Int32) : gMD_pile (uMD_walk σ v) = gMD_pile σ := rfl
theorem gu_MD_pile_walkAt (σ : tMD) (v : Nat → Int32) : gMD_pile (uMD_walkAt σ v) = gMD_pile σ := rfl
theorem gu_MD_piled_statements (σ : tMD) (v : Int32) : gMD_piled (uMD_statements σ v) = gMD_piled σ := rfl
theorem gu_MD_piled_takes (σ : tMD) (v : Nat → Int32) : gMD_piled (uMD_takes σ v) = gMD_piled σ := rfl
theorem gu_MD_piled_mandatories (σ : tMD) (v : Nat → Int32) : gMD_piled (uMD_mandatories σ v) = gMD_piled σ := rfl
theorem gu_MD_piled_mandatoryCount (σ : tMD) (v : Int32) : gMD_piled (uMD_mandatoryCount σ v) = gMD_piled σ := rfl
theorem gu_MD_piled_rows (σ : tMD) (v : Int32) : gMD_piled (uMD_rows σ v) = gMD_piled σ := rfl
theorem gu_MD_piled_makers (σ : tMD) (v : Nat → Int32) : gMD_piled (uMD_makers σ v) = gMD_piled σ := rfl
theorem gu_MD_piled_fromAt (σ : tMD) (v : Nat → Int32) : gMD_piled (uMD_fromAt σ v) = gMD_piled σ := rfl
theorem gu_MD_piled_firstSame (σ : tMD) (v : Nat → Int32) : gMD_piled (uMD_firstSame σ v) = gMD_piled σ := rfl
theorem gu_MD_piled_sizes (σ : tMD) (v : Nat → Int64) : gMD_piled (uMD_sizes σ v) = gMD_piled σ := rfl
theorem gu_MD_piled_froms (σ : tMD) (v : Nat → Int32) : gMD_piled (uMD_froms σ v) = gMD_piled σ := rfl
theorem gu_MD_piled_fromCount (σ : tMD) (v : Int32) : gMD_piled (uMD_fromCount σ v) = gMD_piled σ := rfl
theorem gu_MD_piled_pile (σ : tMD) (v : Nat → Int32) : gMD_piled (uMD_pile σ v) = gMD_piled σ := rfl
theorem gu_MD_piled_piled (σ : tMD) (v : Int32) : gMD_piled (uMD_piled σ v) = v := rfl
theorem gu_MD_piled_puts (σ : tMD) (v : Int32) : gMD_piled (uMD_puts σ v) = gMD_piled σ := rfl
theorem gu_MD_piled_steps (σ : tMD) (v : Int32) : gMD_piled (uMD_steps σ v) = gMD_piled σ := rfl
theorem gu_MD_piled_toldStep (σ : tMD) (v : Nat → Int32) : gMD_piled (uMD_toldStep σ v) = gMD_piled σ := rfl
theorem gu_MD_piled_stepRow (σ : tMD) (v : Nat → Int32) : gMD_piled (uMD_stepRow σ v) = gMD_piled σ := rfl
theorem gu_MD_piled_isSaved (σ : tMD) (v : Nat → Int32) : gMD_piled (uMD_isSaved σ v) = gMD_piled σ := rfl
theorem gu_MD_piled_isTold (σ : tMD) (v : Nat → Int32) : gMD_piled (uMD_isTold σ v) = gMD_piled σ := rfl
theorem gu_MD_piled_savedNumber (σ : tMD) (v : Nat → Int32) : gMD_piled (uMD_savedNumber σ v) = gMD_piled σ := rfl
theorem gu_MD_piled_savedCount (σ : tMD) (v : Int32) : gMD_piled (uMD_savedCount σ v) = gMD_piled σ := rfl
theorem gu_MD_piled_labels (σ : tMD) (v : Nat → Int32) : gMD_piled (uMD_labels σ v) = gMD_piled σ := rfl
theorem gu_MD_piled_labelCount (σ : tMD) (v : Int32) : gMD_piled (uMD_labelCount σ v) = gMD_piled σ := rfl
theorem gu_MD_piled_letters (σ : tMD) (v : Nat → Int32) : gMD_piled (uMD_letters σ v) = gMD_piled σ := rfl
theorem gu_MD_piled_letterCount (σ : tMD) (v : Int32) : gMD_piled (uMD_letterCount σ v) = gMD_piled σ := rfl
theorem gu_MD_piled_saving (σ : tMD) (v : Nat → Int32) : gMD_piled (uMD_saving σ v) = gMD_piled σ := rfl
theorem gu_MD_piled_walk (σ : tMD) (v : Nat → Int32) : gMD_piled (uMD_walk σ v) = gMD_piled σ := rfl
theorem gu_MD_piled_walkAt (σ : tMD) (v : Nat → Int32) : gMD_piled (uMD_walkAt σ v) = gMD_piled σ := rfl
theorem gu_MD_puts_statements (σ : tMD) (v : Int32) : gMD_puts (uMD_statements σ v) = gMD_puts σ := rfl
theorem gu_MD_puts_takes (σ : tMD) (v : Nat → Int32) : gMD_puts (uMD_takes σ v) = gMD_puts σ := rfl
theorem gu_MD_puts_mandatories (σ : tMD) (v : Nat → Int32) : gMD_puts (uMD_mandatories σ v) = gMD_puts σ := rfl
theorem gu_MD_puts_mandatoryCount (σ : tMD) (v : Int32) : gMD_puts (uMD_mandatoryCount σ v) = gMD_puts σ := rfl
theorem gu_MD_puts_rows (σ : tMD) (v : Int32) : gMD_puts (uMD_rows σ v) = gMD_puts σ := rfl
theorem gu_MD_puts_makers (σ : tMD) (v : Nat → Int32) : gMD_puts (uMD_makers σ v) = gMD_puts σ := rfl
theorem gu_MD_puts_fromAt (σ : tMD) (v : Nat → Int32) : gMD_puts (uMD_fromAt σ v) = gMD_puts σ := rfl
theorem gu_MD_puts_firstSame (σ : tMD) (v : Nat → Int32) : gMD_puts (uMD_firstSame σ v) = gMD_puts σ := rfl
theorem gu_MD_puts_sizes (σ : tMD) (v : Nat → Int64) : gMD_puts (uMD_sizes σ v) = gMD_puts σ := rfl
theorem gu_MD_puts_froms (σ : tMD) (v : Nat → Int32) : gMD_puts (uMD_froms σ v) = gMD_puts σ := rfl
theorem gu_MD_puts_fromCount (σ : tMD) (v : Int32) : gMD_puts (uMD_fromCount σ v) = gMD_puts σ := rfl
theorem gu_MD_puts_pile (σ : tMD) (v : Nat → Int32) : gMD_puts (uMD_pile σ v) = gMD_puts σ := rfl
theorem gu_MD_puts_piled (σ : tMD) (v : Int32) : gMD_puts (uMD_piled σ v) = gMD_puts σ := rfl
theorem gu_MD_puts_puts (σ : tMD) (v : Int32) : gMD_puts (uMD_puts σ v) = v := rfl
theorem gu_MD_puts_steps (σ : tMD) (v : Int32) : gMD_puts (uMD_steps σ v) = gMD_puts σ := rfl
theorem gu_MD_puts_toldStep (σ : tMD) (v : Nat → Int32) : gMD_puts (uMD_toldStep σ v) = gMD_puts σ := rfl
theorem gu_MD_puts_stepRow (σ : tMD) (v : Nat → Int32) : gMD_puts (uMD_stepRow σ v) = gMD_puts σ := rfl
theorem gu_MD_puts_isSaved (σ : tMD) (v : Nat → Int32) : gMD_puts (uMD_isSaved σ v) = gMD_puts σ := rfl
theorem gu_MD_puts_isTold (σ : tMD) (v : Nat → Int32) : gMD_puts (uMD_isTold σ v) = gMD_puts σ := rfl
theorem gu_MD_puts_savedNumber (σ : tMD) (v : Nat → Int32) : gMD_puts (uMD_savedNumber σ v) = gMD_puts σ := rfl
theorem gu_MD_puts_savedCount (σ : tMD) (v : Int32) : gMD_puts (uMD_savedCount σ v) = gMD_puts σ := rfl
theorem gu_MD_puts_labels (σ : tMD) (v : Nat → Int32) : gMD_puts (uMD_labels σ v) = gMD_puts σ := rfl
theorem gu_MD_puts_labelCount (σ : tMD) (v : Int32) : gMD_puts (uMD_labelCount σ v) = gMD_puts σ := rfl
theorem gu_MD_puts_letters (σ : tMD) (v : Nat → Int32) : gMD_puts (uMD_letters σ v) = gMD_puts σ := rfl
theorem gu_MD_puts_letterCount (σ : tMD) (v : Int32) : gMD_puts (uMD_letterCount σ v) = gMD_puts σ := rfl
theorem gu_MD_puts_saving (σ : tMD) (v : Nat → Int32) : gMD_puts (uMD_saving σ v) = gMD_puts σ := rfl
theorem gu_MD_puts_walk (σ : tMD) (v : Nat → Int32) : gMD_puts (uMD_walk σ v) = gMD_puts σ := rfl
theorem gu_MD_puts_walkAt (σ : tMD) (v : Nat → Int32) : gMD_puts (uMD_walkAt σ v) = gMD_puts σ := rfl
theorem gu_MD_steps_statements (σ : tMD) (v : Int32) : gMD_steps (uMD_statements σ v) = gMD_steps σ := rfl
theorem gu_MD_steps_takes (σ : tMD) (v : Nat → Int32) : gMD_steps (uMD_takes σ v) = gMD_steps σ := rfl
theorem gu_MD_steps_mandatories (σ : tMD) (v : Nat → Int32) : gMD_steps (uMD_mandatories σ v) = gMD_steps σ := rfl
theorem gu_MD_steps_mandatoryCount (σ : tMD) (v : Int32) : gMD_steps (uMD_mandatoryCount σ v) = gMD_steps σ := rfl
theorem gu_MD_steps_rows (σ : tMD) (v : Int32) : gMD_steps (uMD_rows σ v) = gMD_steps σ := rfl
theorem gu_MD_steps_makers (σ : tMD) (v : Nat → Int32) : gMD_steps (uMD_makers σ v) = gMD_steps σ := rfl
theorem gu_MD_steps_fromAt (σ : tMD) (v : Nat → Int32) : gMD_steps (uMD_fromAt σ v) = gMD_steps σ := rfl
theorem gu_MD_steps_firstSame (σ : tMD) (v : Nat → Int32) : gMD_steps (uMD_firstSame σ v) = gMD_steps σ := rfl
theorem gu_MD_steps_sizes (σ : tMD) (v : Nat → Int64) : gMD_steps (uMD_sizes σ v) = gMD_steps σ := rfl
theorem gu_MD_steps_froms (σ : tMD) (v : Nat → Int32) : gMD_steps (uMD_froms σ v) = gMD_steps σ := rfl
theorem gu_MD_steps_fromCount (σ : tMD) (v : Int32) : gMD_steps (uMD_fromCount σ v) = gMD_steps σ := rfl
theorem gu_MD_steps_pile (σ : tMD) (v : Nat → Int32) : gMD_steps (uMD_pile σ v) = gMD_steps σ := rfl
theorem gu_MD_steps_piled (σ : tMD) (v : Int32) : gMD_steps (uMD_piled σ v) = gMD_steps σ := rfl
theorem gu_MD_steps_puts (σ : tMD) (v : Int32) : gMD_steps (uMD_puts σ v) = gMD_steps σ := rfl
theorem gu_MD_steps_steps (σ : tMD) (v : Int32) : gMD_steps (uMD_steps σ v) = v := rfl
theorem gu_MD_steps_toldStep (σ : tMD) (v : Nat → Int32) : gMD_steps (uMD_toldStep σ v) = gMD_steps σ := rfl
theorem gu_MD_steps_stepRow (σ : tMD) (v : Nat → Int32) : gMD_steps (uMD_stepRow σ v) = gMD_steps σ := rfl
theorem gu_MD_steps_isSaved (σ : tMD) (v : Nat → Int32) : gMD_steps (uMD_isSaved σ v) = gMD_steps σ := rfl
theorem gu_MD_steps_isTold (σ : tMD) (v : Nat → Int32) : gMD_steps (uMD_isTold σ v) = gMD_steps σ := rfl
theorem gu_MD_steps_savedNumber (σ : tMD) (v : Nat → Int32) : gMD_steps (uMD_savedNumber σ v) = gMD_steps σ := rfl
theorem gu_MD_steps_savedCount (σ : tMD) (v : Int32) : gMD_steps (uMD_savedCount σ v) = gMD_steps σ := rfl
theorem gu_MD_steps_labels (σ : tMD) (v : Nat → Int32) : gMD_steps (uMD_labels σ v) = gMD_steps σ := rfl
theorem gu_MD_steps_labelCount (σ : tMD) (v : Int32) : gMD_steps (uMD_labelCount σ v) = gMD_steps σ := rfl
theorem gu_MD_steps_letters (σ : tMD) (v : Nat → Int32) : gMD_steps (uMD_letters σ v) = gMD_steps σ := rfl
theorem gu_MD_steps_letterCount (σ : tMD) (v : Int32) : gMD_steps (uMD_letterCount σ v) = gMD_steps σ := rfl
theorem gu_MD_steps_saving (σ : tMD) (v : Nat → Int32) : gMD_steps (uMD_saving σ v) = gMD_steps σ := rfl
theorem gu_MD_steps_walk (σ : tMD) (v : Nat → Int32) : gMD_steps (uMD_walk σ v) = gMD_steps σ := rfl
theorem gu_MD_steps_walkAt (σ : tMD) (v : Nat → Int32) : gMD_steps (uMD_walkAt σ v) = gMD_steps σ := rfl
theorem gu_MD_toldStep_statements (σ : tMD) (v : Int32) : gMD_toldStep (uMD_statements σ v) = gMD_toldStep σ := rfl
theorem gu_MD_toldStep_takes (σ : tMD) (v : Nat → Int32) : gMD_toldStep (uMD_takes σ v) = gMD_toldStep σ := rfl
theorem gu_MD_toldStep_mandatories (σ : tMD) (v : Nat → Int32) : gMD_toldStep (uMD_mandatories σ v) = gMD_toldStep σ := rfl
theorem gu_MD_toldStep_mandatoryCount (σ : tMD) (v : Int32) : gMD_toldStep (uMD_mandatoryCount σ v) = gMD_toldStep σ := rfl
theorem gu_MD_toldStep_rows (σ : tMD) (v : Int32) : gMD_toldStep (uMD_rows σ v) = gMD_toldStep σ := rfl
theorem gu_MD_toldStep_makers (σ : tMD) (v : Nat → Int32) : gMD_toldStep (uMD_makers σ v) = gMD_toldStep σ := rfl
theorem gu_MD_toldStep_fromAt (σ : tMD) (v : Nat → Int32) : gMD_toldStep (uMD_fromAt σ v) = gMD_toldStep σ := rfl
theorem gu_MD_toldStep_firstSame (σ : tMD) (v : Nat → Int32) : gMD_toldStep (uMD_firstSame σ v) = gMD_toldStep σ := rfl
theorem gu_MD_toldStep_sizes (σ : tMD) (v : Nat → Int64) : gMD_toldStep (uMD_sizes σ v) = gMD_toldStep σ := rfl
theorem gu_MD_toldStep_froms (σ : tMD) (v : Nat → Int32) : gMD_toldStep (uMD_froms σ v) = gMD_toldStep σ := rfl
theorem gu_MD_toldStep_fromCount (σ : tMD) (v : Int32) : gMD_toldStep (uMD_fromCount σ v) = gMD_toldStep σ := rfl
theorem gu_MD_toldStep_pile (σ : tMD) (v : Nat → Int32) : gMD_toldStep (uMD_pile σ v) = gMD_toldStep σ := rfl
theorem gu_MD_toldStep_piled (σ : tMD) (v : Int32) : gMD_toldStep (uMD_piled σ v) = gMD_toldStep σ := rfl
theorem gu_MD_toldStep_puts (σ : tMD) (v : Int32) : gMD_toldStep (uMD_puts σ v) = gMD_toldStep σ := rfl
theorem gu_MD_toldStep_steps (σ : tMD) (v : Int32) : gMD_toldStep (uMD_steps σ v) = gMD_toldStep σ := rfl
theorem gu_MD_toldStep_toldStep (σ : tMD) (v : Nat → Int32) : gMD_toldStep (uMD_toldStep σ v) = v := rfl
theorem gu_MD_toldStep_stepRow (σ : tMD) (v : Nat → Int32) : gMD_toldStep (uMD_stepRow σ v) = gMD_toldStep σ := rfl
theorem gu_MD_toldStep_isSaved (σ : tMD) (v : Nat → Int32) : gMD_toldStep (uMD_isSaved σ v) = gMD_toldStep σ := rfl
theorem gu_MD_toldStep_isTold (σ : tMD) (v : Nat → Int32) : gMD_toldStep (uMD_isTold σ v) = gMD_toldStep σ := rfl
theorem gu_MD_toldStep_savedNumber (σ : tMD) (v : Nat → Int32) : gMD_toldStep (uMD_savedNumber σ v) = gMD_toldStep σ := rfl
theorem gu_MD_toldStep_savedCount (σ : tMD) (v : Int32) : gMD_toldStep (uMD_savedCount σ v) = gMD_toldStep σ := rfl
theorem gu_MD_toldStep_labels (σ : tMD) (v : Nat → Int32) : gMD_toldStep (uMD_labels σ v) = gMD_toldStep σ := rfl
theorem gu_MD_toldStep_labelCount (σ : tMD) (v : Int32) : gMD_toldStep (uMD_labelCount σ v) = gMD_toldStep σ := rfl
theorem gu_MD_toldStep_letters (σ : tMD) (v : Nat → Int32) : gMD_toldStep (uMD_letters σ v) = gMD_toldStep σ := rfl
theorem gu_MD_toldStep_letterCount (σ : tMD) (v : Int32) : gMD_toldStep (uMD_letterCount σ v) = gMD_toldStep σ := rfl
theorem gu_MD_toldStep_saving (σ : tMD) (v : Nat → Int32) : gMD_toldStep (uMD_saving σ v) = gMD_toldStep σ := rfl
theorem gu_MD_toldStep_walk (σ : tMD) (v : Nat → Int32) : gMD_toldStep (uMD_walk σ v) = gMD_toldStep σ := rfl
theorem gu_MD_toldStep_walkAt (σ : tMD) (v : Nat → Int32) : gMD_toldStep (uMD_walkAt σ v) = gMD_toldStep σ := rfl
theorem gu_MD_stepRow_statements (σ : tMD) (v : Int32) : gMD_stepRow (uMD_statements σ v) = gMD_stepRow σ := rfl
theorem gu_MD_stepRow_takes (σ : tMD) (v : Nat → Int32) : gMD_stepRow (uMD_takes σ v) = gMD_stepRow σ := rfl
theorem gu_MD_stepRow_mandatories (σ : tMD) (v : Nat → Int32) : gMD_stepRow (uMD_mandatories σ v) = gMD_stepRow σ := rfl
theorem gu_MD_stepRow_mandatoryCount (σ : tMD) (v : Int32) : gMD_stepRow (uMD_mandatoryCount σ v) = gMD_stepRow σ := rfl
theorem gu_MD_stepRow_rows (σ : tMD) (v : Int32) : gMD_stepRow (uMD_rows σ v) = gMD_stepRow σ := rfl
theorem gu_MD_stepRow_makers (σ : tMD) (v : Nat → Int32) : gMD_stepRow (uMD_makers σ v) = gMD_stepRow σ := rfl
theorem gu_MD_stepRow_fromAt (σ : tMD) (v : Nat → Int32) : gMD_stepRow (uMD_fromAt σ v) = gMD_stepRow σ := rfl
theorem gu_MD_stepRow_firstSame (σ : tMD) (v : Nat → Int32) : gMD_stepRow (uMD_firstSame σ v) = gMD_stepRow σ := rfl
theorem gu_MD_stepRow_sizes (σ : tMD) (v : Nat → Int64) : gMD_stepRow (uMD_sizes σ v) = gMD_stepRow σ := rfl
theorem gu_MD_stepRow_froms (σ : tMD) (v : Nat → Int32) : gMD_stepRow (uMD_froms σ v) = gMD_stepRow σ := rfl
theorem gu_MD_stepRow_fromCount (σ : tMD) (v : Int32) : gMD_stepRow (uMD_fromCount σ v) = gMD_stepRow σ := rfl
theorem gu_MD_stepRow_pile (σ : tMD) (v : Nat → Int32) : gMD_stepRow (uMD_pile σ v) = gMD_stepRow σ := rfl
theorem gu_MD_stepRow_piled (σ : tMD) (v : Int32) : gMD_stepRow (uMD_piled σ v) = gMD_stepRow σ := rfl
theorem gu_MD_stepRow_puts (σ : tMD) (v : Int32) : gMD_stepRow (uMD_puts σ v) = gMD_stepRow σ := rfl
theorem gu_MD_stepRow_steps (σ : tMD) (v : Int32) : gMD_stepRow (uMD_steps σ v) = gMD_stepRow σ := rfl
theorem gu_MD_stepRow_toldStep (σ : tMD) (v : Nat → Int32) : gMD_stepRow (uMD_toldStep σ v) = gMD_stepRow σ := rfl
theorem gu_MD_stepRow_stepRow (σ : tMD) (v : Nat → Int32) : gMD_stepRow (uMD_stepRow σ v) = v := rfl
theorem gu_MD_stepRow_isSaved (σ : tMD) (v : Nat → Int32) : gMD_stepRow (uMD_isSaved σ v) = gMD_stepRow σ := rfl
theorem gu_MD_stepRow_isTold (σ : tMD) (v : Nat → Int32) : gMD_stepRow (uMD_isTold σ v) = gMD_stepRow σ := rfl
theorem gu_MD_stepRow_savedNumber (σ : tMD) (v : Nat → Int32) : gMD_stepRow (uMD_savedNumber σ v) = gMD_stepRow σ := rfl
theorem gu_MD_stepRow_savedCount (σ : tMD) (v : Int32) : gMD_stepRow (uMD_savedCount σ v) = gMD_stepRow σ := rfl
theorem gu_MD_stepRow_labels (σ : tMD) (v : Nat → Int32) : gMD_stepRow (uMD_labels σ v) = gMD_stepRow σ := rfl
theorem gu_MD_stepRow_labelCount (σ : tMD) (v : Int32) : gMD_stepRow (uMD_labelCount σ v) = gMD_stepRow σ := rfl
theorem gu_MD_stepRow_letters (σ : tMD) (v : Nat → Int32) : gMD_stepRow (uMD_letters σ v) = gMD_stepRow σ := rfl
theorem gu_MD_stepRow_letterCount (σ : tMD) (v : Int32) : gMD_stepRow (uMD_letterCount σ v) = gMD_stepRow σ := rfl
theorem gu_MD_stepRow_saving (σ : tMD) (v : Nat → Int32) : gMD_stepRow (uMD_saving σ v) = gMD_stepRow σ := rfl
theorem gu_MD_stepRow_walk (σ : tMD) (v : Nat → Int32) : gMD_stepRow (uMD_walk σ v) = gMD_stepRow σ := rfl
theorem gu_MD_stepRow_walkAt (σ : tMD) (v : Nat → Int32) : gMD_stepRow (uMD_walkAt σ v) = gMD_stepRow σ := rfl
theorem gu_MD_isSaved_statements (σ : tMD) (v : Int32) : gMD_isSaved (uMD_statements σ v) = gMD_isSaved σ := rfl
theorem gu_MD_isSaved_takes (σ : tMD) (v : Nat → Int32) : gMD_isSaved (uMD_takes σ v) = gMD_isSaved σ := rfl
theorem gu_MD_isSaved_mandatories (σ : tMD) (v : Nat → Int32) : gMD_isSaved (uMD_mandatories σ v) = gMD_isSaved σ := rfl
theorem gu_MD_isSaved_mandatoryCount (σ : tMD) (v : Int32) : gMD_isSaved (uMD_mandatoryCount σ v) = gMD_isSaved σ := rfl
theorem gu_MD_isSaved_rows (σ : tMD) (v : Int32) : gMD_isSaved (uMD_rows σ v) = gMD_isSaved σ := rfl
theorem gu_MD_isSaved_makers (σ : tMD) (v : Nat → Int32) : gMD_isSaved (uMD_makers σ v) = gMD_isSaved σ := rfl
theorem gu_MD_isSaved_fromAt (σ : tMD) (v : Nat → Int32) : gMD_isSaved (uMD_fromAt σ v) = gMD_isSaved σ := rfl
theorem gu_MD_isSaved_firstSame (σ : tMD) (v : Nat → Int32) : gMD_isSaved (uMD_firstSame σ v) = gMD_isSaved σ := rfl
theorem gu_MD_isSaved_sizes (σ : tMD) (v : Nat → Int64) : gMD_isSaved (uMD_sizes σ v) = gMD_isSaved σ := rfl
theorem gu_MD_isSaved_froms (σ : tMD) (v : Nat → Int32) : gMD_isSaved (uMD_froms σ v) = gMD_isSaved σ := rfl
theorem gu_MD_isSaved_fromCount (σ : tMD) (v : Int32) : gMD_isSaved (uMD_fromCount σ v) = gMD_isSaved σ := rfl
theorem gu_MD_isSaved_pile (σ : tMD) (v : Nat → Int32) : gMD_isSaved (uMD_pile σ v) = gMD_isSaved σ := rfl
theorem gu_MD_isSaved_piled (σ : tMD) (v : Int32) : gMD_isSaved (uMD_piled σ v) = gMD_isSaved σ := rfl
theorem gu_MD_isSaved_puts (σ : tMD) (v : Int32) : gMD_isSaved (uMD_puts σ v) = gMD_isSaved σ := rfl
theorem gu_MD_isSaved_steps (σ : tMD) (v : Int32) : gMD_isSaved (uMD_steps σ v) = gMD_isSaved σ := rfl
theorem gu_MD_isSaved_toldStep (σ : tMD) (v : Nat → Int32) : gMD_isSaved (uMD_toldStep σ v) = gMD_isSaved σ := rfl
theorem gu_MD_isSaved_stepRow (σ : tMD) (v : Nat → Int32) : gMD_isSaved (uMD_stepRow σ v) = gMD_isSaved σ := rfl
theorem gu_MD_isSaved_isSaved (σ : tMD) (v : Nat → Int32) : gMD_isSaved (uMD_isSaved σ v) = v := rfl
theorem gu_MD_isSaved_isTold (σ : tMD) (v : Nat → Int32) : gMD_isSaved (uMD_isTold σ v) = gMD_isSaved σ := rfl
theorem gu_MD_isSaved_savedNumber (σ : tMD) (v : Nat → Int32) : gMD_isSaved (uMD_savedNumber σ v) = gMD_isSaved σ := rfl
theorem gu_MD_isSaved_savedCount (σ : tMD) (v : Int32) : gMD_isSaved (uMD_savedCount σ v) = gMD_isSaved σ := rfl
theorem gu_MD_isSaved_labels (σ : tMD) (v : Nat → Int32) : gMD_isSaved (uMD_labels σ v) = gMD_isSaved σ := rfl
theorem gu_MD_isSaved_labelCount (σ : tMD) (v : Int32) : gMD_isSaved (uMD_labelCount σ v) = gMD_isSaved σ := rfl
theorem gu_MD_isSaved_letters (σ : tMD) (v : Nat → Int32) : gMD_isSaved (uMD_letters σ v) = gMD_isSaved σ := rfl
theorem gu_MD_isSaved_letterCount (σ : tMD) (v : Int32) : gMD_isSaved (uMD_letterCount σ v) = gMD_isSaved σ := rfl
theorem gu_MD_isSaved_saving (σ : tMD) (v : Nat → Int32) : gMD_isSaved (uMD_saving σ v) = gMD_isSaved σ := rfl
theorem gu_MD_isSaved_walk (σ : tMD) (v : Nat → Int32) : gMD_isSaved (uMD_walk σ v) = gMD_isSaved σ := rfl
theorem gu_MD_isSaved_walkAt (σ : tMD) (v : Nat → Int32) : gMD_isSaved (uMD_walkAt σ v) = gMD_isSaved σ := rfl
theorem gu_MD_isTold_statements (σ : tMD) (v : Int32) : gMD_isTold (uMD_statements σ v) = gMD_isTold σ := rfl
theorem gu_MD_isTold_takes (σ : tMD) (v : Nat → Int32) : gMD_isTold (uMD_takes σ v) = gMD_isTold σ := rfl
theorem gu_MD_isTold_mandatories (σ : tMD) (v : Nat → Int32) : gMD_isTold (uMD_mandatories σ v) = gMD_isTold σ := rfl
theorem gu_MD_isTold_mandatoryCount (σ : tMD) (v : Int32) : gMD_isTold (uMD_mandatoryCount σ v) = gMD_isTold σ := rfl
theorem gu_MD_isTold_rows (σ : tMD) (v : Int32) : gMD_isTold (uMD_rows σ v) = gMD_isTold σ := rfl
theorem gu_MD_isTold_makers (σ : tMD) (v : Nat → Int32) : gMD_isTold (uMD_makers σ v) = gMD_isTold σ := rfl
theorem gu_MD_isTold_fromAt (σ : tMD) (v : Nat → Int32) : gMD_isTold (uMD_fromAt σ v) = gMD_isTold σ := rfl
theorem gu_MD_isTold_firstSame (σ : tMD) (v : Nat → Int32) : gMD_isTold (uMD_firstSame σ v) = gMD_isTold σ := rfl
theorem gu_MD_isTold_sizes (σ : tMD) (v : Nat → Int64) : gMD_isTold (uMD_sizes σ v) = gMD_isTold σ := rfl
theorem gu_MD_isTold_froms (σ : tMD) (v : Nat → Int32) : gMD_isTold (uMD_froms σ v) = gMD_isTold σ := rfl
theorem gu_MD_isTold_fromCount (σ : tMD) (v : Int32) : gMD_isTold (uMD_fromCount σ v) = gMD_isTold σ := rfl
theorem gu_MD_isTold_pile (σ : tMD) (v : Nat → Int32) : gMD_isTold (uMD_pile σ v) = gMD_isTold σ := rfl
theorem gu_MD_isTold_piled (σ : tMD) (v : Int32) : gMD_isTold (uMD_piled σ v) = gMD_isTold σ := rfl
theorem gu_MD_isTold_puts (σ : tMD) (v : Int32) : gMD_isTold (uMD_puts σ v) = gMD_isTold σ := rfl
theorem gu_MD_isTold_steps (σ : tMD) (v : Int32) : gMD_isTold (uMD_steps σ v) = gMD_isTold σ := rfl
theorem gu_MD_isTold_toldStep (σ : tMD) (v : Nat → Int32) : gMD_isTold (uMD_toldStep σ v) = gMD_isTold σ := rfl
theorem gu_MD_isTold_stepRow (σ : tMD) (v : Nat → Int32) : gMD_isTold (uMD_stepRow σ v) = gMD_isTold σ := rfl
theorem gu_MD_isTold_isSaved (σ : tMD) (v : Nat → Int32) : gMD_isTold (uMD_isSaved σ v) = gMD_isTold σ := rfl
theorem gu_MD_isTold_isTold (σ : tMD) (v : Nat → Int32) : gMD_isTold (uMD_isTold σ v) = v := rfl
theorem gu_MD_isTold_savedNumber (σ : tMD) (v : Nat → Int32) : gMD_isTold (uMD_savedNumber σ v) = gMD_isTold σ := rfl
theorem gu_MD_isTold_savedCount (σ : tMD) (v : Int32) : gMD_isTold (uMD_savedCount σ v) = gMD_isTold σ := rfl
theorem gu_MD_isTold_labels (σ : tMD) (v : Nat → Int32) : gMD_isTold (uMD_labels σ v) = gMD_isTold σ := rfl
theorem gu_MD_isTold_labelCount (σ : tMD) (v : Int32) : gMD_isTold (uMD_labelCount σ v) = gMD_isTold σ := rfl
theorem gu_MD_isTold_letters (σ : tMD) (v : Nat → Int32) : gMD_isTold (uMD_letters σ v) = gMD_isTold σ := rfl
theorem gu_MD_isTold_letterCount (σ : tMD) (v : Int32) : gMD_isTold (uMD_letterCount σ v) = gMD_isTold σ := rfl
theorem gu_MD_isTold_saving (σ : tMD) (v : Nat → Int32) : gMD_isTold (uMD_saving σ v) = gMD_isTold σ := rfl
theorem gu_MD_isTold_walk (σ : tMD) (v : Nat → Int32) : gMD_isTold (uMD_walk σ v) = gMD_isTold σ := rfl
theorem gu_MD_isTold_walkAt (σ : tMD) (v : Nat → Int32) : gMD_isTold (uMD_walkAt σ v) = gMD_isTold σ := rfl
theorem gu_MD_savedNumber_statements (σ : tMD) (v : Int32) : gMD_savedNumber (uMD_statements σ v) = gMD_savedNumber σ := rfl
theorem gu_MD_savedNumber_takes (σ : tMD) (v : Nat → Int32) : gMD_savedNumber (uMD_takes σ v) = gMD_savedNumber σ := rfl
theorem gu_MD_savedNumber_mandatories (σ : tMD) (v : Nat → Int32) : gMD_savedNumber (uMD_mandatories σ v) = gMD_savedNumber σ := rfl
theorem gu_MD_savedNumber_mandatoryCount (σ : tMD) (v : Int32) : gMD_savedNumber (uMD_mandatoryCount σ v) = gMD_savedNumber σ := rfl
theorem gu_MD_savedNumber_rows (σ : tMD) (v : Int32) : gMD_savedNumber (uMD_rows σ v) = gMD_savedNumber σ := rfl
theorem gu_MD_savedNumber_makers (σ : tMD) (v : Nat → Int32) : gMD_savedNumber (uMD_makers σ v) = gMD_savedNumber σ := rfl
theorem gu_MD_savedNumber_fromAt (σ : tMD) (v : Nat → Int32) : gMD_savedNumber (uMD_fromAt σ v) = gMD_savedNumber σ := rfl
theorem gu_MD_savedNumber_firstSame (σ : tMD) (v : Nat → Int32) : gMD_savedNumber (uMD_firstSame σ v) = gMD_savedNumber σ := rfl
theorem gu_MD_savedNumber_sizes (σ : tMD) (v : Nat → Int64) : gMD_savedNumber (uMD_sizes σ v) = gMD_savedNumber σ := rfl
theorem gu_MD_savedNumber_froms (σ : tMD) (v : Nat → Int32) : gMD_savedNumber (uMD_froms σ v) = gMD_savedNumber σ := rfl
theorem gu_MD_savedNumber_fromCount (σ : tMD) (v : Int32) : gMD_savedNumber (uMD_fromCount σ v) = gMD_savedNumber σ := rfl
theorem gu_MD_savedNumber_pile (σ : tMD) (v : Nat → Int32) : gMD_savedNumber (uMD_pile σ v) = gMD_savedNumber σ := rfl
theorem gu_MD_savedNumber_piled (σ : tMD) (v : Int32) : gMD_savedNumber (uMD_piled σ v) = gMD_savedNumber σ := rfl
theorem gu_MD_savedNumber_puts (σ : tMD) (v : Int32) : gMD_savedNumber (uMD_puts σ v) = gMD_savedNumber σ := rfl
theorem gu_MD_savedNumber_steps (σ : tMD) (v : Int32) : gMD_savedNumber (uMD_steps σ v) = gMD_savedNumber σ := rfl
theorem gu_MD_savedNumber_toldStep (σ : tMD) (v : Nat → Int32) : gMD_savedNumber (uMD_toldStep σ v) = gMD_savedNumber σ := rfl
theorem gu_MD_savedNumber_stepRow (σ : tMD) (v : Nat → Int32) : gMD_savedNumber (uMD_stepRow σ v) = gMD_savedNumber σ := rfl
theorem gu_MD_savedNumber_isSaved (σ : tMD) (v : Nat → Int32) : gMD_savedNumber (uMD_isSaved σ v) = gMD_savedNumber σ := rfl
theorem gu_MD_savedNumber_isTold (σ : tMD) (v : Nat → Int32) : gMD_savedNumber (uMD_isTold σ v) = gMD_savedNumber σ := rfl
theorem gu_MD_savedNumber_savedNumber (σ : tMD) (v : Nat → Int32) : gMD_savedNumber (uMD_savedNumber σ v) = v := rfl
theorem gu_MD_savedNumber_savedCount (σ : tMD) (v : Int32) : gMD_savedNumber (uMD_savedCount σ v) = gMD_savedNumber σ := rfl
theorem gu_MD_savedNumber_labels (σ : tMD) (v : Nat → Int32) : gMD_savedNumber (uMD_labels σ v) = gMD_savedNumber σ := rfl
theorem gu_MD_savedNumber_labelCount (σ : tMD) (v : Int32) : gMD_savedNumber (uMD_labelCount σ v) = gMD_savedNumber σ := rfl
theorem gu_MD_savedNumber_letters (σ : tMD) (v : Nat → Int32) : gMD_savedNumber (uMD_letters σ v) = gMD_savedNumber σ := rfl
theorem gu_MD_savedNumber_letterCount (σ : tMD) (v : Int32) : gMD_savedNumber (uMD_letterCount σ v) = gMD_savedNumber σ := rfl
theorem gu_MD_savedNumber_saving (σ : tMD) (v : Nat → Int32) : gMD_savedNumber (uMD_saving σ v) = gMD_savedNumber σ := rfl
theorem gu_MD_savedNumber_walk (σ : tMD) (v : Nat → Int32) : gMD_savedNumber (uMD_walk σ v) = gMD_savedNumber σ := rfl
theorem gu_MD_savedNumber_walkAt (σ : tMD) (v : Nat → Int32) : gMD_savedNumber (uMD_walkAt σ v) = gMD_savedNumber σ := rfl
theorem gu_MD_savedCount_statements (σ : tMD) (v : Int32) : gMD_savedCount (uMD_statements σ v) = gMD_savedCount σ := rfl
theorem gu_MD_savedCount_takes (σ : tMD) (v : Nat → Int32) : gMD_savedCount (uMD_takes σ v) = gMD_savedCount σ := rfl
theorem gu_MD_savedCount_mandatories (σ : tMD) (v : Nat → Int32) : gMD_savedCount (uMD_mandatories σ v) = gMD_savedCount σ := rfl
theorem gu_MD_savedCount_mandatoryCount (σ : tMD) (v : Int32) : gMD_savedCount (uMD_mandatoryCount σ v) = gMD_savedCount σ := rfl
theorem gu_MD_savedCount_rows (σ : tMD) (v : Int32) : gMD_savedCount (uMD_rows σ v) = gMD_savedCount σ := rfl
theorem gu_MD_savedCount_makers (σ : tMD) (v : Nat → Int32) : gMD_savedCount (uMD_makers σ v) = gMD_savedCount σ := rfl
theorem gu_MD_savedCount_fromAt (σ : tMD) (v : Nat → Int32) : gMD_savedCount (uMD_fromAt σ v) = gMD_savedCount σ := rfl
theorem gu_MD_savedCount_firstSame (σ : tMD) (v : Nat → Int32) : gMD_savedCount (uMD_firstSame σ v) = gMD_savedCount σ := rfl
theorem gu_MD_savedCount_sizes (σ : tMD) (v : Nat → Int64) : gMD_savedCount (uMD_sizes σ v) = gMD_savedCount σ := rfl
theorem gu_MD_savedCount_froms (σ : tMD) (v : Nat → Int32) : gMD_savedCount (uMD_froms σ v) = gMD_savedCount σ := rfl
theorem gu_MD_savedCount_fromCount (σ : tMD) (v : Int32) : gMD_savedCount (uMD_fromCount σ v) = gMD_savedCount σ := rfl
theorem gu_MD_savedCount_pile (σ : tMD) (v : Nat → Int32) : gMD_savedCount (uMD_pile σ v) = gMD_savedCount σ := rfl
theorem gu_MD_savedCount_piled (σ : tMD) (v : Int32) : gMD_savedCount (uMD_piled σ v) = gMD_savedCount σ := rfl
theorem gu_MD_savedCount_puts (σ : tMD) (v : Int32) : gMD_savedCount (uMD_puts σ v) = gMD_savedCount σ := rfl
theorem gu_MD_savedCount_steps (σ : tMD) (v : Int32) : gMD_savedCount (uMD_steps σ v) = gMD_savedCount σ := rfl
theorem gu_MD_savedCount_toldStep (σ : tMD) (v : Nat → Int32) : gMD_savedCount (uMD_toldStep σ v) = gMD_savedCount σ := rfl
theorem gu_MD_savedCount_stepRow (σ : tMD) (v : Nat → Int32) : gMD_savedCount (uMD_stepRow σ v) = gMD_savedCount σ := rfl
theorem gu_MD_savedCount_isSaved (σ : tMD) (v : Nat → Int32) : gMD_savedCount (uMD_isSaved σ v) = gMD_savedCount σ := rfl
theorem gu_MD_savedCount_isTold (σ : tMD) (v : Nat → Int32) : gMD_savedCount (uMD_isTold σ v) = gMD_savedCount σ := rfl
theorem gu_MD_savedCount_savedNumber (σ : tMD) (v : Nat → Int32) : gMD_savedCount (uMD_savedNumber σ v) = gMD_savedCount σ := rfl
theorem gu_MD_savedCount_savedCount (σ : tMD) (v : Int32) : gMD_savedCount (uMD_savedCount σ v) = v := rfl
theorem gu_MD_savedCount_labels (σ : tMD) (v : Nat → Int32) : gMD_savedCount (uMD_labels σ v) = gMD_savedCount σ := rfl
theorem gu_MD_savedCount_labelCount (σ : tMD) (v : Int32) : gMD_savedCount (uMD_labelCount σ v) = gMD_savedCount σ := rfl
theorem gu_MD_savedCount_letters (σ : tMD) (v : Nat → Int32) : gMD_savedCount (uMD_letters σ v) = gMD_savedCount σ := rfl
theorem gu_MD_savedCount_letterCount (σ : tMD) (v : Int32) : gMD_savedCount (uMD_letterCount σ v) = gMD_savedCount σ := rfl
theorem gu_MD_savedCount_saving (σ : tMD) (v : Nat → Int32) : gMD_savedCount (uMD_saving σ v) = gMD_savedCount σ := rfl
theorem gu_MD_savedCount_walk (σ : tMD) (v : Nat → Int32) : gMD_savedCount (uMD_walk σ v) = gMD_savedCount σ := rfl
theorem gu_MD_savedCount_walkAt (σ : tMD) (v : Nat → Int32) : gMD_savedCount (uMD_walkAt σ v) = gMD_savedCount σ := rfl
theorem gu_MD_labels_statements (σ : tMD) (v : Int32) : gMD_labels (uMD_statements σ v) = gMD_labels σ := rfl
theorem gu_MD_labels_takes (σ : tMD) (v : Nat → Int32) : gMD_labels (uMD_takes σ v) = gMD_labels σ := rfl
theorem gu_MD_labels_mandatories (σ : tMD) (v : Nat → Int32) : gMD_labels (uMD_mandatories σ v) = gMD_labels σ := rfl
theorem gu_MD_labels_mandatoryCount (σ : tMD) (v : Int32) : gMD_labels (uMD_mandatoryCount σ v) = gMD_labels σ := rfl
theorem gu_MD_labels_rows (σ : tMD) (v : Int32) : gMD_labels (uMD_rows σ v) = gMD_labels σ := rfl
theorem gu_MD_labels_makers (σ : tMD) (v : Nat → Int32) : gMD_labels (uMD_makers σ v) = gMD_labels σ := rfl
theorem gu_MD_labels_fromAt (σ : tMD) (v : Nat → Int32) : gMD_labels (uMD_fromAt σ v) = gMD_labels σ := rfl
theorem gu_MD_labels_firstSame (σ : tMD) (v : Nat → Int32) : gMD_labels (uMD_firstSame σ v) = gMD_labels σ := rfl
theorem gu_MD_labels_sizes (σ : tMD) (v : Nat → Int64) : gMD_labels (uMD_sizes σ v) = gMD_labels σ := rfl
theorem gu_MD_labels_froms (σ : tMD) (v : Nat → Int32) : gMD_labels (uMD_froms σ v) = gMD_labels σ := rfl
theorem gu_MD_labels_fromCount (σ : tMD) (v : Int32) : gMD_labels (uMD_fromCount σ v) = gMD_labels σ := rfl
theorem gu_MD_labels_pile (σ : tMD) (v : Nat → Int32) : gMD_labels (uMD_pile σ v) = gMD_labels σ := rfl
theorem gu_MD_labels_piled (σ : tMD) (v : Int32) : gMD_labels (uMD_piled σ v) = gMD_labels σ := rfl
theorem gu_MD_labels_puts (σ : tMD) (v : Int32) : gMD_labels (uMD_puts σ v) = gMD_labels σ := rfl
theorem gu_MD_labels_steps (σ : tMD) (v : Int32) : gMD_labels (uMD_steps σ v) = gMD_labels σ := rfl
theorem gu_MD_labels_toldStep (σ : tMD) (v : Nat → Int32) : gMD_labels (uMD_toldStep σ v) = gMD_labels σ := rfl
theorem gu_MD_labels_stepRow (σ : tMD) (v : Nat → Int32) : gMD_labels (uMD_stepRow σ v) = gMD_labels σ := rfl
theorem gu_MD_labels_isSaved (σ : tMD) (v : Nat → Int32) : gMD_labels (uMD_isSaved σ v) = gMD_labels σ := rfl
theorem gu_MD_labels_isTold (σ : tMD) (v : Nat → Int32) : gMD_labels (uMD_isTold σ v) = gMD_labels σ := rfl
theorem gu_MD_labels_savedNumber (σ : tMD) (v : Nat → Int32) : gMD_labels (uMD_savedNumber σ v) = gMD_labels σ := rfl
theorem gu_MD_labels_savedCount (σ : tMD) (v : Int32) : gMD_labels (uMD_savedCount σ v) = gMD_labels σ := rfl
theorem gu_MD_labels_labels (σ : tMD) (v : Nat → Int32) : gMD_labels (uMD_labels σ v) = v := rfl
theorem gu_MD_labels_labelCount (σ : tMD) (v : Int32) : gMD_labels (uMD_labelCount σ v) = gMD_labels σ := rfl
theorem gu_MD_labels_letters (σ : tMD) (v : Nat → Int32) : gMD_labels (uMD_letters σ v) = gMD_labels σ := rfl
theorem gu_MD_labels_letterCount (σ : tMD) (v : Int32) : gMD_labels (uMD_letterCount σ v) = gMD_labels σ := rfl
theorem gu_MD_labels_saving (σ : tMD) (v : Nat → Int32) : gMD_labels (uMD_saving σ v) = gMD_labels σ := rfl
theorem gu_MD_labels_walk (σ : tMD) (v : Nat → Int32) : gMD_labels (uMD_walk σ v) = gMD_labels σ := rfl
theorem gu_MD_labels_walkAt (σ : tMD) (v : Nat → Int32) : gMD_labels (uMD_walkAt σ v) = gMD_labels σ := rfl
theorem gu_MD_labelCount_statements (σ : tMD) (v : Int32) : gMD_labelCount (uMD_statements σ v) = gMD_labelCount σ := rfl
theorem gu_MD_labelCount_takes (σ : tMD) (v : Nat → Int32) : gMD_labelCount (uMD_takes σ v) = gMD_labelCount σ := rfl
theorem gu_MD_labelCount_mandatories (σ : tMD) (v : Nat → Int32) : gMD_labelCount (uMD_mandatories σ v) = gMD_labelCount σ := rfl
theorem gu_MD_labelCount_mandatoryCount (σ : tMD) (v : Int32) : gMD_labelCount (uMD_mandatoryCount σ v) = gMD_labelCount σ := rfl
theorem gu_MD_labelCount_rows (σ : tMD) (v : Int32) : gMD_labelCount (uMD_rows σ v) = gMD_labelCount σ := rfl
theorem gu_MD_labelCount_makers (σ : tMD) (v : Nat → Int32) : gMD_labelCount (uMD_makers σ v) = gMD_labelCount σ := rfl
theorem gu_MD_labelCount_fromAt (σ : tMD) (v : Nat → Int32) : gMD_labelCount (uMD_fromAt σ v) = gMD_labelCount σ := rfl
theorem gu_MD_labelCount_firstSame (σ : tMD) (v : Nat → Int32) : gMD_labelCount (uMD_firstSame σ v) = gMD_labelCount σ := rfl
theorem gu_MD_labelCount_sizes (σ : tMD) (v : Nat → Int64) : gMD_labelCount (uMD_sizes σ v) = gMD_labelCount σ := rfl
theorem gu_MD_labelCount_froms (σ : tMD) (v : Nat → Int32) : gMD_labelCount (uMD_froms σ v) = gMD_labelCount σ := rfl
theorem gu_MD_labelCount_fromCount (σ : tMD) (v : Int32) : gMD_labelCount (uMD_fromCount σ v) = gMD_labelCount σ := rfl
theorem gu_MD_labelCount_pile (σ : tMD) (v : Nat → Int32) : gMD_labelCount (uMD_pile σ v) = gMD_labelCount σ := rfl
theorem gu_MD_labelCount_piled (σ : tMD) (v : Int32) : gMD_labelCount (uMD_piled σ v) = gMD_labelCount σ := rfl
theorem gu_MD_labelCount_puts (σ : tMD) (v : Int32) : gMD_labelCount (uMD_puts σ v) = gMD_labelCount σ := rfl
theorem gu_MD_labelCount_steps (σ : tMD) (v : Int32) : gMD_labelCount (uMD_steps σ v) = gMD_labelCount σ := rfl
theorem gu_MD_labelCount_toldStep (σ : tMD) (v : Nat → Int32) : gMD_labelCount (uMD_toldStep σ v) = gMD_labelCount σ := rfl
theorem gu_MD_labelCount_stepRow (σ : tMD) (v : Nat → Int32) : gMD_labelCount (uMD_stepRow σ v) = gMD_labelCount σ := rfl
theorem gu_MD_labelCount_isSaved (σ : tMD) (v : Nat → Int32) : gMD_labelCount (uMD_isSaved σ v) = gMD_labelCount σ := rfl
theorem gu_MD_labelCount_isTold (σ : tMD) (v : Nat → Int32) : gMD_labelCount (uMD_isTold σ v) = gMD_labelCount σ := rfl
theorem gu_MD_labelCount_savedNumber (σ : tMD) (v : Nat → Int32) : gMD_labelCount (uMD_savedNumber σ v) = gMD_labelCount σ := rfl
theorem gu_MD_labelCount_savedCount (σ : tMD) (v : Int32) : gMD_labelCount (uMD_savedCount σ v) = gMD_labelCount σ := rfl
theorem gu_MD_labelCount_labels (σ : tMD) (v : Nat → Int32) : gMD_labelCount (uMD_labels σ v) = gMD_labelCount σ := rfl
theorem gu_MD_labelCount_labelCount (σ : tMD) (v : Int32) : gMD_labelCount (uMD_labelCount σ v) = v := rfl
theorem gu_MD_labelCount_letters (σ : tMD) (v : Nat → Int32) : gMD_labelCount (uMD_letters σ v) = gMD_labelCount σ := rfl
theorem gu_MD_labelCount_letterCount (σ : tMD) (v : Int32) : gMD_labelCount (uMD_letterCount σ v) = gMD_labelCount σ := rfl
theorem gu_MD_labelCount_saving (σ : tMD) (v : Nat → Int32) : gMD_labelCount (uMD_saving σ v) = gMD_labelCount σ := rfl
theorem gu_MD_labelCount_walk (σ : tMD) (v : Nat → Int32) : gMD_labelCount (uMD_walk σ v) = gMD_labelCount σ := rfl
theorem gu_MD_labelCount_walkAt (σ : tMD) (v : Nat → Int32) : gMD_labelCount (uMD_walkAt σ v) = gMD_labelCount σ := rfl
theorem gu_MD_letters_statements (σ : tMD) (v : Int32) : gMD_letters (uMD_statements σ v) = gMD_letters σ := rfl
theorem gu_MD_letters_takes (σ : tMD) (v : Nat → Int32) : gMD_letters (uMD_takes σ v) = gMD_letters σ := rfl
theorem gu_MD_letters_mandatories (σ : tMD) (v : Nat → Int32) : gMD_letters (uMD_mandatories σ v) = gMD_letters σ := rfl
theorem gu_MD_letters_mandatoryCount (σ : tMD) (v : Int32) : gMD_letters (uMD_mandatoryCount σ v) = gMD_letters σ := rfl
theorem gu_MD_letters_rows (σ : tMD) (v : Int32) : gMD_letters (uMD_rows σ v) = gMD_letters σ := rfl
theorem gu_MD_letters_makers (σ : tMD) (v : Nat → Int32) : gMD_letters (uMD_makers σ v) = gMD_letters σ := rfl
theorem gu_MD_letters_fromAt (σ : tMD) (v : Nat → Int32) : gMD_letters (uMD_fromAt σ v) = gMD_letters σ := rfl
theorem gu_MD_letters_firstSame (σ : tMD) (v : Nat → Int32) : gMD_letters (uMD_firstSame σ v) = gMD_letters σ := rfl
theorem gu_MD_letters_sizes (σ : tMD) (v : Nat → Int64) : gMD_letters (uMD_sizes σ v) = gMD_letters σ := rfl
theorem gu_MD_letters_froms (σ : tMD) (v : Nat → Int32) : gMD_letters (uMD_froms σ v) = gMD_letters σ := rfl
theorem gu_MD_letters_fromCount (σ : tMD) (v : Int32) : gMD_letters (uMD_fromCount σ v) = gMD_letters σ := rfl
theorem gu_MD_letters_pile (σ : tMD) (v : Nat → Int32) : gMD_letters (uMD_pile σ v) = gMD_letters σ := rfl
theorem gu_MD_letters_piled (σ : tMD) (v : Int32) : gMD_letters (uMD_piled σ v) = gMD_letters σ := rfl
theorem gu_MD_letters_puts (σ : tMD) (v : Int32) : gMD_letters (uMD_puts σ v) = gMD_letters σ := rfl
theorem gu_MD_letters_steps (σ : tMD) (v : Int32) : gMD_letters (uMD_steps σ v) = gMD_letters σ := rfl
theorem gu_MD_letters_toldStep (σ : tMD) (v : Nat → Int32) : gMD_letters (uMD_toldStep σ v) = gMD_letters σ := rfl
theorem gu_MD_letters_stepRow (σ : tMD) (v : Nat → Int32) : gMD_letters (uMD_stepRow σ v) = gMD_letters σ := rfl
theorem gu_MD_letters_isSaved (σ : tMD) (v : Nat → Int32) : gMD_letters (uMD_isSaved σ v) = gMD_letters σ := rfl
theorem gu_MD_letters_isTold (σ : tMD) (v : Nat → Int32) : gMD_letters (uMD_isTold σ v) = gMD_letters σ := rfl
theorem gu_MD_letters_savedNumber (σ : tMD) (v : Nat → Int32) : gMD_letters (uMD_savedNumber σ v) = gMD_letters σ := rfl
theorem gu_MD_letters_savedCount (σ : tMD) (v : Int32) : gMD_letters (uMD_savedCount σ v) = gMD_letters σ := rfl
theorem gu_MD_letters_labels (σ : tMD) (v : Nat → Int32) : gMD_letters (uMD_labels σ v) = gMD_letters σ := rfl
theorem gu_MD_letters_labelCount (σ : tMD) (v : Int32) : gMD_letters (uMD_labelCount σ v) = gMD_letters σ := rfl
theorem gu_MD_letters_letters (σ : tMD) (v : Nat → Int32) : gMD_letters (uMD_letters σ v) = v := rfl
theorem gu_MD_letters_letterCount (σ : tMD) (v : Int32) : gMD_letters (uMD_letterCount σ v) = gMD_letters σ := rfl
theorem gu_MD_letters_saving (σ : tMD) (v : Nat → Int32) : gMD_letters (uMD_saving σ v) = gMD_letters σ := rfl
theorem gu_MD_letters_walk (σ : tMD) (v : Nat → Int32) : gMD_letters (uMD_walk σ v) = gMD_letters σ := rfl
theorem gu_MD_letters_walkAt (σ : tMD) (v : Nat → Int32) : gMD_letters (uMD_walkAt σ v) = gMD_letters σ := rfl
theorem gu_MD_letterCount_statements (σ : tMD) (v : Int32) : gMD_letterCount (uMD_statements σ v) = gMD_letterCount σ := rfl
theorem gu_MD_letterCount_takes (σ : tMD) (v : Nat → Int32) : gMD_letterCount (uMD_takes σ v) = gMD_letterCount σ := rfl
theorem gu_MD_letterCount_mandatories (σ : tMD) (v : Nat → Int32) : gMD_letterCount (uMD_mandatories σ v) = gMD_letterCount σ := rfl
theorem gu_MD_letterCount_mandatoryCount (σ : tMD) (v : Int32) : gMD_letterCount (uMD_mandatoryCount σ v) = gMD_letterCount σ := rfl
theorem gu_MD_letterCount_rows (σ : tMD) (v : Int32) : gMD_letterCount (uMD_rows σ v) = gMD_letterCount σ := rfl
theorem gu_MD_letterCount_makers (σ : tMD) (v : Nat → Int32) : gMD_letterCount (uMD_makers σ v) = gMD_letterCount σ := rfl
theorem gu_MD_letterCount_fromAt (σ : tMD) (v : Nat → Int32) : gMD_letterCount (uMD_fromAt σ v) = gMD_letterCount σ := rfl
theorem gu_MD_letterCount_firstSame (σ : tMD) (v : Nat → Int32) : gMD_letterCount (uMD_firstSame σ v) = gMD_letterCount σ := rfl
theorem gu_MD_letterCount_sizes (σ : tMD) (v : Nat → Int64) : gMD_letterCount (uMD_sizes σ v) = gMD_letterCount σ := rfl
theorem gu_MD_letterCount_froms (σ : tMD) (v : Nat → Int32) : gMD_letterCount (uMD_froms σ v) = gMD_letterCount σ := rfl
theorem gu_MD_letterCount_fromCount (σ : tMD) (v : Int32) : gMD_letterCount (uMD_fromCount σ v) = gMD_letterCount σ := rfl
theorem gu_MD_letterCount_pile (σ : tMD) (v : Nat → Int32) : gMD_letterCount (uMD_pile σ v) = gMD_letterCount σ := rfl
theorem gu_MD_letterCount_piled (σ : tMD) (v : Int32) : gMD_letterCount (uMD_piled σ v) = gMD_letterCount σ := rfl
theorem gu_MD_letterCount_puts (σ : tMD) (v : Int32) : gMD_letterCount (uMD_puts σ v) = gMD_letterCount σ := rfl
theorem gu_MD_letterCount_steps (σ : tMD) (v : Int32) : gMD_letterCount (uMD_steps σ v) = gMD_letterCount σ := rfl
theorem gu_MD_letterCount_toldStep (σ : tMD) (v : Nat → Int32) : gMD_letterCount (uMD_toldStep σ v) = gMD_letterCount σ := rfl
theorem gu_MD_letterCount_stepRow (σ : tMD) (v : Nat → Int32) : gMD_letterCount (uMD_stepRow σ v) = gMD_letterCount σ := rfl
theorem gu_MD_letterCount_isSaved (σ : tMD) (v : Nat → Int32) : gMD_letterCount (uMD_isSaved σ v) = gMD_letterCount σ := rfl
theorem gu_MD_letterCount_isTold (σ : tMD) (v : Nat → Int32) : gMD_letterCount (uMD_isTold σ v) = gMD_letterCount σ := rfl
theorem gu_MD_letterCount_savedNumber (σ : tMD) (v : Nat → Int32) : gMD_letterCount (uMD_savedNumber σ v) = gMD_letterCount σ := rfl
theorem gu_MD_letterCount_savedCount (σ : tMD) (v : Int32) : gMD_letterCount (uMD_savedCount σ v) = gMD_letterCount σ := rfl
theorem gu_MD_letterCount_labels (σ : tMD) (v : Nat → Int32) : gMD_letterCount (uMD_labels σ v) = gMD_letterCount σ := rfl
theorem gu_MD_letterCount_labelCount (σ : tMD) (v : Int32) : gMD_letterCount (uMD_labelCount σ v) = gMD_letterCount σ := rfl
theorem gu_MD_letterCount_letters (σ : tMD) (v : Nat → Int32) : gMD_letterCount (uMD_letters σ v) = gMD_letterCount σ := rfl
theorem gu_MD_letterCount_letterCount (σ : tMD) (v : Int32) : gMD_letterCount (uMD_letterCount σ v) = v := rfl
theorem gu_MD_letterCount_saving (σ : tMD) (v : Nat → Int32) : gMD_letterCount (uMD_saving σ v) = gMD_letterCount σ := rfl
theorem gu_MD_letterCount_walk (σ : tMD) (v : Nat → Int32) : gMD_letterCount (uMD_walk σ v) = gMD_letterCount σ := rfl
theorem gu_MD_letterCount_walkAt (σ : tMD) (v : Nat → Int32) : gMD_letterCount (uMD_walkAt σ v) = gMD_letterCount σ := rfl
theorem gu_MD_saving_statements (σ : tMD) (v : Int32) : gMD_saving (uMD_statements σ v) = gMD_saving σ := rfl
theorem gu_MD_saving_takes (σ : tMD) (v : Nat → Int32) : gMD_saving (uMD_takes σ v) = gMD_saving σ := rfl
theorem gu_MD_saving_mandatories (σ : tMD) (v : Nat → Int32) : gMD_saving (uMD_mandatories σ v) = gMD_saving σ := rfl
theorem gu_MD_saving_mandatoryCount (σ : tMD) (v : Int32) : gMD_saving (uMD_mandatoryCount σ v) = gMD_saving σ := rfl
theorem gu_MD_saving_rows (σ : tMD) (v : Int32) : gMD_saving (uMD_rows σ v) = gMD_saving σ := rfl
theorem gu_MD_saving_makers (σ : tMD) (v : Nat → Int32) : gMD_saving (uMD_makers σ v) = gMD_saving σ := rfl
theorem gu_MD_saving_fromAt (σ : tMD) (v : Nat → Int32) : gMD_saving (uMD_fromAt σ v) = gMD_saving σ := rfl
theorem gu_MD_saving_firstSame (σ : tMD) (v : Nat → Int32) : gMD_saving (uMD_firstSame σ v) = gMD_saving σ := rfl
theorem gu_MD_saving_sizes (σ : tMD) (v : Nat → Int64) : gMD_saving (uMD_sizes σ v) = gMD_saving σ := rfl
theorem gu_MD_saving_froms (σ : tMD) (v : Nat → Int32) : gMD_saving (uMD_froms σ v) = gMD_saving σ := rfl
theorem gu_MD_saving_fromCount (σ : tMD) (v : Int32) : gMD_saving (uMD_fromCount σ v) = gMD_saving σ := rfl
theorem gu_MD_saving_pile (σ : tMD) (v : Nat → Int32) : gMD_saving (uMD_pile σ v) = gMD_saving σ := rfl
theorem gu_MD_saving_piled (σ : tMD) (v : Int32) : gMD_saving (uMD_piled σ v) = gMD_saving σ := rfl
theorem gu_MD_saving_puts (σ : tMD) (v : Int32) : gMD_saving (uMD_puts σ v) = gMD_saving σ := rfl
theorem gu_MD_saving_steps (σ : tMD) (v : Int32) : gMD_saving (uMD_steps σ v) = gMD_saving σ := rfl
theorem gu_MD_saving_toldStep (σ : tMD) (v : Nat → Int32) : gMD_saving (uMD_toldStep σ v) = gMD_saving σ := rfl
theorem gu_MD_saving_stepRow (σ : tMD) (v : Nat → Int32) : gMD_saving (uMD_stepRow σ v) = gMD_saving σ := rfl
theorem gu_MD_saving_isSaved (σ : tMD) (v : Nat → Int32) : gMD_saving (uMD_isSaved σ v) = gMD_saving σ := rfl
theorem gu_MD_saving_isTold (σ : tMD) (v : Nat → Int32) : gMD_saving (uMD_isTold σ v) = gMD_saving σ := rfl
theorem gu_MD_saving_savedNumber (σ : tMD) (v : Nat → Int32) : gMD_saving (uMD_savedNumber σ v) = gMD_saving σ := rfl
theorem gu_MD_saving_savedCount (σ : tMD) (v : Int32) : gMD_saving (uMD_savedCount σ v) = gMD_saving σ := rfl
theorem gu_MD_saving_labels (σ : tMD) (v : Nat → Int32) : gMD_saving (uMD_labels σ v) = gMD_saving σ := rfl
theorem gu_MD_saving_labelCount (σ : tMD) (v : Int32) : gMD_saving (uMD_labelCount σ v) = gMD_saving σ := rfl
theorem gu_MD_saving_letters (σ : tMD) (v : Nat → Int32) : gMD_saving (uMD_letters σ v) = gMD_saving σ := rfl
theorem gu_MD_saving_letterCount (σ : tMD) (v : Int32) : gMD_saving (uMD_letterCount σ v) = gMD_saving σ := rfl
theorem gu_MD_saving_saving (σ : tMD) (v : Nat → Int32) : gMD_saving (uMD_saving σ v) = v := rfl
theorem gu_MD_saving_walk (σ : tMD) (v : Nat → Int32) : gMD_saving (uMD_walk σ v) = gMD_saving σ := rfl
theorem gu_MD_saving_walkAt (σ : tMD) (v : Nat → Int32) : gMD_saving (uMD_walkAt σ v) = gMD_saving σ := rfl
theorem gu_MD_walk_statements (σ : tMD) (v : Int32) : gMD_walk (uMD_statements σ v) = gMD_walk σ := rfl
theorem gu_MD_walk_takes (σ : tMD) (v : Nat → Int32) : gMD_walk (uMD_takes σ v) = gMD_walk σ := rfl
theorem gu_MD_walk_mandatories (σ : tMD) (v : Nat → Int32) : gMD_walk (uMD_mandatories σ v) = gMD_walk σ := rfl
theorem gu_MD_walk_mandatoryCount (σ : tMD) (v : Int32) : gMD_walk (uMD_mandatoryCount σ v) = gMD_walk σ := rfl
theorem gu_MD_walk_rows (σ : tMD) (v : Int32) : gMD_walk (uMD_rows σ v) = gMD_walk σ := rfl
theorem gu_MD_walk_makers (σ : tMD) (v : Nat → Int32) : gMD_walk (uMD_makers σ v) = gMD_walk σ := rfl
theorem gu_MD_walk_fromAt (σ : tMD) (v : Nat → Int32) : gMD_walk (uMD_fromAt σ v) = gMD_walk σ := rfl
theorem gu_MD_walk_firstSame (σ : tMD) (v : Nat → Int32) : gMD_walk (uMD_firstSame σ v) = gMD_walk σ := rfl
theorem gu_MD_walk_sizes (σ : tMD) (v : Nat → Int64) : gMD_walk (uMD_sizes σ v) = gMD_walk σ := rfl
theorem gu_MD_walk_froms (σ : tMD) (v : Nat → Int32) : gMD_walk (uMD_froms σ v) = gMD_walk σ := rfl
theorem gu_MD_walk_fromCount (σ : tMD) (v : Int32) : gMD_walk (uMD_fromCount σ v) = gMD_walk σ := rfl
theorem gu_MD_walk_pile (σ : tMD) (v : Nat → Int32) : gMD_walk (uMD_pile σ v) = gMD_walk σ := rfl
theorem gu_MD_walk_piled (σ : tMD) (v : Int32) : gMD_walk (uMD_piled σ v) = gMD_walk σ := rfl
theorem gu_MD_walk_puts (σ : tMD) (v : Int32) : gMD_walk (uMD_puts σ v) = gMD_walk σ := rfl
theorem gu_MD_walk_steps (σ : tMD) (v : Int32) : gMD_walk (uMD_steps σ v) = gMD_walk σ := rfl
theorem gu_MD_walk_toldStep (σ : tMD) (v : Nat → Int32) : gMD_walk (uMD_toldStep σ v) = gMD_walk σ := rfl
theorem gu_MD_walk_stepRow (σ : tMD) (v : Nat → Int32) : gMD_walk (uMD_stepRow σ v) = gMD_walk σ := rfl
theorem gu_MD_walk_isSaved (σ : tMD) (v : Nat → Int32) : gMD_walk (uMD_isSaved σ v) = gMD_walk σ := rfl
theorem gu_MD_walk_isTold (σ : tMD) (v : Nat → Int32) : gMD_walk (uMD_isTold σ v) = gMD_walk σ := rfl
theorem gu_MD_walk_savedNumber (σ : tMD) (v : Nat → Int32) : gMD_walk (uMD_savedNumber σ v) = gMD_walk σ := rfl
theorem gu_MD_walk_savedCount (σ : tMD) (v : Int32) : gMD_walk (uMD_savedCount σ v) = gMD_walk σ := rfl
theorem gu_MD_walk_labels (σ : tMD) (v : Nat → Int32) : gMD_walk (uMD_labels σ v) = gMD_walk σ := rfl
theorem gu_MD_walk_labelCount (σ : tMD) (v : Int32) : gMD_walk (uMD_labelCount σ v) = gMD_walk σ := rfl
theorem gu_MD_walk_letters (σ : tMD) (v : Nat → Int32) : gMD_walk (uMD_letters σ v) = gMD_walk σ := rfl
theorem gu_MD_walk_letterCount (σ : tMD) (v : Int32) : gMD_walk (uMD_letterCount σ v) = gMD_walk σ := rfl
theorem gu_MD_walk_saving (σ : tMD) (v : Nat → Int32) : gMD_walk (uMD_saving σ v) = gMD_walk σ := rfl
theorem gu_MD_walk_walk (σ : tMD) (v : Nat → Int32) : gMD_walk (uMD_walk σ v) = v := rfl
theorem gu_MD_walk_walkAt (σ : tMD) (v : Nat → Int32) : gMD_walk (uMD_walkAt σ v) = gMD_walk σ := rfl
theorem gu_MD_walkAt_statements (σ : tMD) (v : Int32) : gMD_walkAt (uMD_statements σ v) = gMD_walkAt σ := rfl
theorem gu_MD_walkAt_takes (σ : tMD) (v : Nat → Int32) : gMD_walkAt (uMD_takes σ v) = gMD_walkAt σ := rfl
theorem gu_MD_walkAt_mandatories (σ : tMD) (v : Nat → Int32) : gMD_walkAt (uMD_mandatories σ v) = gMD_walkAt σ := rfl
theorem gu_MD_walkAt_mandatoryCount (σ : tMD) (v : Int32) : gMD_walkAt (uMD_mandatoryCount σ v) = gMD_walkAt σ := rfl
theorem gu_MD_walkAt_rows (σ : tMD) (v : Int32) : gMD_walkAt (uMD_rows σ v) = gMD_walkAt σ := rfl
theorem gu_MD_walkAt_makers (σ : tMD) (v : Nat → Int32) : gMD_walkAt (uMD_makers σ v) = gMD_walkAt σ := rfl
theorem gu_MD_walkAt_fromAt (σ : tMD) (v : Nat → Int32) : gMD_walkAt (uMD_fromAt σ v) = gMD_walkAt σ := rfl
theorem gu_MD_walkAt_firstSame (σ : tMD) (v : Nat → Int32) : gMD_walkAt (uMD_firstSame σ v) = gMD_walkAt σ := rfl
theorem gu_MD_walkAt_sizes (σ : tMD) (v : Nat → Int64) : gMD_walkAt (uMD_sizes σ v) = gMD_walkAt σ := rfl
theorem gu_MD_walkAt_froms (σ : tMD) (v : Nat → Int32) : gMD_walkAt (uMD_froms σ v) = gMD_walkAt σ := rfl
theorem gu_MD_walkAt_fromCount (σ : tMD) (v : Int32) : gMD_walkAt (uMD_fromCount σ v) = gMD_walkAt σ := rfl
theorem gu_MD_walkAt_pile (σ : tMD) (v : Nat → Int32) : gMD_walkAt (uMD_pile σ v) = gMD_walkAt σ := rfl
theorem gu_MD_walkAt_piled (σ : tMD) (v : Int32) : gMD_walkAt (uMD_piled σ v) = gMD_walkAt σ := rfl
theorem gu_MD_walkAt_puts (σ : tMD) (v : Int32) : gMD_walkAt (uMD_puts σ v) = gMD_walkAt σ := rfl
theorem gu_MD_walkAt_steps (σ : tMD) (v : Int32) : gMD_walkAt (uMD_steps σ v) = gMD_walkAt σ := rfl
theorem gu_MD_walkAt_toldStep (σ : tMD) (v : Nat → Int32) : gMD_walkAt (uMD_toldStep σ v) = gMD_walkAt σ := rfl
theorem gu_MD_walkAt_stepRow (σ : tMD) (v : Nat → Int32) : gMD_walkAt (uMD_stepRow σ v) = gMD_walkAt σ := rfl
theorem gu_MD_walkAt_isSaved (σ : tMD) (v : Nat → Int32) : gMD_walkAt (uMD_isSaved σ v) = gMD_walkAt σ := rfl
theorem gu_MD_walkAt_isTold (σ : tMD) (v : Nat → Int32) : gMD_walkAt (uMD_isTold σ v) = gMD_walkAt σ := rfl
theorem gu_MD_walkAt_savedNumber (σ : tMD) (v : Nat → Int32) : gMD_walkAt (uMD_savedNumber σ v) = gMD_walkAt σ := rfl
theorem gu_MD_walkAt_savedCount (σ : tMD) (v : Int32) : gMD_walkAt (uMD_savedCount σ v) = gMD_walkAt σ := rfl
theorem gu_MD_walkAt_labels (σ : tMD) (v : Nat → Int32) : gMD_walkAt (uMD_labels σ v) = gMD_walkAt σ := rfl
theorem gu_MD_walkAt_labelCount (σ : tMD) (v : Int32) : gMD_walkAt (uMD_labelCount σ v) = gMD_walkAt σ := rfl
theorem gu_MD_walkAt_letters (σ : tMD) (v : Nat → Int32) : gMD_walkAt (uMD_letters σ v) = gMD_walkAt σ := rfl
theorem gu_MD_walkAt_letterCount (σ : tMD) (v : Int32) : gMD_walkAt (uMD_letterCount σ v) = gMD_walkAt σ := rfl
theorem gu_MD_walkAt_saving (σ : tMD) (v : Nat → Int32) : gMD_walkAt (uMD_saving σ v) = gMD_walkAt σ := rfl
theorem gu_MD_walkAt_walk (σ : tMD) (v : Nat → Int32) : gMD_walkAt (uMD_walk σ v) = gMD_walkAt σ := rfl
theorem gu_MD_walkAt_walkAt (σ : tMD) (v : Nat → Int32) : gMD_walkAt (uMD_walkAt σ v) = v := rfl
