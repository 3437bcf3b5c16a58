/-! NoSuchElementException: its constructor's super call is number 13, not 7 -/
abbrev nsE : String := "java/util/NoSuchElementException"
abbrev nsR : String := "java/lang/RuntimeException"
abbrev nsU : List String := ["java/lang/RuntimeException", "java/lang/Exception"]
abbrev nsB : ByteArray := ⟨#[42, 43, 183, 0, 13, 177]⟩
def nsAll : List Cond := (Bundle.ownAtoms RX6 95 nsE nsU).filter (fun w => decide (w ≠ .code (Bundle.initS nsE) Bundle.six 2 none) && decide (w ≠ .methodLink nsE 7 (Bundle.initS nsR))) ++ [.code (Bundle.initS nsE) nsB 2 none, .methodLink nsE 13 (Bundle.initS nsR)]
def nsAt : List Cond := nsAll.filter vx_no
