/-! a throw of java/util/NoSuchElementException: its constructor's super call has another entry than the common one -/
def nsX : String := "java/util/NoSuchElementException"
def nsB : ByteArray := ⟨#[0x2a, 0x2b, 0xb7, 0x00, 0x0d, 0xb1]⟩
def nsW (w : Cond) : Cond := if w = .code (Bundle.initS nsX) Bundle.six 2 none then .code (Bundle.initS nsX) nsB 2 none else if w = .methodLink nsX 7 (Bundle.initS "java/lang/RuntimeException") then .methodLink nsX 13 (Bundle.initS "java/lang/RuntimeException") else w
def nsL : List Cond := (Bundle.ownAtoms RX10 175 nsX VXN).map nsW
def nsF : List Cond := (nsL.filter vx_no).filter goodWord
theorem nsM1 : ∀ w ∈ Bundle.throwableAtoms, w ∈ nsL := by decide +kernel
theorem nsM2 : ∀ w ∈ Bundle.throwableSAtoms, w ∈ nsL := by decide +kernel
theorem nsM3 : ∀ w ∈ Bundle.passSAtoms nsX "java/lang/RuntimeException" 13 nsB, w ∈ nsL := by decide +kernel
theorem nsM4 : ∀ w ∈ Bundle.chainSAtoms "java/lang/RuntimeException" ["java/lang/Exception"], w ∈ nsL := by decide +kernel
theorem nsM5 : ∀ w ∈ ([.methodLink RX10 175 (Bundle.initS nsX), .instantiable nsX 6, .castable nsX nsX, .selects nsX Bundle.tFill0 Bundle.tFill0, .selects nsX Bundle.tFill Bundle.tFill, .lays nsX Bundle.tN "cause" "Ljava/lang/Throwable;", .lays nsX Bundle.tN "stackTrace" Bundle.steD, .lays nsX Bundle.tN "suppressedExceptions" Bundle.listD, .lays nsX Bundle.tN "detailMessage" "Ljava/lang/String;", .isRef (.static Bundle.tN "UNASSIGNED_STACK" Bundle.steD), .isRef (.static Bundle.tN "SUPPRESSED_SENTINEL" Bundle.listD), .fieldLink Bundle.tN 198 Bundle.tN "backtrace" "Ljava/lang/Object;", .lays Bundle.tN Bundle.tN "backtrace" "Ljava/lang/Object;", .lays nsX Bundle.tN "backtrace" "Ljava/lang/Object;"] : List Cond), w ∈ nsL := by decide +kernel
theorem nsVb : ((nsL.filter vx_no).all fun w => goodWord w || XBL.any fun v => decide (w = v)) = true := by decide +kernel
theorem nsVo : (nsL.filter vx_no).all vx_ot = true := by decide +kernel
theorem nsTb : ∀ w ∈ nsF, w ∈ lw_tbl := by decide +kernel
