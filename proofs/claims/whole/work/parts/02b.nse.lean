/-! NoSuchElementException(String) calls its superclass by entry 13 of its pool (the others: 7): its words, by that entry. -/
def zr_six : ByteArray := ⟨#[0x2a, 0x2b, 0xb7, 0x00, 0x0d, 0xb1]⟩
theorem zr_six_0 : decode zr_six 0 = .ok (.aload_n 0, 1) := by decide +kernel
theorem zr_six_1 : decode zr_six 1 = .ok (.aload_n 1, 1) := by decide +kernel
theorem zr_six_2 : decode zr_six 2 = .ok (.invokespecial 13, 3) := by decide +kernel
theorem zr_six_5 : decode zr_six 5 = .ok (.return_, 1) := by decide +kernel
def zr_chain (X : String) : List String → List Cond
  | [] => Bundle.passSAtoms X Bundle.tN 13 zr_six
  | Y :: r => Bundle.passSAtoms X Y 13 zr_six ++ Bundle.chainSAtoms Y r
def zr_own (own : String) (ic : Nat) (X : String) (names : List String) : List Cond :=
  Bundle.throwableAtoms ++ Bundle.throwableSAtoms ++ zr_chain X names ++
  [.methodLink own ic (Bundle.initS X), .instantiable X 6, .castable X X, .selects X Bundle.tFill0 Bundle.tFill0, .selects X Bundle.tFill Bundle.tFill,
   .lays X Bundle.tN "cause" "Ljava/lang/Throwable;", .lays X Bundle.tN "stackTrace" Bundle.steD, .lays X Bundle.tN "suppressedExceptions" Bundle.listD, .lays X Bundle.tN "detailMessage" "Ljava/lang/String;",
   .isRef (.static Bundle.tN "UNASSIGNED_STACK" Bundle.steD), .isRef (.static Bundle.tN "SUPPRESSED_SENTINEL" Bundle.listD),
   .fieldLink Bundle.tN 198 Bundle.tN "backtrace" "Ljava/lang/Object;", .lays Bundle.tN Bundle.tN "backtrace" "Ljava/lang/Object;", .lays X Bundle.tN "backtrace" "Ljava/lang/Object;"]
def zr_atS (own : String) (ic : Nat) (X : String) (names : List String) : List Cond := (zr_own own ic X names).filter vx_no
