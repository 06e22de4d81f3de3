/-! The words of 'throw new NoSuchElementException(text)': its constructor calls its superclass's by the constant 13 of its own pool (the kit's words take 7, which the tables do not hold for this class). -/
def nx_R : String := "java/util/NoSuchElementException"
def nx_all (own : String) (ic : Nat) : List Cond :=
  Bundle.throwableAtoms ++ Bundle.throwableSAtoms ++ (Bundle.passSAtoms nx_R "java/lang/RuntimeException" 13 prog_29_method_4_code ++ Bundle.chainSAtoms "java/lang/RuntimeException" ["java/lang/Exception"]) ++
  [.methodLink own ic (Bundle.initS nx_R), .instantiable nx_R 6, .castable nx_R nx_R, .selects nx_R Bundle.tFill0 Bundle.tFill0, .selects nx_R Bundle.tFill Bundle.tFill,
   .lays nx_R Bundle.tN "cause" "Ljava/lang/Throwable;", .lays nx_R Bundle.tN "stackTrace" Bundle.steD, .lays nx_R Bundle.tN "suppressedExceptions" Bundle.listD, .lays nx_R Bundle.tN "detailMessage" "Ljava/lang/String;",
   .isRef (.static Bundle.tN "UNASSIGNED_STACK" Bundle.steD), .isRef (.static Bundle.tN "SUPPRESSED_SENTINEL" Bundle.listD),
   .fieldLink Bundle.tN 198 Bundle.tN "backtrace" "Ljava/lang/Object;", .lays Bundle.tN Bundle.tN "backtrace" "Ljava/lang/Object;", .lays nx_R Bundle.tN "backtrace" "Ljava/lang/Object;"]
def nx_at (own : String) (ic : Nat) : List Cond := (nx_all own ic).filter vx_no
