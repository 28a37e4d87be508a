/-! NoSuchElementException: its constructor calls the next by another index (13) than the other three's (7); its words. -/
def q_six : ByteArray := ⟨#[0x2a, 0x2b, 0xb7, 0x00, 0x0d, 0xb1]⟩
def q_ownN (own : String) (ic : Nat) : List Cond := Bundle.throwableAtoms ++ (Bundle.throwableSAtoms ++ (Bundle.passSAtoms "java/util/NoSuchElementException" "java/lang/RuntimeException" 13 q_six ++ (Bundle.chainSAtoms "java/lang/RuntimeException" ["java/lang/Exception"] ++ (Bundle.ownAtoms own ic "java/util/NoSuchElementException" []).drop 33)))
def q_atN (own : String) (ic : Nat) : List Cond := (q_ownN own ic).filter vx_no
