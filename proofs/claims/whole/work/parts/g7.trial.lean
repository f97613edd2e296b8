/-! an exception whose own constructor may name its superclass's at any entry -/
def xv_lk (C : String) : Nat × ByteArray := if C = "java/util/NoSuchElementException" then (13, ⟨#[0x2a, 0x2b, 0xb7, 0x00, 0x0d, 0xb1]⟩) else (7, Bundle.six)
def xz_ok (w : Cond) : Bool := match w with
  | .code .. => false
  | .methodLink .. => false
  | _ => true
def xv_aw (q : String × Nat × String) : List Cond := Bundle.throwableAtoms ++ (Bundle.throwableSAtoms ++ (Bundle.passSAtoms q.2.2 "java/lang/RuntimeException" (xv_lk q.2.2).1 (xv_lk q.2.2).2 ++ (Bundle.chainSAtoms "java/lang/RuntimeException" ["java/lang/Exception"] ++ (.methodLink q.1 q.2.1 (Bundle.initS q.2.2) :: (Bundle.ownAtoms q.1 q.2.1 q.2.2 xv_names).filter xz_ok))))
theorem lw_thw : ∀ w ∈ xv_sites.flatMap (fun q => (xv_aw q).filter xNo), w ∈ lw_tbl := by decide +kernel

