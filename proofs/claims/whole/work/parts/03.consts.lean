/-! constant facts -/
def xv_isN (w : Cond) : Bool := match w with
  | .methodLinkNest .. => true
  | .fieldLinkNest .. => true
  | _ => false
theorem xv_Nwarm {w : Cond} {u U : State} (h : xv_isN w = true) (hW : u.WarmedH U.vm) (hz : va_Nw w u) : va_Nw w U := by
  cases w <;> first | exact va_Nw.warmM hW hz | exact va_Nw.warmF hW hz | (exfalso; revert h; simp [xv_isN])
def xv_tys (G : xv_G) : List (ClassId × FieldType) := [(xv_cA G 0, .int), (xv_cA G 1, .boolean), (xv_cA G 2, .long), (xv_cA G 3, .object "FaslDesk$Form"), (xv_cA G 4, .object "FaslDesk$Frame"), (xv_cA G 5, .object "FaslDesk$OpenForms"), (xv_cA G 6, .object "FaslDesk$Entry"), (xv_cA G 7, .object "FaslDesk$Code")]
theorem xv_tys_at {G : xv_G} {t : Nat} {C : String} (h : xv_ra[t]? = some C) : (xv_tys G)[3 + t]? = some (xv_cA G (3 + t), .object C) := by
  have ht : t < 5 := (List.getElem?_eq_some_iff.mp h).1
  rcases (by omega : t = 0 ∨ t = 1 ∨ t = 2 ∨ t = 3 ∨ t = 4) with rfl | rfl | rfl | rfl | rfl <;> (cases h; rfl)
theorem xv_nest_ok : ∀ w ∈ xv_nest, xv_isN w = true := by decide +kernel
/-! what a throw needs -/
def xNo (w : Cond) : Bool := match w with
  | .isRef _ => false
  | .laysStatic .. => false
  | _ => true
def xv_sites : List (String × Nat × String) := [("FaslDesk$Ints", 17, "java/lang/ArithmeticException"), ("FaslDesk$Interpreter", 48, "java/util/NoSuchElementException"), ("FaslDesk", 165, "java/util/NoSuchElementException"), ("FaslDesk$Image", 110, "java/lang/IllegalStateException")]
def xv_names : List String := ["java/lang/RuntimeException", "java/lang/Exception"]
/-- at which entry an exception's own constructor names its superclass's, and its code -/
def xv_lk (C : String) : Nat × ByteArray := if C = "java/util/NoSuchElementException" then (13, ⟨#[0x2a, 0x2b, 0xb7, 0x00, 0x0d, 0xb1]⟩) else (7, Bundle.six)
def xz_ok (w : Cond) : Bool := match w with
  | .code .. => false
  | .methodLink .. => false
  | _ => true
def xv_aw (q : String × Nat × String) : List Cond := Bundle.throwableAtoms ++ (Bundle.throwableSAtoms ++ (Bundle.passSAtoms q.2.2 "java/lang/RuntimeException" (xv_lk q.2.2).1 (xv_lk q.2.2).2 ++ (Bundle.chainSAtoms "java/lang/RuntimeException" ["java/lang/Exception"] ++ (.methodLink q.1 q.2.1 (Bundle.initS q.2.2) :: (Bundle.ownAtoms q.1 q.2.1 q.2.2 xv_names).filter xz_ok))))
def xv_thw : List Cond := xv_sites.flatMap (fun q => (xv_aw q).filter xNo)
def xv_strs : List (String × Nat × String) := [("FaslDesk$Ints", 15, "ZERO"), ("FaslDesk$Interpreter", 46, "the FUNCTION has no form"), ("FaslDesk", 163, "the IMAGE has no such FUNCTION"), ("FaslDesk$Image", 108, "the IMAGE does not have what a CALL leads to")]
set_option maxRecDepth 100000 in
theorem xv_thw_ok : ∀ w ∈ xv_thw, w.onTables = true ∧ w.keepsFace = true := by decide +kernel
theorem xv_tmove {w : Cond} {u U : State} (h1 : w.onTables = true) (h2 : w.keepsFace = true) (hW : u.WarmedH U.vm) (h : va_Nw w u) : va_Nw w U := va_tabs h1 (rfl : (u.setVm U.vm).vm = U.vm) (Cond.rides hW.wide h2 h)
/-- a static field's place, out of A -/
def xv_SL (C n d : String) (A : Nat → Prop) (U : State) (H : Heap) : Prop := ∃ (c : ClassId) (k : Class) (i : Nat) (f : Field) (a : Nat) (cell : Cell), (U.vm.findClass C = some c ∧ U.fieldFound? C n d = some (c, k, i, f) ∧ f.isStatic = true ∧ k.statics = some a ∧ cell.vm.isStatics = true ∧ cell.cls = c ∧ f.slot < cell.slots.size ∧ k.staticTypes[f.slot]? = some f.type) ∧ H[a]? = some cell ∧ ¬ A a
theorem xv_SL_moved {C n d : String} {A : Nat → Prop} {u U : State} {H H1 : Heap} (hvm : u.vm.Alike U.vm) (hq : ∀ a : Nat, a < H.size → ¬ A a → H1[a]? = H[a]?) (h : xv_SL C n d A u H) : xv_SL C n d A U H1 := by
  obtain ⟨c, k, i, f, a, cell, ⟨h1, h2, h3, h4, h5, h6, h7, h8⟩, h9, h10⟩ := h
  obtain ⟨k', hi', he⟩ := State.fieldFound?_setVm hvm h2
  exact ⟨c, k', i, f, a, cell, ⟨by rw [hvm.findClass]; exact h1, hi', h3, by rw [he]; exact h4, h5, h6, h7, by rw [he]; exact h8⟩, by rw [hq a (Array.getElem?_eq_some_iff.mp h9).1 h10]; exact h9, h10⟩
theorem xv_SL_word {C n d : String} {A : Nat → Prop} {U : State} {args : Array Value} (h : xv_SL C n d A U U.heap) : (Cond.laysStatic C n d).before args U = true := by
  obtain ⟨c, k, i, f, a, cell, ⟨h1, h2, h3, h4, h5, h6, h7, h8⟩, h9, h10⟩ := h
  show (Cond.laysStatic C n d).holds args U none U [] = true
  exact Cond.laysStatic_of h1 h2 h3 h4 h9 h5 h6 h7 h8
theorem xv_SL_of {C n d : String} {A : Nat → Prop} {s : State} {args : Array Value} (hl : (Cond.laysStatic C n d).before args s = true) (hA : ∀ a : Nat, a < s.heap.size → ¬ A a) : xv_SL C n d A s s.heap := by
  obtain ⟨c, k, i, f, a, cell, h1, h2, h3, h4, h5, h6, h7, h8, h9⟩ := Cond.laysStatic_spec hl
  exact ⟨c, k, i, f, a, cell, ⟨h1, h2, h3, h4, h6, h7, h8, h9⟩, h5, hA a (Array.getElem?_eq_some_iff.mp h5).1⟩
theorem xv_isR {C n d : String} {A : Nat → Prop} {s : State} {args : Array Value} (h : va_Zq C n d A s s.heap) : (Cond.isRef (.static C n d)).before args s = true := by
  rcases h with h | ⟨t, h⟩
  · obtain ⟨cf, kf, fi, f, a, cell, h1, h2, h3, h4, h5, h6, h7, -⟩ := h
    have he : (Term.static C n d).eval args s none [] s = some .null := by
      simp [Term.eval, State.fieldNamed?, h1, h2, h4, h5, h6, h7]
    simp [Cond.before, Cond.holds, Cond.value, he]
  · obtain ⟨cf, kf, fi, f, a, cell, h1, h2, h3, h4, h5, h6, h7, -⟩ := h
    have he : (Term.static C n d).eval args s none [] s = some (.ref t) := by
      simp [Term.eval, State.fieldNamed?, h1, h2, h4, h5, h6, h7]
    simp [Cond.before, Cond.holds, Cond.value, he]
def xv_Th (G : xv_G) (U : State) (H : Heap) : Prop := (∀ w ∈ xv_thw, va_Nw w U) ∧ (va_Zq Bundle.tN "UNASSIGNED_STACK" Bundle.steD (xv_A G) U H ∧ xv_SL Bundle.tN "UNASSIGNED_STACK" Bundle.steD (xv_A G) U H) ∧ (va_Zq Bundle.tN "SUPPRESSED_SENTINEL" Bundle.listD (xv_A G) U H ∧ xv_SL Bundle.tN "SUPPRESSED_SENTINEL" Bundle.listD (xv_A G) U H) ∧ ∀ q ∈ xv_strs, ∃ sa, vk_R q.1 q.2.1 q.2.2 sa U
theorem xv_Th_moved {G : xv_G} {u U : State} {H H1 : Heap} (hW : u.WarmedH U.vm) (h : xv_Th G u H) (hq : ∀ q : Nat, q < H.size → ¬ xv_A G q → H1[q]? = H[q]?) : xv_Th G U H1 := by
  obtain ⟨h1, ⟨h2, h3⟩, ⟨h4, h5⟩, h6⟩ := h
  refine ⟨fun w hw => xv_tmove (xv_thw_ok w hw).1 (xv_thw_ok w hw).2 hW (h1 w hw), ⟨(va_Zq.moved hW.alike h2).kept hq, xv_SL_moved hW.alike hq h3⟩, ⟨(va_Zq.moved hW.alike h4).kept hq, xv_SL_moved hW.alike hq h5⟩, fun q hq' => ?_⟩
  obtain ⟨sa, h⟩ := h6 q hq'
  exact ⟨sa, vk_R.warm hW h⟩
/-- what the law catches is told apart -/
def xv_Ng (U : State) : Prop := ∀ i j, 12 ≤ i → i ≤ 14 → 12 ≤ j → j ≤ 14 → i ≠ j → ∃ ci cj, U.vm.findClass (xv_nm i) = some ci ∧ U.vm.findClass (xv_nm j) = some cj ∧ U.vm.assignable ci cj = false
theorem xv_Ng_moved {u U : State} (hW : u.WarmedH U.vm) (h : xv_Ng u) : xv_Ng U := fun i j a b c d e => by
  obtain ⟨ci, cj, h1, h2, h3⟩ := h i j a b c d e
  exact ⟨ci, cj, by rw [hW.alike.findClass]; exact h1, by rw [hW.alike.findClass]; exact h2, by rw [hW.alike.assignable]; exact h3⟩
def xv_K (G : xv_G) (U : State) (H : Heap) : Prop :=
  va_K (xv_dG G) xv_cl (xv_tys G) U ∧ (∀ w ∈ xv_nest, va_Nw w U) ∧
  (∀ k, k < xv_ns → va_Z (xv_sC k) (xv_sn k) "[I" (.ref (xv_ex G k)) (xv_A G) U H ∧ va_T .int (xv_ex G k) (xv_sN k) (fun j => .int (xv_sf k j)) (xv_A G) U H) ∧
  (va_X (xv_ex G 9) G.2.2.2.2.1 G.2.2.2.2.2 U H ∧ xv_ex G 9 < H.size ∧ ¬ xv_A G (xv_ex G 9)) ∧ (∀ C ∈ xv_ra, va_AO C U) ∧ xv_B G ≤ H.size ∧ xv_Th G U H ∧ xv_Ng U
theorem xv_K_moved {G : xv_G} {u U : State} {H H1 : Heap} (hW : u.WarmedH U.vm) (h : xv_K G u H) (hz : H.size ≤ H1.size) (hq : ∀ q : Nat, q < H.size → ¬ xv_A G q → H1[q]? = H[q]?) : xv_K G U H1 := by
  obtain ⟨h1, h2, h3, ⟨h4, h5, h6⟩, h8, h7, h9, h10⟩ := h
  refine ⟨va_K.moved hW.alike h1, fun w hw => xv_Nwarm (xv_nest_ok w hw) hW (h2 w hw), fun k hk => ⟨(va_Z.moved hW.alike (h3 k hk).1).kept hq, (va_T.moved hW.alike (h3 k hk).2).kept hq⟩, ⟨(va_X.moved hW.alike h4).kept (hq _ h5 h6), Nat.lt_of_lt_of_le h5 hz, h6⟩, fun C hC => va_AO.moved hW.alike (h8 C hC), Nat.le_trans h7 hz, xv_Th_moved hW h9 hq, xv_Ng_moved hW h10⟩
