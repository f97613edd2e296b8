/-! constant facts -/
def xv_isN (w : Cond) : Bool := match w with
  | .methodLinkNest .. => true
  | .fieldLinkNest .. => true
  | _ => false
theorem xv_Nwarm {w : Cond} {u U : State} (h : xv_isN w = true) (hW : u.WarmedH U.vm) (hz : va_Nw w u) : va_Nw w U := by
  cases w <;> first | exact va_Nw.warmM hW hz | exact va_Nw.warmF hW hz | (exfalso; revert h; simp [xv_isN])
def xv_tys (G : xv_G) : List (ClassId × FieldType) := [(xv_cA G 0, .int), (xv_cA G 1, .boolean), (xv_cA G 2, .long), (xv_cA G 3, .object "FaslDesk$Form"), (xv_cA G 4, .object "FaslDesk$Frame"), (xv_cA G 5, .object "FaslDesk$OpenForms"), (xv_cA G 6, .object "FaslDesk$Entry"), (xv_cA G 7, .object "FaslDesk$Code")]
theorem xv_tys_at {G : xv_G} {t : Nat} {C : String} (h : xv_ra[t]? = some C) : (xv_tys G)[3 + t]? = some (xv_cA G (3 + t), .object C) := by
  have ht : t < 5 := (List.getElem?_eq_some_iff.mp h).1
  rcases (by omega : t = 0 ∨ t = 1 ∨ t = 2 ∨ t = 3 ∨ t = 4) with rfl | rfl | rfl | rfl | rfl <;> (cases h; rfl)
theorem xv_nest_ok : ∀ w ∈ xv_nest, xv_isN w = true := by decide +kernel
def xv_K (G : xv_G) (U : State) (H : Heap) : Prop :=
  va_K (xv_dG G) xv_cl (xv_tys G) U ∧ (∀ w ∈ xv_nest, va_Nw w U) ∧
  (∀ k, k < xv_ns → va_Z (xv_sC k) (xv_sn k) "[I" (.ref (xv_ex G k)) (xv_A G) U H ∧ va_T .int (xv_ex G k) (xv_sN k) (fun j => .int (xv_sf k j)) (xv_A G) U H) ∧
  (va_X (xv_ex G 9) G.2.2.2.2.1 G.2.2.2.2.2 U H ∧ xv_ex G 9 < H.size ∧ ¬ xv_A G (xv_ex G 9)) ∧ (∀ C ∈ xv_ra, va_AO C U) ∧ xv_B G ≤ H.size
theorem xv_K_moved {G : xv_G} {u U : State} {H H1 : Heap} (hW : u.WarmedH U.vm) (h : xv_K G u H) (hz : H.size ≤ H1.size) (hq : ∀ q : Nat, q < H.size → ¬ xv_A G q → H1[q]? = H[q]?) : xv_K G U H1 := by
  obtain ⟨h1, h2, h3, ⟨h4, h5, h6⟩, h8, h7⟩ := h
  refine ⟨va_K.moved hW.alike h1, fun w hw => xv_Nwarm (xv_nest_ok w hw) hW (h2 w hw), fun k hk => ⟨(va_Z.moved hW.alike (h3 k hk).1).kept hq, (va_T.moved hW.alike (h3 k hk).2).kept hq⟩, ⟨(va_X.moved hW.alike h4).kept (hq _ h5 h6), Nat.lt_of_lt_of_le h5 hz, h6⟩, fun C hC => va_AO.moved hW.alike (h8 C hC), Nat.le_trans h7 hz⟩
