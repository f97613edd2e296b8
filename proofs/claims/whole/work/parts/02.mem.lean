/-! MEMORY: an abstract memory: how many cells and slots; of a cell its kind (0 none; ci + 1 an object of the class with number ci; 100 int[], 101 boolean[], 102 long[], 103 and on arrays of references), its length, its ints, references (numbers of cells), longs -/
abbrev xv_M : Type := (Nat × Nat) × (Nat → Nat) × (Nat → Nat) × (Nat → Nat → Int32) × (Nat → Nat → Option Nat) × (Nat → Nat → Int64)
def xv_N (u : xv_M) : Nat := u.1.1
def xv_S (u : xv_M) : Nat := u.1.2
def xv_k (u : xv_M) (a : Nat) : Nat := u.2.1 a
def xv_l (u : xv_M) (a : Nat) : Nat := u.2.2.1 a
def xv_i (u : xv_M) (a j : Nat) : Int32 := u.2.2.2.1 a j
def xv_r (u : xv_M) (a j : Nat) : Option Nat := u.2.2.2.2.1 a j
def xv_g (u : xv_M) (a j : Nat) : Int64 := u.2.2.2.2.2 a j
def xv_mk (N S : Nat) (k l : Nat → Nat) (i : Nat → Nat → Int32) (r : Nat → Nat → Option Nat) (g : Nat → Nat → Int64) : xv_M := ((N, S), k, l, i, r, g)
def xv_si (u : xv_M) (a j : Nat) (v : Int32) : xv_M := xv_mk (xv_N u) (xv_S u) (xv_k u) (xv_l u) (fun b q => if b = a ∧ q = j then v else xv_i u b q) (xv_r u) (xv_g u)
def xv_sr (u : xv_M) (a j : Nat) (v : Option Nat) : xv_M := xv_mk (xv_N u) (xv_S u) (xv_k u) (xv_l u) (xv_i u) (fun b q => if b = a ∧ q = j then v else xv_r u b q) (xv_g u)
def xv_sg (u : xv_M) (a j : Nat) (v : Int64) : xv_M := xv_mk (xv_N u) (xv_S u) (xv_k u) (xv_l u) (xv_i u) (xv_r u) (fun b q => if b = a ∧ q = j then v else xv_g u b q)
/-- a whole row of ints anew -/
def xv_sw (u : xv_M) (a : Nat) (f : Nat → Int32) : xv_M := xv_mk (xv_N u) (xv_S u) (xv_k u) (xv_l u) (fun b q => if b = a then f q else xv_i u b q) (xv_r u) (xv_g u)
/-- a new cell: kind, length, slots -/
def xv_nw (u : xv_M) (k n sl : Nat) : xv_M := xv_mk (xv_N u + 1) (xv_S u + sl) (fun b => if b = xv_N u then k else xv_k u b) (fun b => if b = xv_N u then n else xv_l u b) (fun b q => if b = xv_N u then 0 else xv_i u b q) (fun b q => if b = xv_N u then none else xv_r u b q) (fun b q => if b = xv_N u then 0 else xv_g u b q)
def xv_wf (u : xv_M) : Prop := ∀ a, xv_k u a ≠ 0 → a < xv_N u
/-- base, external arrays, array classes, classes and slots, the script's length and ints -/
abbrev xv_G : Type := Nat × (Nat → Nat) × (Nat → ClassId) × va_G × Nat × (Nat → Int32)
def xv_B (G : xv_G) : Nat := G.1
def xv_ex (G : xv_G) : Nat → Nat := G.2.1
def xv_cA (G : xv_G) : Nat → ClassId := G.2.2.1
def xv_dG (G : xv_G) : va_G := G.2.2.2.1
def xv_A (G : xv_G) : Nat → Prop := fun q => xv_B G ≤ q
def xv_cv (G : xv_G) (v : Value) : Value := match v with
  | .ref a => .ref (xv_B G + a)
  | .retAddr k => .ref (xv_ex G k)
  | w => w
def xv_rq (G : xv_G) (r : Option Nat) : Option Nat := r.map (fun b => xv_B G + b)
def xv_fv (G : xv_G) (u : xv_M) (a ci j : Nat) : Value := if xv_rf ci j = true then va_rf (xv_rq G (xv_r u a j)) else .int (xv_i u a j)
def xv_fs (G : xv_G) (u : xv_M) (a ci : Nat) : List Value := (List.range (xv_nf ci)).map (xv_fv G u a ci)
def xv_ar (G : xv_G) (u : xv_M) (a k : Nat) : vp_A := (xv_l u a, if k < 102 then .inl (xv_i u a) else if k = 102 then .inr (.inl (xv_g u a)) else .inr (.inr (.inr (.inr (fun j => xv_rq G (xv_r u a j))))))
def xv_E (G : xv_G) (u : xv_M) (a : Nat) : va_E := if xv_k u a < 100 then .inr (xv_k u a - 1, xv_fs G u a (xv_k u a - 1)) else .inl (xv_cA G (xv_k u a - 100), xv_ar G u a (xv_k u a))
def xv_ws (G : xv_G) (u : xv_M) : va_W := (List.range (xv_N u)).map (fun a => (xv_B G + a, xv_E G u a))
theorem xv_ws_get {G : xv_G} {u : xv_M} {a : Nat} (h : a < xv_N u) : (xv_ws G u)[a]? = some (xv_B G + a, xv_E G u a) := by
  unfold xv_ws
  rw [List.getElem?_map, List.getElem?_range h]
  rfl
theorem xv_ws_inv {G : xv_G} {u : xv_M} {k : Nat} {q : Nat × va_E} (h : (xv_ws G u)[k]? = some q) : k < xv_N u ∧ q = (xv_B G + k, xv_E G u k) := by
  have hk : k < xv_N u := by
    have := (List.getElem?_eq_some_iff.mp h).1
    simpa [xv_ws] using this
  rw [xv_ws_get hk] at h
  exact ⟨hk, (Option.some.inj h).symm⟩
theorem xv_ws_set {G : xv_G} {u w : xv_M} {a : Nat} {e : va_E} (hN : xv_N w = xv_N u) (he : xv_E G w a = e) (ho : ∀ b, b ≠ a → xv_E G w b = xv_E G u b) : (xv_ws G u).set a (xv_B G + a, e) = xv_ws G w := by
  apply List.ext_getElem?
  intro k
  rw [List.getElem?_set]
  by_cases hk : k < xv_N u
  · have hk' : k < xv_N w := by rw [hN]; exact hk
    rw [xv_ws_get hk', xv_ws_get hk]
    by_cases ha : a = k
    · subst ha
      have hl : a < (xv_ws G u).length := by simpa [xv_ws] using hk
      simp [hl, he]
    · rw [if_neg ha, ho k (fun q => ha q.symm)]
  · have h1 : (xv_ws G u)[k]? = none := by
      apply List.getElem?_eq_none
      simpa [xv_ws] using hk
    have h2 : (xv_ws G w)[k]? = none := by
      apply List.getElem?_eq_none
      simpa [xv_ws, hN] using hk
    have h3 : ¬ k < (xv_ws G u).length := by simpa [xv_ws] using hk
    rw [h1, h2]
    by_cases ha : a = k
    · subst ha; simp [h3]
    · rw [if_neg ha]
theorem xv_ws_push {G : xv_G} {u w : xv_M} {e : va_E} (hN : xv_N w = xv_N u + 1) (he : xv_E G w (xv_N u) = e) (ho : ∀ b, b < xv_N u → xv_E G w b = xv_E G u b) : xv_ws G u ++ [(xv_B G + xv_N u, e)] = xv_ws G w := by
  unfold xv_ws
  rw [hN, List.range_succ, List.map_append]
  congr 1
  · apply List.map_congr_left
    intro b hb
    rw [ho b (List.mem_range.mp hb)]
  · simp [he]
theorem xv_D (G : xv_G) (u : xv_M) : va_D (xv_A G) (xv_ws G u) := by
  refine ⟨fun i j p q hp hq h => ?_, fun k q hq => ?_⟩
  · obtain ⟨-, rfl⟩ := xv_ws_inv hp
    obtain ⟨-, rfl⟩ := xv_ws_inv hq
    have h : xv_B G + i = xv_B G + j := h
    omega
  · obtain ⟨-, rfl⟩ := xv_ws_inv hq
    exact Nat.le_add_right _ _
theorem xv_E_obj {G : xv_G} {u : xv_M} {a ci : Nat} (hk : xv_k u a = ci + 1) (hc : ci < 99) : xv_E G u a = .inr (ci, xv_fs G u a ci) := by
  unfold xv_E
  rw [if_pos (by omega), hk]
  rfl
theorem xv_E_arr {G : xv_G} {u : xv_M} {a t : Nat} (hk : xv_k u a = 100 + t) : xv_E G u a = .inl (xv_cA G t, xv_ar G u a (100 + t)) := by
  unfold xv_E
  rw [if_neg (by omega), hk, Nat.add_sub_cancel_left]
theorem xv_E_int {G : xv_G} {u : xv_M} {a t : Nat} (hk : xv_k u a = 100 + t) (ht : t < 2) : xv_E G u a = .inl (xv_cA G t, xv_l u a, .inl (xv_i u a)) := by
  rw [xv_E_arr hk]
  unfold xv_ar
  rw [if_pos (by omega)]
theorem xv_E_long {G : xv_G} {u : xv_M} {a : Nat} (hk : xv_k u a = 102) : xv_E G u a = .inl (xv_cA G 2, xv_l u a, .inr (.inl (xv_g u a))) := by
  rw [xv_E_arr (t := 2) hk]
  rfl
theorem xv_E_ref {G : xv_G} {u : xv_M} {a t : Nat} (hk : xv_k u a = 103 + t) : xv_E G u a = .inl (xv_cA G (3 + t), xv_l u a, .inr (.inr (.inr (.inr (fun j => xv_rq G (xv_r u a j)))))) := by
  rw [xv_E_arr (t := 3 + t) (by omega)]
  unfold xv_ar
  rw [if_neg (by omega), if_neg (by omega)]
theorem xv_fs_get {G : xv_G} {u : xv_M} {a ci j : Nat} (h : j < xv_nf ci) : (xv_fs G u a ci)[j]? = some (xv_fv G u a ci j) := by
  unfold xv_fs
  rw [List.getElem?_map, List.getElem?_range h]
  rfl
theorem xv_fs_len (G : xv_G) (u : xv_M) (a ci : Nat) : (xv_fs G u a ci).length = xv_nf ci := by simp [xv_fs]
theorem xv_fs_set {G : xv_G} {u w : xv_M} {a ci j : Nat} {v : Value} (hv : xv_fv G w a ci j = v) (ho : ∀ q, q ≠ j → xv_fv G w a ci q = xv_fv G u a ci q) : (xv_fs G u a ci).set j v = xv_fs G w a ci := by
  apply List.ext_getElem?
  intro k
  rw [List.getElem?_set]
  by_cases hk : k < xv_nf ci
  · rw [xv_fs_get hk, xv_fs_get hk]
    by_cases ha : j = k
    · subst ha
      rw [if_pos rfl, if_pos (by rw [xv_fs_len]; exact hk), hv]
    · rw [if_neg ha, ho k (fun q => ha q.symm)]
  · have h1 : (xv_fs G u a ci)[k]? = none := by
      apply List.getElem?_eq_none
      rw [xv_fs_len]; omega
    have h2 : (xv_fs G w a ci)[k]? = none := by
      apply List.getElem?_eq_none
      rw [xv_fs_len]; omega
    have h3 : ¬ k < (xv_fs G u a ci).length := by rw [xv_fs_len]; exact hk
    rw [h1, h2]
    by_cases ha : j = k
    · subst ha; rw [if_pos rfl, if_neg h3]
    · rw [if_neg ha]
/-! what a cell is after a change elsewhere -/
theorem xv_E_congr {G : xv_G} {u w : xv_M} {b : Nat} (hk : xv_k w b = xv_k u b) (hl : xv_l w b = xv_l u b) (hi : xv_i w b = xv_i u b) (hr : xv_r w b = xv_r u b) (hg : xv_g w b = xv_g u b) : xv_E G w b = xv_E G u b := by
  have hfs : ∀ ci, xv_fs G w b ci = xv_fs G u b ci := by
    intro ci
    unfold xv_fs xv_fv
    rw [hi, hr]
  have har : ∀ k, xv_ar G w b k = xv_ar G u b k := by
    intro k
    unfold xv_ar
    rw [hi, hr, hg, hl]
  unfold xv_E
  rw [hk, hfs, har]
theorem xv_si_E {G : xv_G} {u : xv_M} {a j b : Nat} {v : Int32} (h : b ≠ a) : xv_E G (xv_si u a j v) b = xv_E G u b :=
  xv_E_congr rfl rfl (funext fun q => if_neg (fun z => h z.1)) rfl rfl
theorem xv_sr_E {G : xv_G} {u : xv_M} {a j b : Nat} {v : Option Nat} (h : b ≠ a) : xv_E G (xv_sr u a j v) b = xv_E G u b :=
  xv_E_congr rfl rfl rfl (funext fun q => if_neg (fun z => h z.1)) rfl
theorem xv_sg_E {G : xv_G} {u : xv_M} {a j b : Nat} {v : Int64} (h : b ≠ a) : xv_E G (xv_sg u a j v) b = xv_E G u b :=
  xv_E_congr rfl rfl rfl rfl (funext fun q => if_neg (fun z => h z.1))
theorem xv_sw_E {G : xv_G} {u : xv_M} {a b : Nat} {f : Nat → Int32} (h : b ≠ a) : xv_E G (xv_sw u a f) b = xv_E G u b :=
  xv_E_congr rfl rfl (funext fun q => if_neg h) rfl rfl
theorem xv_nw_E {G : xv_G} {u : xv_M} {k n sl b : Nat} (h : b < xv_N u) : xv_E G (xv_nw u k n sl) b = xv_E G u b := by
  have hb : b ≠ xv_N u := by omega
  exact xv_E_congr (if_neg hb) (if_neg hb) (funext fun q => if_neg hb) (funext fun q => if_neg hb) (funext fun q => if_neg hb)
theorem xv_wf_si {u : xv_M} {a j : Nat} {v : Int32} (h : xv_wf u) : xv_wf (xv_si u a j v) := h
theorem xv_wf_sr {u : xv_M} {a j : Nat} {v : Option Nat} (h : xv_wf u) : xv_wf (xv_sr u a j v) := h
theorem xv_wf_sg {u : xv_M} {a j : Nat} {v : Int64} (h : xv_wf u) : xv_wf (xv_sg u a j v) := h
theorem xv_wf_sw {u : xv_M} {a : Nat} {f : Nat → Int32} (h : xv_wf u) : xv_wf (xv_sw u a f) := h
theorem xv_wf_nw {u : xv_M} {k n sl : Nat} (h : xv_wf u) : xv_wf (xv_nw u k n sl) := by
  intro b hb
  show b < xv_N u + 1
  by_cases hq : b = xv_N u
  · omega
  · have hb' : xv_k u b ≠ 0 := by
      have : xv_k (xv_nw u k n sl) b = xv_k u b := if_neg hq
      rw [this] at hb; exact hb
    have := h b hb'
    omega
