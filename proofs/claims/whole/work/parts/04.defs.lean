/-! THE JUDGEMENT: xv_X sc d J pc lv st u n s P: the method J at pc, with locals lv, operand stack st and memory u, in d frames, comes to its end: with an outcome and a memory of n cells and s slots for which P holds -/
/-- a launch without stack traces -/
def xv_L (l : Launch) : Prop := ∀ e : Env, l.admits e → e.platform.stackTraces = false
abbrev xv_O : Type := Option Value ⊕ (Nat × Nat)
abbrev xv_P : Type := xv_O → xv_M → Prop
def xv_rm (d mc ms : Nat) : Room := { frames := d, cells := mc, slots := ms, locals := 60 * d }
def xv_w (J : xv_J) : List Cond := .code J.1 J.2.1 J.2.2.1 J.2.2.2 :: xv_BIG
def xv_lo (G : xv_G) (ls : Array Slot) (n : Nat) (lv : List (Option Value)) : Prop := ls.size = n ∧ lv_wf ls ∧ ∀ (i : Nat) (v : Value), lv[i]? = some (some v) → ls[i]? = some (.val (xv_cv G v))
def xv_rt (ret : Option FieldType) (v : Option Value) (i : Instr) : Prop :=
  (ret = some .int ∧ i = .ireturn ∧ ∃ x : Int32, v = some (.int x)) ∨ (ret = some .boolean ∧ i = .ireturn ∧ ∃ x : Int32, v = some (.int x) ∧ x &&& 1 = x) ∨ (ret = none ∧ i = .return_ ∧ v = none) ∨ (((∃ n, ret = some (.object n)) ∨ ∃ t, ret = some (.array t)) ∧ i = .areturn ∧ ∃ a : Nat, v = some (.ref a))
/-- the law's two helpers catch; no other method does -/
def xv_hh (x : MethodName) : List (Nat × Nat × Nat × Nat) := if x.cls = "FaslDeskLaw" then (if x.name = "interpret" then [(0, 14, 17, 13), (0, 14, 21, 15)] else if x.name = "run" then [(0, 14, 17, 13), (0, 14, 21, 15), (0, 14, 25, 20)] else []) else []
def xv_Tb (J : xv_J) (c : Code) : Prop := c.exceptionTable.toList.map (fun h => (h.startPc, h.endPc, h.handlerPc, h.catchType)) = xv_hh J.1
theorem xv_Tb_0 {J : xv_J} {c : Code} (h : xv_Tb J c) (h0 : xv_hh J.1 = []) : c.exceptionTable = #[] := by
  unfold xv_Tb at h
  rw [h0] at h
  exact Array.toList_eq_nil_iff.mp (List.map_eq_nil_iff.mp h)
theorem xv_hh_0 {x : MethodName} (h : x.cls ≠ "FaslDeskLaw") : xv_hh x = [] := if_neg h
def xv_fin (p : Program) (l : Launch) (e : Env) (R : Room) (s : State) (m : MethodId) (args : Array Value) (below : List Frame) (meth : Method) (c : Code) (J : xv_J) (G : xv_G) (N0 S0 n1 s1 : Nat) (P : xv_P) (Q : State → Prop) : Prop :=
  (∀ (v : Option Value) (w : xv_M) (pc : Nat) (ls : Array Slot) (i : Instr) (H : Heap) (locs : List Loc), P (.inl v) w → xv_N w ≤ n1 → xv_S w ≤ s1 → xv_rt J.2.2.2 v i → decode J.2.1 pc = .ok (i, 1) → va_P (xv_dG G) xv_cl (xv_ws G w) H → xv_wf w → va_S (xv_A G) s.heap H locs → W p l e R s m args below meth c H locs (xv_N w - N0) (xv_S w - S0) Q (F0 m pc ls ((v.map (xv_cv G)).toList))) ∧
  (∀ (k a : Nat) (w : xv_M) (U : State) (locs : List Loc), P (.inr (k, a)) w → xv_N w ≤ n1 → xv_S w ≤ s1 → xv_k w a = k + 1 → va_P (xv_dG G) xv_cl (xv_ws G w) U.heap → xv_wf w → va_S (xv_A G) s.heap U.heap locs → U.status = .running → Ended U below (.threw (xv_B G + a)) → s.WarmedH U.vm → s.sameButNew ({ U with vm := s.vm } : State) locs (xv_N w - N0) (xv_S w - S0) → Q U)
def xv_at (sc : Nat × (Nat → Int32)) (d : Nat) (J : xv_J) (n1 s1 : Nat) (P : xv_P) (p : Program) (l : Launch) (e : Env) (R : Room) (s : State) (m : MethodId) (args : Array Value) (below : List Frame) (meth : Method) (c : Code) (G : xv_G) (N0 S0 : Nat) (Q : State → Prop) : Prop :=
  p.tables.exec = Jvm.exec ∧ c.code = J.2.1 ∧ meth.sig.returnType = J.2.2.2 ∧ c.maxLocals = J.2.2.1 ∧ s.vm.findClass J.1.cls = some m.cls ∧ (∀ w ∈ xv_BIG, w.before args s = true) ∧ meth.locks = false ∧ meth.name = J.1.name ∧ xv_K G s s.heap ∧ (d ≤ R.frames ∧ 60 * d ≤ R.locals ∧ n1 - N0 ≤ R.cells ∧ s1 - S0 ≤ R.slots) ∧ s.heap.size = xv_B G + N0 ∧ (G.2.2.2.2 = sc ∧ xv_L l ∧ xv_Tb J c) ∧ xv_fin p l e R s m args below meth c J G N0 S0 n1 s1 P Q
def xv_X (sc : Nat × (Nat → Int32)) (d : Nat) (J : xv_J) (pc : Nat) (lv : List (Option Value)) (st : List Value) (u : xv_M) (n1 s1 : Nat) (P : xv_P) : Prop :=
  ∀ (p : Program) (l : Launch) (e : Env) (R : Room) (s : State) (m : MethodId) (args : Array Value) (below : List Frame) (meth : Method) (c : Code) (G : xv_G) (N0 S0 : Nat) (Q : State → Prop) (H : Heap) (locs : List Loc) (ls : Array Slot),
    xv_at sc d J n1 s1 P p l e R s m args below meth c G N0 S0 Q → xv_lo G ls J.2.2.1 lv → va_P (xv_dG G) xv_cl (xv_ws G u) H → xv_wf u → va_S (xv_A G) s.heap H locs → N0 ≤ xv_N u → S0 ≤ xv_S u →
    W p l e R s m args below meth c H locs (xv_N u - N0) (xv_S u - S0) Q (F0 m pc ls (st.map (xv_cv G)))
def xv_q (n1 s1 : Nat) (P : xv_P) : xv_P := fun o w => P o w ∧ xv_N w = n1 ∧ xv_S w = s1
/-! locals -/
theorem xv_cat (G : xv_G) (v : Value) : (xv_cv G v).category = v.category := by cases v <;> rfl
def xv_c2 (lv : List (Option Value)) (i : Nat) : Bool := match i with
  | 0 => true
  | z + 1 => match lv.getD z none with
    | some v => !(v.category == 2)
    | none => true
def xv_al (G : xv_G) (lv : List (Option Value)) : List (Nat × Value) := (List.range lv.length).filterMap (fun i => match lv[i]? with
  | some (some v) => some (i, xv_cv G v)
  | _ => none)
theorem xv_al_mem {G : xv_G} {lv : List (Option Value)} {q : Nat × Value} : q ∈ xv_al G lv ↔ ∃ v, lv[q.1]? = some (some v) ∧ q.2 = xv_cv G v := by
  unfold xv_al
  rw [List.mem_filterMap]
  constructor
  · rintro ⟨i, hi, h⟩
    cases hl : lv[i]? with
    | none => rw [hl] at h; cases h
    | some z =>
      cases z with
      | none => rw [hl] at h; cases h
      | some v =>
        rw [hl] at h
        cases h
        exact ⟨v, hl, rfl⟩
  · rintro ⟨v, h1, h2⟩
    refine ⟨q.1, List.mem_range.mpr (List.getElem?_eq_some_iff.mp h1).1, ?_⟩
    rw [h1]
    obtain ⟨a, b⟩ := q
    cases h2
    rfl
theorem xv_al_at {G : xv_G} {lv : List (Option Value)} {i : Nat} {v : Value} (h : lv[i]? = some (some v)) : ∃ k : Nat, (xv_al G lv)[k]? = some (i, xv_cv G v) :=
  List.getElem?_of_mem (xv_al_mem.mpr ⟨v, h, rfl⟩)
theorem xv_lo_has {G : xv_G} {ls : Array Slot} {n : Nat} {lv : List (Option Value)} (h : xv_lo G ls n lv) : lv_has ls n (xv_al G lv) := by
  refine ⟨h.1, h.2.1, fun q hq => ?_⟩
  obtain ⟨v, h1, h2⟩ := xv_al_mem.mp hq
  rw [h2]
  exact h.2.2 _ _ h1
theorem xv_lo_put {G : xv_G} {ls ls' : Array Slot} {n i : Nat} {lv : List (Option Value)} {v : Value} (_ : xv_lo G ls n lv) (_ : i < n) (h2 : xv_c2 lv i = true) (h' : lv_has ls' n ((i, xv_cv G v) :: (xv_al G lv).filter (fun q => !(q.1 == i) && !(q.1 + 1 == i && q.2.category == 2)))) : xv_lo G ls' n (lv.set i (some v)) := by
  refine ⟨h'.1, h'.2.1, fun j z hz => ?_⟩
  rw [List.getElem?_set] at hz
  by_cases hj : i = j
  · subst hj
    rw [if_pos rfl] at hz
    split at hz
    · cases hz
      exact h'.2.2 (i, xv_cv G v) List.mem_cons_self
    · cases hz
  · rw [if_neg hj] at hz
    refine h'.2.2 (j, xv_cv G z) (List.mem_cons_of_mem _ (List.mem_filter.mpr ⟨xv_al_mem.mpr ⟨z, hz, rfl⟩, ?_⟩))
    have e1 : (j == i) = false := by simpa using (fun q => hj q.symm)
    show (!(j == i) && !(j + 1 == i && (xv_cv G z).category == 2)) = true
    rw [e1, xv_cat]
    cases hi : i with
    | zero => simp
    | succ y =>
      by_cases hy : j = y
      · subst hy
        rw [hi] at h2
        have h3 : lv.getD j none = some z := by
          rw [List.getD_eq_getElem?_getD, hz]
          rfl
        simp only [xv_c2, h3] at h2
        simpa using h2
      · have : ¬ (j + 1 = y + 1) := by omega
        simp [this]
        omega
