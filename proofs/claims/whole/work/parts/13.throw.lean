/-! throwing -/
section THROW
variable {p : Program} {l : Launch} {e : Env} {R : Room} {s : State} {m : MethodId} {args : Array Value} {below : List Frame} {meth : Method} {c : Code} {locs : List Loc} {cells slots : Nat}
/-- the walk seen from where it stands: as if it had begun there -/
theorem xv_anew {T : State} (X : Stand p l e R s m args below meth c T locs cells slots) {R' : Room} (hf : R'.frames ≤ R.frames) (hl : R'.locals ≤ R.locals) (hc : cells + R'.cells ≤ R.cells) (hs : slots + R'.slots ≤ R.slots) :
    Stand p l e R' ((T.setVm s.vm).setFrames (.invoking m args :: below)) m args below meth c T [] 0 0 := by
  have htop : (T.setVm s.vm).topJava?.isSome := X.here.top
  have hF : ((T.setVm s.vm).setFrames (.invoking m args :: below)).frames = .invoking m args :: below := State.frames_setFrames _ (State.cur_lt_of_top htop)
  obtain ⟨g₀, hg0⟩ := Option.isSome_iff_exists.mp htop
  obtain ⟨r, hr⟩ := State.topJava?_eq_some.mp hg0
  have hlim : e.platform.stackLimits (T.setVm s.vm).me = e.platform.stackLimits s.me := X.limits
  have hbyt : (T.setVm s.vm).me.stackBytes = s.me.stackBytes := X.bytes
  have hnil : T.heap.toList.drop T.heap.size = [] := List.drop_eq_nil_of_le (Nat.le_of_eq Array.length_toList)
  refine ⟨X.admits, X.cas, X.clock, hF, ?_, X.hears, X.method, X.code, X.here, X.tail, X.warmed, by rw [State.stackLimits_setFrames]; rfl, by rw [State.stackBytes_setFrames]; rfl, ?_⟩
  · have h := X.room
    have hU : ((T.setVm s.vm).setFrames (.invoking m args :: below)).localsInUse = s.localsInUse := by
      rw [State.localsInUse_invoking hF (meth := meth) (c := c) X.method X.code, State.localsInUse_invoking X.frames X.method X.code]
    simp only [State.hasRoom, Bool.and_eq_true, decide_eq_true_eq] at h ⊢
    obtain ⟨⟨⟨⟨h1, h2, h3, h4, h5, h6⟩, h7⟩, h8⟩, h9⟩ := h
    rw [X.frames, List.length_cons] at h2 h3
    have q1 := X.heapSize
    have q2 := X.used
    simp only [hF, hU, List.length_cons, State.stackLimits_setFrames, State.stackBytes_setFrames, hlim, hbyt]
    refine ⟨⟨⟨⟨by omega, by omega, by omega, by omega, by omega, h6⟩, ?_⟩, ?_⟩, X.book⟩
    · show T.heap.size + R'.cells ≤ e.platform.maxCells
      omega
    · show T.slotsUsed + R'.slots ≤ e.platform.maxSlots
      omega
  · refine ⟨?_, Nat.le_refl _, Nat.le_refl _, ?_, ?_, fun a c9 h9 => ⟨c9, h9, rfl, rfl, fun _ _ => rfl⟩⟩
    · obtain ⟨t, ht, -⟩ := State.frames_cons hr
      show T.setVm s.vm = { ((T.setVm s.vm).setFrames (.invoking m args :: below)).setFrames (T.setVm s.vm).frames with heap := T.heap, slotsUsed := T.slotsUsed }
      rw [State.setFrames_setFrames, State.setFrames_self ht]
      rfl
    · show T.slotsUsed = T.slotsUsed + ((T.heap.toList.drop T.heap.size).map (·.slots.size)).sum
      rw [hnil]
      rfl
    · show ((T.heap.toList.drop T.heap.size).map (·.slots.size)).sum ≤ 0
      rw [hnil]
      exact Nat.le_refl _
theorem xv_old {U : State} {k n : Nat} (h : s.sameButNew ({ U with vm := s.vm } : State) [] k n) : s.heap.size ≤ U.heap.size ∧ ∀ q : Nat, q < s.heap.size → U.heap[q]? = s.heap[q]? := by
  obtain ⟨-, h2, -, -, -, h6⟩ := h
  refine ⟨h2, fun q hq => ?_⟩
  obtain ⟨c9, e1, e2, e3, e4⟩ := h6 q _ (Array.getElem?_eq_getElem hq)
  have hs : c9.slots = (s.heap[q]).slots := Array.ext_getElem? fun i => e4 i (fun hm => nomatch hm)
  have h9 : c9 = s.heap[q] := by
    rw [hs] at e2
    exact e2
  have e5 : U.heap[q]? = some c9 := e1
  rw [e5, h9, Array.getElem?_eq_getElem hq]
end THROW
section CTOR
variable {p : Program} {l : Launch} {e : Env} {R : Room} {s : State} {m₀ : MethodId} {args : Array Value} {below : List Frame} {meth : Method} {c : Code} {W : State} {locs : List Loc} {cells slots : Nat}
set_option maxHeartbeats 1000000 in
theorem xz_ctor (X : Stand p l e R s m₀ args below meth c W locs cells slots) (hexec : p.tables.exec = Jvm.exec) (htr : e.platform.stackTraces = false) {own cls Y : String} {r : List String} {ic ix : Nat} {bx : ByteArray}
    (hown : s.vm.findClass own = some m₀.cls) (hcls : Bundle.fit cls = true) (hnames : ∀ n ∈ Y :: r, Bundle.fit n = true) (b0 : decode bx 0 = .ok (.aload_n 0, 1)) (b1 : decode bx 1 = .ok (.aload_n 1, 1)) (b2 : decode bx 2 = .ok (.invokespecial ix, 3)) (b5 : decode bx 5 = .ok (.return_, 1))
    (h1 : ∀ a ∈ Bundle.throwableAtoms, a.before args s = true) (h2 : ∀ a ∈ Bundle.throwableSAtoms, a.before args s = true) (h3 : ∀ a ∈ Bundle.passSAtoms cls Y ix bx, a.before args s = true) (h4 : ∀ a ∈ Bundle.chainSAtoms Y r, a.before args s = true) (h5 : (Cond.methodLink own ic (Bundle.initS cls)).before args s = true) (h6 : ∀ a ∈ Bundle.ownAtoms own ic cls (Y :: r), xz_ok a = true → a.before args s = true)
    (hlocs : ∀ x ∈ locs, ∀ cell, s.heap[x.base]? = some cell → cell.vm.isStatics = false)
    {a : Addr} {cX : ClassId} {kX : Class} (hfoundX : s.vm.findClass cls = some cX) (hkX : s.vm.classes[cX]? = some kX) (hcell : W.heap[a]? = some (freshCell cX kX)) (hnew : s.heap.size ≤ a)
    {msg : Value} (hmsg : msg.isRef = true)
    {g : JFrame} (hg : g.method = m₀) (hsize : g.locals.size = c.maxLocals) (hlocked : g.locked = none) (hentered : g.entered = []) {rest : List Value} (hstack : g.stack = msg :: .ref a :: .ref a :: rest)
    (hd6 : decode c.code g.pc = .ok (.invokespecial ic, 3)) (hd9 : decode c.code (g.pc + 3) = .ok (.athrow, 1)) (hout : ∀ x ∈ c.exceptionTable.toList, covers x (g.pc + 3) = false)
    (hRframes : r.length + 4 < R.frames) (hRlocals : 2 * g.monitorRoom + ((Value.ref a :: rest).map fun v => v.category).sum + (13 * (r.length + 2) + 42) ≤ R.locals) (hlocks : meth.locks = false) :
    ∃ U : State, Steps p.tables e below (W.setTop g) U ∧ U.status = .running ∧ Ended U below (.threw a) ∧ s.WarmedH U.vm ∧ s.sameButNew ({ U with vm := s.vm } : State) locs cells slots ∧
      ∃ ce, U.heap[a]? = some ce ∧ s.vm.findClass cls = some ce.cls ∧ ce.vm = .none := by
  have howns : e.platform.frameOwnsMonitors = true := by rw [X.admits.platform]
  have hfin : e.platform.finalization = false := by rw [X.admits.platform]
  have hpl : e.platform.magicAccessors = ({} : Platform).magicAccessors := by rw [X.admits.platform]
  have k6 : ∀ x, x ∈ Bundle.ownAtoms own ic cls (Y :: r) → xz_ok x = true → x.holds args s none s [] = true := fun x hx ho => h6 x hx ho
  obtain ⟨T, Z0, L, -, E⟩ := ThrowableC.of_atoms (args := args) howns hfin hpl h1
  obtain ⟨Z, M, LZ, LM, hnZ⟩ := Init0T.ofS_atoms (args := args) hpl L E h2
  obtain ⟨P2, Ps, hlen, L2, hL, hP2m, hlink2, hlink⟩ := Bundle.chainS (args := args) hpl hnZ r Y (hnames Y List.mem_cons_self) (fun n hn => hnames n (List.mem_cons_of_mem _ hn)) h4
  obtain ⟨P1, L1, hP1m, hP1s⟩ := PassC.ofS_atoms (args := args) hpl (Bundle.fit_spec hcls).1 (Bundle.fit_spec (hnames Y List.mem_cons_self)).2 b0 b1 b2 b5 h3
  have hlink1 : P1.sup = P2.m := Option.some.inj (hP1s.symm.trans hP2m)
  have hfound : s.vm.findClass cls = some P1.m.cls := findClass_of_methodNamed hP1m
  cases Option.some.inj (hfoundX.symm.trans hfound)
  obtain ⟨c1, kX', hc1, hk, hord, -, -, hn6⟩ := Cond.instantiable_spec (k6 (.instantiable cls 6) (by simp [Bundle.ownAtoms]) rfl)
  cases Option.some.inj (hc1.symm.trans hfound)
  cases Option.some.inj (hkX.symm.trans hk)
  have sel : ∀ (mn : MethodName) (mi : MethodId), (Cond.selects cls mn mn) ∈ Bundle.ownAtoms own ic cls (Y :: r) → s.methodNamed? mn = some mi → (mn.cls ≠ "java/lang/invoke/MethodHandle" ∧ mn.cls ≠ "java/lang/invoke/VarHandle") → selectMethod e.platform s.vm P1.m.cls mi = .method mi := by
    intro mn mi hin hnm hno
    obtain ⟨c2, r2, m2, q1, q2, q3, q4, -⟩ := Cond.selects_spec (k6 _ hin rfl)
    cases Option.some.inj (q1.symm.trans hfound)
    cases Option.some.inj (q2.symm.trans (State.methodFound?_of_named hnm hno))
    cases Option.some.inj (q3.symm.trans hnm)
    rw [Launch.admits_selectMethod X.admits]
    exact q4
  have hsel0 := sel Bundle.tFill0 T.fill0 (by simp [Bundle.ownAtoms]) E.fill0 (by decide)
  have hselF := sel Bundle.tFill T.fill (by simp [Bundle.ownAtoms]) E.fill (by decide)
  obtain ⟨cellS0, hcS0, hiss⟩ := E.statics
  obtain ⟨u0, hu0⟩ := Cond.staticRefV E.unassigned L.unassignedStatic L.statics hcS0 hiss (k6 (.isRef (.static Bundle.tN "UNASSIGNED_STACK" Bundle.steD)) (by simp [Bundle.ownAtoms]) rfl)
  obtain ⟨sen, hsen⟩ := Cond.staticRefV E.sentinel L.sentinelStatic L.statics hcS0 hiss (k6 (.isRef (.static Bundle.tN "SUPPRESSED_SENTINEL" Bundle.listD)) (by simp [Bundle.ownAtoms]) rfl)
  obtain ⟨ci198, i198, fB, hk198, hg198, ha198, hsB, -, hnB, htB, hffB⟩ := Cond.ownField (t := .object "java/lang/Object") E.found L.cls (by decide +kernel) (k6 (.fieldLink Bundle.tN 198 Bundle.tN "backtrace" "Ljava/lang/Object;") (by simp [Bundle.ownAtoms]) rfl) (k6 (.lays Bundle.tN Bundle.tN "backtrace" "Ljava/lang/Object;") (by simp [Bundle.ownAtoms]) rfl) e.platform hpl
  obtain ⟨cellS, hcS', heS, -, hkeep⟩ := X.same.2.2.2.2.2 T.aS cellS0 hcS0
  have hcellS : W.heap[T.aS]? = some cellS := hcS'
  have hout' : ∀ i, (⟨T.aS, i⟩ : Loc) ∉ locs := fun i hmem => by
    have := hlocs _ hmem cellS0 hcS0
    rw [hiss] at this
    cases this
  have hknownS : cellS.vm ≠ .unknown := by
    rw [heS]
    intro hu
    rw [show cellS0.vm = .unknown from hu] at hiss
    cases hiss
  have hneS : T.aS ≠ a := Nat.ne_of_lt (Nat.lt_of_lt_of_le (Array.getElem?_eq_some_iff.mp hcS0).1 hnew)
  obtain ⟨iM, hffM⟩ := E.msg
  obtain ⟨tyC, dC, hdC, hdnC⟩ := Cond.laysAt hfound hk E.cause (k6 (.lays cls Bundle.tN "cause" "Ljava/lang/Throwable;") (by simp [Bundle.ownAtoms]) rfl)
  obtain ⟨tyS, dS, hdS, hdnS⟩ := Cond.laysAt hfound hk E.stack (k6 (.lays cls Bundle.tN "stackTrace" Bundle.steD) (by simp [Bundle.ownAtoms]) rfl)
  obtain ⟨tyP, dP, hdP, hdnP⟩ := Cond.laysAt hfound hk E.supp (k6 (.lays cls Bundle.tN "suppressedExceptions" Bundle.listD) (by simp [Bundle.ownAtoms]) rfl)
  obtain ⟨tyM, dM, hdM, hdnM⟩ := Cond.laysAt hfound hk hffM (k6 (.lays cls Bundle.tN "detailMessage" "Ljava/lang/String;") (by simp [Bundle.ownAtoms]) rfl)
  obtain ⟨tyB, dB, hdB, hdnB⟩ := Cond.laysAt hfound hk hffB (k6 (.lays cls Bundle.tN "backtrace" "Ljava/lang/Object;") (by simp [Bundle.ownAtoms]) rfl)
  have bC := Cond.laysApart hdB hdC hdnB hdnC (by rw [hnB, E.causeName]; decide)
  have bS := Cond.laysApart hdB hdS hdnB hdnS (by rw [hnB, E.stackName]; decide)
  have bP := Cond.laysApart hdB hdP hdnB hdnP (by rw [hnB, E.suppName]; decide)
  have hskip : SkipFacts T e.platform s (fun u => u) u0 ((preparedCellV T.toThrowableT (freshCell P1.m.cls kX) a u0 sen).withEntry W.cur) :=
    ⟨{ ci198 := ci198, i198 := i198, fBack := fB }, ⟨hk198, hg198, ha198, hsB⟩, by
      have := fresh_default (c := P1.m.cls) tyB
      rw [htB] at this
      simpa [preparedCellV, Cell.setSlot, Cell.withEntry, Array.getElem?_setIfInBounds, bC, bS, bP, bC.symm, bS.symm, bP.symm, defaultValue] using this, fun _ _ => rfl⟩
  obtain ⟨tm, methC, cdC, kC, vm₁, hnC, -, -, -, -, -, -, -, hW₁, st1⟩ := Steps.initColdS (tb := p.tables) (e := e) (below := below) (s := s) (U := W) X.here hexec X.warmed hpl hown (t := Bundle.initS cls) rfl rfl (Bundle.fit_spec hcls).2
    h5 (h3 (.instanceMethod (Bundle.initS cls)) (by simp [Bundle.passSAtoms])) (bytes := bx) (maxL := 2) (h3 (.code (Bundle.initS cls) bx 2 none) (by simp [Bundle.passSAtoms]))
    (f := g) hg (a := a) (msg := msg) (rest := .ref a :: rest) hstack hd6
  cases Option.some.inj (hnC.symm.trans hP1m)
  have X₁ := X.noted hW₁
  obtain ⟨vm₂, X₂, st2⟩ := X₁.ctorMessageOffV hexec (g := { g with stack := .ref a :: rest }) hg hsize T L Z LZ M LM (P1 :: P2 :: Ps)
    (fun P hP => by
      rcases List.mem_cons.mp hP with rfl | hP
      · exact L1
      · rcases List.mem_cons.mp hP with rfl | hP
        · exact L2
        · exact hL P hP) ⟨hlink1, hlink2, hlink⟩ (u0 := u0) (sen := sen) (self := a) hmsg (cell := freshCell P1.m.cls kX) (cellS := cellS)
    hcell (fun _ => by simp) (by simp) rfl rfl hsel0 hselF hcellS hneS hknownS (by rw [hkeep _ (hout' _)]; exact hu0) (by rw [hkeep _ (hout' _)]; exact hsen)
    (Takes.of_laid hk hord tyC (by rw [E.causeType]; rfl)) (Takes.of_laid hk hord tyS (by rw [E.stackType]; exact fits_refV_array _ u0)) (Takes.of_laid hk hord tyP (by rw [E.suppType]; exact fits_refV_object _ sen))
    (Takes.of_laid hk hord tyM (by rw [E.msgType]; exact fits_refV_object _ ⟨msg, hmsg⟩)) E.objLocals hskip htr [] hd6
    (by simp only [List.length_cons, hlen]; omega) (by simp only [List.length_cons, hlen]; exact hRlocals)
  obtain ⟨hwalk, hrun, hended, hWU, hsame⟩ := X₂.athrowLeaves hexec (g := { g with stack := .ref a :: rest, pc := g.pc + 3 }) hg hlocked hentered hout (a := a) (rest := rest) rfl hd9 hlocks
  have hlt : a < ((W.setVm vm₁).setVm vm₂).heap.size := (Array.getElem?_eq_some_iff.mp hcell).1
  have hU := heapAt_setCell_self (s := (W.setVm vm₁).setVm vm₂) (plainBareV T.toThrowableT (freshCell P1.m.cls kX) a u0 sen msg) hlt
  refine ⟨_, st1 _ (fun acts => ?_), hrun, hended, hWU, hsame.weaken (fun y hy hlt' => ?_) (Nat.le_refl _) (Nat.le_refl _), _, hU, hfound, rfl⟩
  · rw [doInvoke_state]
    exact st2 _ hwalk
  · rcases List.mem_append.mp hy with h1 | h1
    · exact h1
    · exfalso
      have hb : y.base = a := by
        simp only [List.mem_cons, List.not_mem_nil, or_false] at h1
        rcases h1 with rfl | rfl | rfl | rfl | rfl <;> rfl
      rw [hb] at hlt'
      exact Nat.not_lt.mpr hnew hlt'
end CTOR
theorem xv_atoms {G : xv_G} {U : State} {args : Array Value} {own cls : String} {ic : Nat} (hT : xv_Th G U U.heap) (hs : (own, ic, cls) ∈ xv_sites) : ∀ w ∈ xv_aw (own, ic, cls), w.before args U = true := by
  obtain ⟨h1, ⟨h2, h3⟩, ⟨h4, h5⟩, -⟩ := hT
  intro w hw
  by_cases hn : xNo w = true
  · have hm : w ∈ xv_thw := List.mem_flatMap.mpr ⟨_, hs, List.mem_filter.mpr ⟨hw, hn⟩⟩
    exact va_Nw.use (xv_thw_ok w hm).1 (h1 w hm)
  · have key : ∀ w ∈ xv_aw (own, ic, cls), xNo w = false → w = .isRef (.static Bundle.tN "UNASSIGNED_STACK" Bundle.steD) ∨ w = .isRef (.static Bundle.tN "SUPPRESSED_SENTINEL" Bundle.listD) ∨ w = .laysStatic Bundle.tN "UNASSIGNED_STACK" Bundle.steD ∨ w = .laysStatic Bundle.tN "SUPPRESSED_SENTINEL" Bundle.listD := by
      have : ∀ q ∈ xv_sites, ∀ w ∈ xv_aw q, xNo w = false → w = .isRef (.static Bundle.tN "UNASSIGNED_STACK" Bundle.steD) ∨ w = .isRef (.static Bundle.tN "SUPPRESSED_SENTINEL" Bundle.listD) ∨ w = .laysStatic Bundle.tN "UNASSIGNED_STACK" Bundle.steD ∨ w = .laysStatic Bundle.tN "SUPPRESSED_SENTINEL" Bundle.listD := by decide +kernel
      exact this _ hs
    have hf : xNo w = false := by cases h : xNo w <;> first | rfl | exact absurd h hn
    rcases key w hw hf with rfl | rfl | rfl | rfl
    · exact xv_isR h2
    · exact xv_isR h4
    · exact xv_SL_word h3
    · exact xv_SL_word h5
theorem xv_lk_dec : ∀ q ∈ xv_sites, decode (xv_lk q.2.2).2 0 = .ok (.aload_n 0, 1) ∧ decode (xv_lk q.2.2).2 1 = .ok (.aload_n 1, 1) ∧ decode (xv_lk q.2.2).2 2 = .ok (.invokespecial (xv_lk q.2.2).1, 3) ∧ decode (xv_lk q.2.2).2 5 = .ok (.return_, 1) := by decide +kernel
theorem xv_sites_nl : ∀ q ∈ xv_sites, q.1 ≠ "FaslDeskLaw" := by decide +kernel
set_option maxHeartbeats 1000000 in
theorem xv_throw {sc : Nat × (Nat → Int32)} {d : Nat} {J : xv_J} {pc : Nat} {lv : List (Option Value)} {st : List Value} {u : xv_M} {n1 s1 : Nat} {P : xv_P} {k ic ik is : Nat} {text : String} (hk : k < xv_nc) (hnf : xv_nf k = 0) (hsite : (J.1.cls, ic, xv_nm k) ∈ xv_sites) (hstr : (J.1.cls, is, text) ∈ xv_strs) (hl : Cond.classLink J.1.cls ik (xv_nm k) ∈ xv_BIG) (hi : Cond.initialized (xv_nm k) ∈ xv_BIG) (hins : Cond.instantiable (xv_nm k) 6 ∈ xv_BIG) (hfit : Bundle.fit (xv_nm k) = true)
    (d0 : decode J.2.1 pc = .ok (.new ik, 3)) (d3 : decode J.2.1 (pc + 3) = .ok (.dup, 1)) (d4 : decode J.2.1 (pc + 4) = .ok (.ldc is, 2)) (d6 : decode J.2.1 (pc + 6) = .ok (.invokespecial ic, 3)) (d9 : decode J.2.1 (pc + 9) = .ok (.athrow, 1))
    (hd : 6 ≤ d) (hst : (st.map fun v => v.category).sum ≤ 8) (hN1 : xv_N u + 1 ≤ n1) (hS1 : xv_S u + 6 ≤ s1) (hp : P (.inr (k, xv_N u)) (xv_nw u (k + 1) 0 6)) : xv_X sc d J pc lv st u n1 s1 P := by
  intro p l e R s m args below meth c G N0 S0 Q H locs ls A0 lo hP wf hS hN hZ
  refine xv_Wsz fun hle => ?_
  have hA := id A0
  obtain ⟨hexec, hb, -, hml, hown, hts, hlocks, -, hK, hR, hs, ⟨-, hL, hex⟩, hfin⟩ := hA
  have hsz := xv_sz hs hN hP hS hle
  intro T hT X
  have htr : e.platform.stackTraces = false := hL e X.admits
  have Y := xv_anew X (R' := { frames := R.frames, locals := R.locals, cells := 1, slots := 6 }) (Nat.le_refl _) (Nat.le_refl _) (by show xv_N u - N0 + 1 ≤ _; omega) (by show xv_S u - S0 + 6 ≤ _; omega)
  obtain ⟨s', hA'⟩ : ∃ z, z = (T.setVm s.vm).setFrames (.invoking m args :: below) := ⟨_, rfl⟩
  rw [← hA'] at Y
  have hvm : s'.vm = s.vm := by rw [hA']; rfl
  have hhp : s'.heap = H := by rw [hA']; exact hT
  have hW0 : s.WarmedH s'.vm := by rw [hvm]; exact State.WarmedH.refl s
  have hTh : xv_Th G s' s'.heap := by rw [hhp]; exact xv_Th_moved hW0 hK.2.2.2.2.2.2.1 hS.2.1
  have hat : ∀ w ∈ xv_aw (J.1.cls, ic, xv_nm k), w.before args s' = true := xv_atoms hTh hsite
  obtain ⟨b0, b1, b2, b5⟩ := xv_lk_dec _ hsite
  obtain ⟨sa, hsa⟩ := hTh.2.2.2 _ hstr
  have hown' : s'.vm.findClass J.1.cls = some m.cls := by rw [hvm]; exact hown
  have wd : ∀ w ∈ xv_BIG, w.before args s' = true := fun w hw => word_at hW0 (xv_good w hw).2 (hts w hw)
  obtain ⟨vm₁, cX, kX, hfX, hkX, -, -, X₁, st1⟩ := Y.newCold hexec (own := J.1.cls) (C := xv_nm k) (index := ik) (n := 6) hown' (wd _ hl) (wd _ hins) (wd _ hi)
    (g := F0 m pc ls (st.map (xv_cv G))) rfl (by rw [hb]; exact d0) (Nat.le_refl _) (Nat.le_refl _)
  generalize hT1 : (T.setVm vm₁).pushCell { cls := cX, slots := kX.instanceTypes.map defaultValue, vm := .none } = T1 at X₁ st1
  have hcat : (Value.ref T.heap.size).category = 1 := rfl
  have hcellA : T1.heap[T.heap.size]? = some (freshCell cX kX) := by rw [← hT1]; exact State.heap_pushCell_size _ _
  have d3' : decode c.code (pc + 3) = .ok (.dup, 1) := by rw [hb]; exact d3
  have d4' : decode c.code (pc + 4) = .ok (.ldc is, 2) := by rw [hb]; exact d4
  have hsum := xv_sum_cv G st
  obtain ⟨U, hsteps, hrun, hend, hW, hsame, ce, hce, hOc, hOv⟩ := xz_ctor X₁ hexec htr (own := J.1.cls) (cls := xv_nm k) (Y := "java/lang/RuntimeException") (r := ["java/lang/Exception"]) (ic := ic) hown' hfit (by decide +kernel) b0 b1 b2 b5
    (fun w hw => hat w (List.mem_append_left _ hw)) (fun w hw => hat w (List.mem_append_right _ (List.mem_append_left _ hw))) (fun w hw => hat w (List.mem_append_right _ (List.mem_append_right _ (List.mem_append_left _ hw)))) (fun w hw => hat w (List.mem_append_right _ (List.mem_append_right _ (List.mem_append_right _ (List.mem_append_left _ hw)))))
    (hat _ (List.mem_append_right _ (List.mem_append_right _ (List.mem_append_right _ (List.mem_append_right _ List.mem_cons_self))))) (fun w hw ho => hat w (List.mem_append_right _ (List.mem_append_right _ (List.mem_append_right _ (List.mem_append_right _ (List.mem_cons_of_mem _ (List.mem_filter.mpr ⟨hw, ho⟩)))))))
    (fun x hx => nomatch hx) hfX hkX hcellA (by rw [hhp, hT]; exact Nat.le_refl _) (msg := .ref sa) rfl
    (g := { method := m, pc := pc + 6, locals := ls, stack := .ref sa :: .ref T.heap.size :: .ref T.heap.size :: st.map (xv_cv G), locked := none }) rfl (by rw [hml]; exact lo.1) rfl rfl (rest := st.map (xv_cv G)) rfl
    (by rw [hb]; exact d6) (by rw [hb]; exact d9) (fun x hx => by
      have h0 : c.exceptionTable = #[] := xv_Tb_0 hex (xv_hh_0 (xv_sites_nl _ hsite))
      rw [h0] at hx
      exact nomatch hx) (by show 1 + 4 < R.frames; omega) (by
      simp only [List.map_cons, List.sum_cons, hcat]
      show 2 * 0 + _ + (13 * (1 + 2) + 42) ≤ R.locals
      omega) hlocks
  obtain ⟨f1, f2⟩ := xv_old hsame
  rw [hhp] at f1 f2
  have hWs : s.WarmedH U.vm := State.WarmedH.trans hW0 hW
  have hTs : T.heap.size = xv_B G + xv_N u := by rw [hT]; exact hsz
  rw [hTs] at hend hce
  have hcl : ce.cls = (xv_dG G).1 k := by
    have h9 := hOc
    rw [hvm] at h9
    exact Option.some.inj (h9.symm.trans (hK.1.1 k _ (xv_cl_at hk)).2.1)
  have hkk : xv_k (xv_nw u (k + 1) 0 6) (xv_N u) = k + 1 := if_pos rfl
  have hPU : va_P (xv_dG G) xv_cl (xv_ws G (xv_nw u (k + 1) 0 6)) U.heap := by
    refine xv_pushed (s := s) (locs := locs) hsz hP (fun q hq => f2 q (by rw [hsz]; exact hq)) ?_ rfl (xv_E_obj hkk (Nat.lt_of_lt_of_le hk xv_nc_le)) (fun b hb => xv_nw_E hb)
    exact ⟨_, xv_cl_at hk, ce, hce, hcl, hOv, fun j hj => absurd (show j < 0 by rw [← hnf]; exact hj) (Nat.not_lt_zero j)⟩
  have hall : s.sameButNew ({ U with vm := s.vm } : State) locs (xv_N (xv_nw u (k + 1) 0 6) - N0) (xv_S (xv_nw u (k + 1) 0 6) - S0) := by
    subst hA'
    obtain ⟨e1, e2⟩ := hsame
    rw [State.setFrames_setFrames] at e1
    have h2 : (T.setVm s.vm).sameButNew ({ U with vm := s.vm } : State) [] (0 + 1) (0 + 6) := ⟨e1, e2⟩
    have h3 := X.same.trans h2
    rw [List.append_nil] at h3
    exact h3.mono (by show _ ≤ xv_N u + 1 - N0; omega) (by show _ ≤ xv_S u + 6 - S0; omega)
  refine ⟨U, st1 _ ?_, hfin.2 k (xv_N u) _ U locs hp hN1 hS1 hkk hPU (xv_wf_nw wf) ⟨Nat.le_trans hS.1 f1, fun q h1 h2 => by rw [f2 q (Nat.lt_of_lt_of_le h1 hS.1)]; exact hS.2.1 q h1 h2, hS.2.2⟩ hrun hend hWs hall⟩
  show Steps p.tables e below (T1.setTop { method := m, pc := pc + 3, locals := ls, stack := .ref T.heap.size :: st.map (xv_cv G), locked := none }) _
  jvm_step X₁.here [X₁.here.top, hexec, d3', Value.category]
  exact X₁.ldcString hexec (own := J.1.cls) (text := text) (index := is) (a := sa) hown' hsa.1 hsa.2
    (g := { method := m, pc := pc + 4, locals := ls, stack := .ref T.heap.size :: .ref T.heap.size :: st.map (xv_cv G), locked := none }) rfl d4' _ hsteps

