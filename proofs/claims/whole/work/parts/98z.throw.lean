/-! guest throws -/
/-! the throw of a NoSuchElementException: its constructor calls the next by the pool's row 13 -/
def q_nse : String := "java/util/NoSuchElementException"
def q_rte : String := "java/lang/RuntimeException"
def q_exN : List String := ["java/lang/Exception"]
def q_at13 : List Cond := Bundle.throwableAtoms ++ Bundle.throwableSAtoms ++ (Bundle.passSAtoms q_nse q_rte 13 prog_32_method_4_code ++ Bundle.chainSAtoms q_rte q_exN) ++ [.methodLink RX11 177 (Bundle.initS q_nse), .instantiable q_nse 6, .castable q_nse q_nse, .selects q_nse Bundle.tFill0 Bundle.tFill0, .selects q_nse Bundle.tFill Bundle.tFill, .lays q_nse Bundle.tN "cause" "Ljava/lang/Throwable;", .lays q_nse Bundle.tN "stackTrace" Bundle.steD, .lays q_nse Bundle.tN "suppressedExceptions" Bundle.listD, .lays q_nse Bundle.tN "detailMessage" "Ljava/lang/String;", .isRef (.static Bundle.tN "UNASSIGNED_STACK" Bundle.steD), .isRef (.static Bundle.tN "SUPPRESSED_SENTINEL" Bundle.listD), .fieldLink Bundle.tN 198 Bundle.tN "backtrace" "Ljava/lang/Object;", .lays Bundle.tN Bundle.tN "backtrace" "Ljava/lang/Object;", .lays q_nse Bundle.tN "backtrace" "Ljava/lang/Object;"]
set_option maxHeartbeats 2000000 in
theorem q_ctorT {p : Program} {l : Launch} {e : Env} {R : Room} {s : State} {m₀ : MethodId} {args : Array Value} {below : List Frame} {meth : Method} {c : Code} {W : State} {locs : List Loc} {cells slots : Nat} (X : Stand p l e R s m₀ args below meth c W locs cells slots) (hexec : p.tables.exec = Jvm.exec) (htr : e.platform.stackTraces = false)
    (hown : s.vm.findClass RX11 = some m₀.cls) (h : ∀ a ∈ q_at13, a.before args s = true) (hlocs : ∀ x ∈ locs, ∀ cell, s.heap[x.base]? = some cell → cell.vm.isStatics = false)
    {a : Addr} {cX : ClassId} {kX : Class} (hfoundX : s.vm.findClass q_nse = some cX) (hkX : s.vm.classes[cX]? = some kX) (hcell : W.heap[a]? = some (freshCell cX kX)) (hnew : s.heap.size ≤ a) {msg : Value} (hmsg : msg.isRef = true)
    {g : JFrame} (hg : g.method = m₀) (hsize : g.locals.size = c.maxLocals) (hlocked : g.locked = none) (hentered : g.entered = []) {rest : List Value} (hstack : g.stack = msg :: .ref a :: .ref a :: rest)
    (hd6 : decode c.code g.pc = .ok (.invokespecial 177, 3)) (hd9 : decode c.code (g.pc + 3) = .ok (.athrow, 1)) (hout : ∀ x ∈ c.exceptionTable.toList, covers x (g.pc + 3) = false)
    (hRframes : 5 < R.frames) (hRlocals : 2 * g.monitorRoom + ((Value.ref a :: rest).map fun v => v.category).sum + 81 ≤ R.locals) (hlocks : meth.locks = false) :
    ∃ U : State, Steps p.tables e below (W.setTop g) U ∧ U.status = .running ∧ Ended U below (.threw a) ∧ s.WarmedH U.vm ∧ s.sameButNew ({ U with vm := s.vm } : State) locs cells slots ∧
      ∃ ce, U.heap[a]? = some ce ∧ ce.vm = .none ∧ s.vm.findClass q_nse = some ce.cls := by
  have howns : e.platform.frameOwnsMonitors = true := by rw [X.admits.platform]
  have hfin : e.platform.finalization = false := by rw [X.admits.platform]
  have hpl : e.platform.magicAccessors = ({} : Platform).magicAccessors := by rw [X.admits.platform]
  have k1 : ∀ x ∈ Bundle.throwableAtoms, x.before args s = true := fun x hx => h x (List.mem_append_left _ (List.mem_append_left _ (List.mem_append_left _ hx)))
  have k2 : ∀ x ∈ Bundle.throwableSAtoms, x.before args s = true := fun x hx => h x (List.mem_append_left _ (List.mem_append_left _ (List.mem_append_right _ hx)))
  have k3 : ∀ x ∈ Bundle.passSAtoms q_nse q_rte 13 prog_32_method_4_code, x.before args s = true := fun x hx => h x (List.mem_append_left _ (List.mem_append_right _ (List.mem_append_left _ hx)))
  have k4 : ∀ x ∈ Bundle.chainSAtoms q_rte q_exN, x.before args s = true := fun x hx => h x (List.mem_append_left _ (List.mem_append_right _ (List.mem_append_right _ hx)))
  have k5 : ∀ x, x ∈ q_at13 → x.holds args s none s [] = true := fun x hx => h x hx
  obtain ⟨T, Z0, L, -, Y⟩ := ThrowableC.of_atoms (args := args) howns hfin hpl k1
  obtain ⟨Z, M, LZ, LM, hnZ⟩ := Init0T.ofS_atoms (args := args) hpl L Y k2
  obtain ⟨P1, L1, hP1m, hP1s⟩ := PassC.ofS_atoms (args := args) (s := s) hpl (X := q_nse) (Y := q_rte) (by decide +kernel) (by decide +kernel) (by decide +kernel) (by decide +kernel) (by decide +kernel) (by decide +kernel) k3
  obtain ⟨P2, Ps, hlen, L2, hL, hP2m, hlink2, hlink⟩ := Bundle.chainS (args := args) hpl hnZ q_exN q_rte (by decide +kernel) (by decide +kernel) k4
  have hlink1 : P1.sup = P2.m := Option.some.inj (hP1s.symm.trans hP2m)
  have hfound : s.vm.findClass q_nse = some P1.m.cls := findClass_of_methodNamed hP1m
  cases Option.some.inj (hfoundX.symm.trans hfound)
  obtain ⟨c1, kX', hc1, hk, hord, -, -, hn6⟩ := Cond.instantiable_spec (k5 (.instantiable q_nse 6) (by simp [q_at13]))
  cases Option.some.inj (hc1.symm.trans hfound)
  cases Option.some.inj (hkX.symm.trans hk)
  have hsel0 : selectMethod e.platform s.vm P1.m.cls T.fill0 = .method T.fill0 := by
    obtain ⟨c2, r2, m2, q1, q2, q3, q4, -⟩ := Cond.selects_spec (k5 (.selects q_nse Bundle.tFill0 Bundle.tFill0) (by simp [q_at13]))
    cases Option.some.inj (q1.symm.trans hfound)
    cases Option.some.inj (q2.symm.trans (State.methodFound?_of_named Y.fill0 (by decide)))
    cases Option.some.inj (q3.symm.trans Y.fill0)
    rw [Launch.admits_selectMethod X.admits]; exact q4
  have hselF : selectMethod e.platform s.vm P1.m.cls T.fill = .method T.fill := by
    obtain ⟨c2, r2, m2, q1, q2, q3, q4, -⟩ := Cond.selects_spec (k5 (.selects q_nse Bundle.tFill Bundle.tFill) (by simp [q_at13]))
    cases Option.some.inj (q1.symm.trans hfound)
    cases Option.some.inj (q2.symm.trans (State.methodFound?_of_named Y.fill (by decide)))
    cases Option.some.inj (q3.symm.trans Y.fill)
    rw [Launch.admits_selectMethod X.admits]; exact q4
  obtain ⟨cellS0, hcS0, hiss⟩ := Y.statics
  obtain ⟨u0, hu0⟩ := Cond.staticRefV Y.unassigned L.unassignedStatic L.statics hcS0 hiss (k5 (.isRef (.static Bundle.tN "UNASSIGNED_STACK" Bundle.steD)) (by simp [q_at13]))
  obtain ⟨sen, hsen⟩ := Cond.staticRefV Y.sentinel L.sentinelStatic L.statics hcS0 hiss (k5 (.isRef (.static Bundle.tN "SUPPRESSED_SENTINEL" Bundle.listD)) (by simp [q_at13]))
  obtain ⟨ci198, i198, fB, hk198, hg198, ha198, hsB, -, hnB, htB, hffB⟩ := Cond.ownField (t := .object "java/lang/Object") Y.found L.cls (by decide +kernel) (k5 (.fieldLink Bundle.tN 198 Bundle.tN "backtrace" "Ljava/lang/Object;") (by simp [q_at13])) (k5 (.lays Bundle.tN Bundle.tN "backtrace" "Ljava/lang/Object;") (by simp [q_at13])) e.platform hpl
  obtain ⟨cellS, hcS', heS, -, hkeep⟩ := X.same.2.2.2.2.2 T.aS cellS0 hcS0
  have hcellS : W.heap[T.aS]? = some cellS := hcS'
  have hout' : ∀ i, (⟨T.aS, i⟩ : Loc) ∉ locs := fun i hmem => by
    have := hlocs _ hmem cellS0 hcS0
    rw [hiss] at this; cases this
  have hknownS : cellS.vm ≠ .unknown := by
    rw [heS]; intro hu
    rw [show cellS0.vm = .unknown from hu] at hiss
    cases hiss
  have hneS : T.aS ≠ a := Nat.ne_of_lt (Nat.lt_of_lt_of_le (Array.getElem?_eq_some_iff.mp hcS0).1 hnew)
  obtain ⟨iM, hffM⟩ := Y.msg
  obtain ⟨tyC, dC, hdC, hdnC⟩ := Cond.laysAt hfound hk Y.cause (k5 (.lays q_nse Bundle.tN "cause" "Ljava/lang/Throwable;") (by simp [q_at13]))
  obtain ⟨tyS, dS, hdS, hdnS⟩ := Cond.laysAt hfound hk Y.stack (k5 (.lays q_nse Bundle.tN "stackTrace" Bundle.steD) (by simp [q_at13]))
  obtain ⟨tyP, dP, hdP, hdnP⟩ := Cond.laysAt hfound hk Y.supp (k5 (.lays q_nse Bundle.tN "suppressedExceptions" Bundle.listD) (by simp [q_at13]))
  obtain ⟨tyM, dM, hdM, hdnM⟩ := Cond.laysAt hfound hk hffM (k5 (.lays q_nse Bundle.tN "detailMessage" "Ljava/lang/String;") (by simp [q_at13]))
  obtain ⟨tyB, dB, hdB, hdnB⟩ := Cond.laysAt hfound hk hffB (k5 (.lays q_nse Bundle.tN "backtrace" "Ljava/lang/Object;") (by simp [q_at13]))
  have bC := Cond.laysApart hdB hdC hdnB hdnC (by rw [hnB, Y.causeName]; decide)
  have bS := Cond.laysApart hdB hdS hdnB hdnS (by rw [hnB, Y.stackName]; decide)
  have bP := Cond.laysApart hdB hdP hdnB hdnP (by rw [hnB, Y.suppName]; decide)
  have hskip : SkipFacts T e.platform s (fun u => u) u0 ((preparedCellV T.toThrowableT (freshCell P1.m.cls kX) a u0 sen).withEntry W.cur) :=
    ⟨{ ci198 := ci198, i198 := i198, fBack := fB }, ⟨hk198, hg198, ha198, hsB⟩, by
      have := fresh_default (c := P1.m.cls) tyB
      rw [htB] at this
      simpa [preparedCellV, Cell.setSlot, Cell.withEntry, Array.getElem?_setIfInBounds, bC, bS, bP, bC.symm, bS.symm, bP.symm, defaultValue] using this, fun _ _ => rfl⟩
  obtain ⟨tm, methC, cdC, kC, vm₁, hnC, -, -, -, -, -, -, -, hW₁, st1⟩ := Steps.initColdS (tb := p.tables) (e := e) (below := below) (s := s) (U := W) X.here hexec X.warmed hpl hown (t := Bundle.initS q_nse) rfl rfl (by decide +kernel)
    (k5 (.methodLink RX11 177 (Bundle.initS q_nse)) (by simp [q_at13])) (k3 (.instanceMethod (Bundle.initS q_nse)) (by simp [Bundle.passSAtoms])) (bytes := prog_32_method_4_code) (maxL := 2) (k3 (.code (Bundle.initS q_nse) prog_32_method_4_code 2 none) (by simp [Bundle.passSAtoms]))
    (f := g) hg (a := a) (msg := msg) (rest := .ref a :: rest) hstack hd6
  cases Option.some.inj (hnC.symm.trans hP1m)
  have X₁ := X.noted hW₁
  have hlen1 : Ps.length = 1 := hlen
  obtain ⟨vm₂, X₂, st2⟩ := X₁.ctorMessageOffV hexec (g := { g with stack := .ref a :: rest }) hg hsize T L Z LZ M LM (P1 :: P2 :: Ps)
    (fun P hP => by
      rcases List.mem_cons.mp hP with rfl | hP
      · exact L1
      · rcases List.mem_cons.mp hP with rfl | hP
        · exact L2
        · exact hL P hP) ⟨hlink1, hlink2, hlink⟩ (u0 := u0) (sen := sen) (self := a) hmsg (cell := freshCell P1.m.cls kX) (cellS := cellS)
    hcell (fun _ => by simp) (by simp) rfl rfl hsel0 hselF hcellS hneS hknownS (by rw [hkeep _ (hout' _)]; exact hu0) (by rw [hkeep _ (hout' _)]; exact hsen)
    (Takes.of_laid hk hord tyC (by rw [Y.causeType]; rfl)) (Takes.of_laid hk hord tyS (by rw [Y.stackType]; exact fits_refV_array _ u0)) (Takes.of_laid hk hord tyP (by rw [Y.suppType]; exact fits_refV_object _ sen))
    (Takes.of_laid hk hord tyM (by rw [Y.msgType]; exact fits_refV_object _ ⟨msg, hmsg⟩)) Y.objLocals hskip htr [] hd6
    (by simp only [List.length_cons, hlen1]; omega) (by simp only [List.length_cons, hlen1]; exact hRlocals)
  obtain ⟨hwalk, hrun, hended, hWU, hsame⟩ := X₂.athrowLeaves hexec (g := { g with stack := .ref a :: rest, pc := g.pc + 3 }) hg hlocked hentered hout (a := a) (rest := rest) rfl hd9
  have hlt : a < ((W.setVm vm₁).setVm vm₂).heap.size := (Array.getElem?_eq_some_iff.mp hcell).1
  have hU := heapAt_setCell_self (s := (W.setVm vm₁).setVm vm₂) (plainBareV T.toThrowableT (freshCell P1.m.cls kX) a u0 sen msg) hlt
  refine ⟨_, st1 _ (fun acts => ?_), hrun, hended, hWU, hsame.weaken (fun y hy hlt' => ?_) (Nat.le_refl _) (Nat.le_refl _), _, hU, rfl, hfound⟩
  · rw [doInvoke_state]
    exact st2 _ hwalk
  · rcases List.mem_append.mp hy with h1 | h1
    · exact h1
    · exfalso
      have hb : y.base = a := by
        simp only [List.mem_cons, List.not_mem_nil, or_false] at h1
        rcases h1 with rfl | rfl | rfl | rfl | rfl <;> rfl
      rw [hb] at hlt'
      exact Nat.not_lt.mpr hnew hlt'
section Ends
variable {p : Program} {l : Launch} {e : Env} {R : Room} {s : State} {m : MethodId} {args : Array Value} {below : List Frame} {meth : Method} {c : Code} {H : Heap} {locs : List Loc} {cells slots : Nat} {Q : State → Prop}
variable {mc ms : Nat} {free : Addr → Prop} {A0 A1 : Nat → Prop} {H0 : Heap} {a : Array Value} {ls : Array Slot} {st0 rest : List Value}
variable {Qc : Array Value → State → Outcome → State → Prop} {XC : String → State → State → Prop}
theorem q_throwT {cc : ByteArray} {pc : Nat} (hexec : p.tables.exec = Jvm.exec) (hb : c.code = cc) (hl : l.stackTraces = false) {text : String} {is mc ms sa : Nat} {A : Nat → Prop}
    (hown : s.vm.findClass RX11 = some m.cls)
    (hk : (Cond.classLink RX11 173 q_nse).before args s = true) (hini : (Cond.initialized q_nse).before args s = true) (hstr : vk_R RX11 is text sa s) (hat : ∀ w ∈ q_at13.filter vx_no, w.before args s = true)
    (hgood : ∀ w ∈ Cond.classLink RX11 173 q_nse :: Cond.initialized q_nse :: q_at13.filter vx_no, vx_ot w = true)
    (hU : vx_Zq Bundle.tN "UNASSIGNED_STACK" Bundle.steD A s s.heap) (hN : vx_Zq Bundle.tN "SUPPRESSED_SENTINEL" Bundle.listD A s s.heap) (hS : va_S A s.heap H locs) (hsize : ls.size = c.maxLocals)
    (d0 : decode cc pc = .ok (.new 173, 3)) (d3 : decode cc (pc + 3) = .ok (.dup, 1)) (d4 : decode cc (pc + 4) = .ok (.ldc is, 2)) (d6 : decode cc (pc + 6) = .ok (.invokespecial 177, 3)) (d9 : decode cc (pc + 9) = .ok (.athrow, 1))
    (hout : ∀ x ∈ c.exceptionTable.toList, covers x (pc + 9) = false)
    (hRframes : 5 < R.frames) (hRlocals : (rest.map fun v => v.category).sum + 82 ≤ R.locals) (hRcells : cells + 1 ≤ R.cells) (hRslots : slots + 6 ≤ R.slots) (hlocks : meth.locks = false)
    (hx : ∀ t : State, s.vm.Alike t.vm → t.heap.size = H.size + 1 → (∀ q : Nat, q < H.size → t.heap[q]? = H[q]?) → XC q_nse s t)
    (hf : ∀ z ∈ locs, free z.base) (hc : cells + 1 ≤ mc) (hs : slots + 6 ≤ ms) :
    W p l e R s m args below meth c H locs cells slots (vx_MQ below Qc XC args s mc ms free) (F0 m pc ls rest) := by
  intro T hT X
  have htr : e.platform.stackTraces = false := (show e.platform.stackTraces = l.stackTraces by rw [X.admits.platform]).trans hl
  have Y := vx_rebase X (R' := { frames := R.frames, locals := R.locals, cells := 1, slots := 6 }) (Nat.le_refl _) (Nat.le_refl _) hRcells hRslots
  obtain ⟨s', hA⟩ : ∃ z, z = (T.setVm s.vm).setFrames (.invoking m args :: below) := ⟨_, rfl⟩
  rw [← hA] at Y
  have hvm : s'.vm = s.vm := by rw [hA]; rfl
  have hhp : s'.heap = H := by rw [hA]; exact hT
  have hW0 : s.WarmedH s'.vm := by rw [hvm]; exact State.WarmedH.refl s
  have hat' : ∀ w ∈ q_at13.filter vx_no, w.before args s' = true := fun w hw => vx_ot_at hW0 hvm.symm (hgood w (List.mem_cons_of_mem _ (List.mem_cons_of_mem _ hw))) (hat w hw)
  have hk' : (Cond.classLink RX11 173 q_nse).before args s' = true := vx_ot_at hW0 hvm.symm (hgood _ List.mem_cons_self) hk
  have hini' : (Cond.initialized q_nse).before args s' = true := vx_ot_at hW0 hvm.symm (hgood _ (List.mem_cons_of_mem _ List.mem_cons_self)) hini
  have hU' : vx_Zq Bundle.tN "UNASSIGNED_STACK" Bundle.steD A s' s'.heap := by rw [hhp]; exact vx_Zq.moved hW0.alike (hU.kept hS.2.1)
  have hN' : vx_Zq Bundle.tN "SUPPRESSED_SENTINEL" Bundle.listD A s' s'.heap := by rw [hhp]; exact vx_Zq.moved hW0.alike (hN.kept hS.2.1)
  have h : ∀ w ∈ q_at13, w.before args s' = true := vx_own hat' (vx_isRefq hU'.1) (vx_isRefq hN'.1) hU'.2.word hN'.2.word
  have hown' : s'.vm.findClass RX11 = some m.cls := by rw [hvm]; exact hown
  have hins : (Cond.instantiable q_nse 6).before args s' = true := h _ (by simp [q_at13])
  obtain ⟨vm₁, cX, kX, hfX, hkX, -, -, X₁, st1⟩ := Y.newCold hexec (own := RX11) (C := q_nse) (index := 173) (n := 6) hown' hk' hins hini'
    (g := F0 m pc ls rest) rfl (by rw [hb]; exact d0) (Nat.le_refl _) (Nat.le_refl _)
  generalize hT1 : (T.setVm vm₁).pushCell { cls := cX, slots := kX.instanceTypes.map defaultValue, vm := .none } = T1 at X₁ st1
  have hcat : (Value.ref T.heap.size).category = 1 := rfl
  have hcellA : T1.heap[T.heap.size]? = some (freshCell cX kX) := by rw [← hT1]; exact State.heap_pushCell_size _ _
  have d3' : decode c.code (pc + 3) = .ok (.dup, 1) := by rw [hb]; exact d3
  have d4' : decode c.code (pc + 4) = .ok (.ldc is, 2) := by rw [hb]; exact d4
  have hstr' : vk_R RX11 is text sa s' := vk_R.warm hW0 hstr
  obtain ⟨U, hsteps, hrun, hend, hW, hsame, ce, hce, hOv, hOc⟩ := q_ctorT X₁ hexec htr hown' h (fun x hx => nomatch hx) hfX hkX hcellA (by rw [hhp, hT]; exact Nat.le_refl _) (msg := .ref sa) rfl
    (g := { method := m, pc := pc + 6, locals := ls, stack := .ref sa :: .ref T.heap.size :: .ref T.heap.size :: rest, locked := none }) rfl hsize rfl rfl (rest := rest) rfl
    (by rw [hb]; exact d6) (by rw [hb]; exact d9) hout hRframes (by simp only [List.map_cons, List.sum_cons, hcat]; omega) hlocks
  obtain ⟨f1, f2⟩ := vx_frame hsame
  have f3 : U.heap.size = H.size + 1 := by
    have g1 : U.heap.size ≤ s'.heap.size + (0 + 1) := hsame.2.2.1
    have g2 : T.heap.size < U.heap.size := (Array.getElem?_eq_some_iff.mp hce).1
    rw [hhp] at g1
    rw [hT] at g2
    omega
  rw [hhp] at f1 f2
  have hWs : s.WarmedH U.vm := State.WarmedH.trans hW0 hW
  have hcl : s.vm.findClass q_nse = some ce.cls := by
    have h9 := hOc
    rw [hvm] at h9
    exact h9
  have hall : s.sameButNew ({ U with vm := s.vm } : State) locs mc ms := by
    subst hA
    obtain ⟨e1, e2⟩ := hsame
    rw [State.setFrames_setFrames] at e1
    have h2 : (T.setVm s.vm).sameButNew ({ U with vm := s.vm } : State) [] (0 + 1) (0 + 6) := ⟨e1, e2⟩
    have h3 := X.same.trans h2
    rw [List.append_nil] at h3
    exact h3.mono hc hs
  refine ⟨U, ?_, .threw T.heap.size, hrun, hend, Or.inr ⟨T.heap.size, rfl, q_nse, ce, locs, hx U hWs.alike f3 (fun q hq => f2 q hq (fun z hz => nomatch hz)), hce, hOv, hcl, hWs, hall, hf⟩⟩
  refine st1 _ ?_
  show Steps p.tables e below (T1.setTop { method := m, pc := pc + 3, locals := ls, stack := .ref T.heap.size :: rest, locked := none }) _
  jvm_step X₁.here [X₁.here.top, hexec, d3', Value.category]
  exact X₁.ldcString hexec (own := RX11) (text := text) (index := is) (a := sa) hown' hstr'.1 hstr'.2
    (g := { method := m, pc := pc + 4, locals := ls, stack := .ref T.heap.size :: .ref T.heap.size :: rest, locked := none }) rfl d4' _ hsteps
end Ends
set_option maxRecDepth 100000 in
theorem yw_25 : (Jvm.Cond.initialized "java/util/NoSuchElementException") ∈ q_gw := q_gwm 25 rfl rfl
set_option maxRecDepth 100000 in
theorem yw_1125 : (Jvm.Cond.classLink "GongHouse" (173 : Nat) "java/util/NoSuchElementException") ∈ q_gw := q_gwm 1125 rfl rfl
/-- what a throw of guest wants beside the tables -/
def q_dcl : List MethodName := [Bundle.initS q_rte, Bundle.initS "java/lang/Exception", Bundle.initS Bundle.tN]
def q_TX (G : q_G) (U : State) : Prop := (∀ y ∈ q_dcl, (Cond.declares y).before #[] U = true) ∧ vx_Zq Bundle.tN "UNASSIGNED_STACK" Bundle.steD (q_A G) U U.heap ∧ vx_Zq Bundle.tN "SUPPRESSED_SENTINEL" Bundle.listD (q_A G) U U.heap ∧ vk_R RX11 175 "no such guest" (G.2.1 100) U ∧ vk_R RX11 186 "nothing such of a guest" (G.2.1 101) U
def q_KX (K : q_K) : Prop := match K with
  | (_, l, _, _, s, _, _, _, _, c, G) => l.stackTraces = false ∧ q_TX G s ∧ ∀ x ∈ c.exceptionTable.toList, False
def q_XC (G : q_G) (M : q_Mem) : String → State → State → Prop := fun E st t => E = q_nse ∧ q_Sim G (q_push M q_jk) t.heap ∧ st.heap.size ≤ t.heap.size ∧ ∀ q, q < G.1 → t.heap[q]? = st.heap[q]?
def q_QX (K : q_K) (M : q_Mem) (mc ms : Nat) : State → Prop := match K with
  | (_, _, _, _, s, _, args, below, _, _, G) => vx_MQ below (fun _ _ _ _ => False) (q_XC G M) args s mc ms (q_A G)
def q_MetX (l : Launch) (G : q_G) (y : MethodName) (cc : ByteArray) (nL : Nat) (rt : Option FieldType) (d mc ms : Nat) (av : List Value) (M : q_Mem) : Prop :=
  vx_Met l y [.code y cc nL rt] (q_rm d mc ms) (fun v U => q_Pc G av M v U ∧ q_TX G U) (fun _ _ _ _ => False) (q_XC G M) mc ms (q_A G)
theorem q_SimJ {G : q_G} {M : q_Mem} {H H1 : Heap} (hM : q_Sim G M H) (hz : H1.size = H.size + 1) (hq : ∀ q : Nat, q < H.size → H1[q]? = H[q]?) : q_Sim G (q_push M q_jk) H1 := by
  have hn := q_Sim_len hM
  obtain ⟨a, b, c⟩ := hM
  refine ⟨fun j hj => ?_, ?_, fun j g hj hg hjk => ?_⟩
  · have hlt : j < M.2.2.2.length := by omega
    rw [(q_push_o hlt).1, (q_push_o hlt).2.2]
    refine ⟨?_, (a j hj).2⟩
    show (M.2.2.2 ++ [q_jk])[j]? = _
    rw [List.getElem?_append_left hlt]
    exact (a j hj).1
  · show H1.size = G.1 + ((M.2.2.2 ++ [q_jk]).length - q_NS)
    rw [hz, b, List.length_append]
    simp
    omega
  · have hg : (M.2.2.2 ++ [q_jk])[j]? = some g := hg
    rcases Nat.lt_or_ge j M.2.2.2.length with hlt | hge
    · rw [List.getElem?_append_left hlt] at hg
      rw [q_ce_eq (q_push_o hlt).1 (q_push_o hlt).2.1 (q_push_o hlt).2.2]
      refine (c j g hj hg hjk).kept (hq _ ?_)
      show q_ad G j < H.size
      rw [q_ad_dyn hj, b]
      omega
    · have hlt := (List.getElem?_eq_some_iff.mp hg).1
      rw [List.length_append] at hlt
      have e : j = M.2.2.2.length := by simp at hlt; omega
      subst e
      rw [List.getElem?_append_right (Nat.le_refl _), Nat.sub_self] at hg
      cases hg
      exact absurd rfl hjk
theorem q_atOt : ∀ w ∈ Cond.classLink RX11 173 q_nse :: Cond.initialized q_nse :: q_at13.filter vx_no, vx_ot w = true := by decide +kernel
def q_isD (w : Cond) : Bool := match w with
  | .declares y => decide (y ∈ q_dcl)
  | _ => false
theorem q_atW : ∀ w ∈ q_at13.filter vx_no, w ∈ tables_1 ∧ (goodWord w || q_isN w || q_isD w) = true := by decide +kernel
section QT
variable {K : q_K} {y : MethodName} {cc : ByteArray} {nL : Nat} {rt : Option FieldType} {d mc ms : Nat} {ce sl : Nat} {M : q_Mem} {pc : Nat} {L : List (Option Value)} {st : List Value}
theorem q_throw {is : Nat} {text : String} {sa : q_G → Nat} (C : q_C K y cc nL rt d mc ms) (hX : q_KX K) (hy : y.cls = RX11) (hstr : ∀ G U, q_TX G U → vk_R RX11 is text (sa G) U) (d0 : decode cc pc = .ok (.new 173, 3)) (d3 : decode cc (pc + 3) = .ok (.dup, 1)) (d4 : decode cc (pc + 4) = .ok (.ldc is, 2)) (d6 : decode cc (pc + 6) = .ok (.invokespecial 177, 3)) (d9 : decode cc (pc + 9) = .ok (.athrow, 1)) (hd : 6 ≤ d) (h8 : (st.map fun v => v.category).sum ≤ 8) (hcs : ce + 1 ≤ mc ∧ sl + 6 ≤ ms) : q_W K nL (q_QX K M mc ms) ce sl M pc L st := by
  obtain ⟨p, l, e, R, s, m, args, below, meth, c, G⟩ := K
  obtain ⟨hx, hb, hr, hml, hown, hlo, hnm, hT, hG, hST, hR1, hR2, hR3, hR4⟩ := C
  obtain ⟨hl, hTX, hex⟩ := hX
  intro H locs ls hM hS hl0
  have hts := q_hts hT args
  rw [hy] at hown
  have h9 := q_st8 (G := G) (m := m) (pc := pc) (ls := ls) (x := st.map (q_cv G)) h8
  have hat : ∀ w ∈ q_at13.filter vx_no, w.before args s = true := fun w hw => by
    obtain ⟨h1, h2⟩ := q_atW w hw
    cases hg : goodWord w
    · cases hn : q_isN w
      · rw [hg, hn] at h2
        have h2 : q_isD w = true := h2
        cases w <;> first | (exact vx_ot_at (State.WarmedH.refl s) rfl rfl (hTX.1 _ (of_decide_eq_true h2))) | (simp [q_isD] at h2)
      · exact q_nwf hT args (List.mem_filter.mpr ⟨h1, hn⟩)
    · exact hts _ (List.mem_filter.mpr ⟨List.mem_append_right _ h1, hg⟩)
  refine q_throwT (A := q_A G) (is := is) (text := text) (sa := sa G) hx hb hl hown (hts _ yw_1125) (hts _ yw_25) (hstr G s hTX) hat q_atOt hTX.2.1 hTX.2.2.1 hS (hl0.1.trans hml.symm) d0 d3 d4 d6 d9 (fun x hx => (hex x hx).elim) (by omega) (by omega) (by omega) (by omega) hlo (fun t ht h1 h2 => ⟨rfl, q_SimJ hM h1 h2, ?_, fun q hq => ?_⟩) ?_ hcs.1 hcs.2
  · have := hS.1
    omega
  · have h3 := hS.1
    rw [h2 q (by omega)]
    exact hS.2.1 q (by omega) (fun hA => by have : G.1 ≤ q := hA; omega)
  · exact hS.2.2
end QT
theorem q_enterX {l : Launch} {G : q_G} {y : MethodName} {cc : ByteArray} {nL : Nat} {rt : Option FieldType} {d mc ms : Nat} {av : List Value} {M : q_Mem} (L0 : List (Option Value)) (hst : l.stackTraces = false) (hy : plainName y.cls = true) (hav : (lg_sl av).length ≤ nL) (hL0 : q_ent av nL = L0)
    (body : ∀ K : q_K, q_C K y cc nL rt d mc ms → q_KX K → q_W K nL (q_QX K M mc ms) 0 0 M 0 L0 []) : q_MetX l G y cc nL rt d mc ms av M := by
  refine vx_ofW (cc := cc) (maxL := nL) (ret := rt) hy rfl ?_
  intro p e s m args below meth c s₁ B hml hex hv
  obtain ⟨⟨rfl, hM, hT, hST⟩, hTX⟩ := hv
  have hG : G.1 ≤ s.heap.size := by rw [hM.2.1]; omega
  have hlen : (lg_sl (av.map (q_cv G))).length ≤ nL := by rw [q_sl_len]; exact hav
  have hl := lv_entry (av.map (q_cv G)) (n := nL) hlen
  rw [lg_entry_eq]
  refine body (p, l, e, q_rm d mc ms, s, m, (av.map (q_cv G)).toArray, below, meth, c, G) ⟨B.exec, B.bytes, B.returns, hml, findClass_of_methodNamed B.named, B.notSynchronized, (name_of_methodNamed B.named B.method).1, hT, hG, hST, Nat.le_refl _, Nat.le_refl _, Nat.le_refl _, Nat.le_refl _⟩ ⟨hst, hTX, hex⟩ s.heap [] _ hM va_S.rf ⟨hl.1, hl.2.1, fun j v hj => hl.2.2 (j, q_cv G v) ?_⟩
  rw [← hL0] at hj
  have := q_ent_mem G av nL 0 j v hj
  rw [Nat.zero_add] at this
  exact this
