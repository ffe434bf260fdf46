/-! guest throws -/
section Ends
variable {p : Program} {l : Launch} {e : Env} {R : Room} {s : State} {m : MethodId} {args : Array Value} {below : List Frame} {meth : Method} {c : Code} {H : Heap} {locs : List Loc} {cells slots : Nat} {Q : State → Prop}
variable {mc ms : Nat} {free : Addr → Prop} {A0 A1 : Nat → Prop} {H0 : Heap} {a : Array Value} {ls : Array Slot} {st0 rest : List Value}
variable {Qc : Array Value → State → Outcome → State → Prop} {XC : String → State → State → Prop}
theorem q_throwS {cc : ByteArray} {pc : Nat} (hexec : p.tables.exec = Jvm.exec) (hb : c.code = cc) (hl : l.stackTraces = false) {own cls text : String} {names : List String} {ik is ic mc ms sa : Nat} {A : Nat → Prop}
    (hown : s.vm.findClass own = some m.cls) (hcls : Bundle.fit cls = true) (hnames : ∀ n ∈ names, Bundle.fit n = true)
    (hk : (Cond.classLink own ik cls).before args s = true) (hini : (Cond.initialized cls).before args s = true) (hstr : vk_R own is text sa s) (hat : ∀ w ∈ vx_atS own ic cls names, w.before args s = true)
    (hgood : ∀ w ∈ Cond.classLink own ik cls :: Cond.initialized cls :: vx_atS own ic cls names, vx_ot w = true)
    (hU : vx_Zq Bundle.tN "UNASSIGNED_STACK" Bundle.steD A s s.heap) (hN : vx_Zq Bundle.tN "SUPPRESSED_SENTINEL" Bundle.listD A s s.heap) (hS : va_S A s.heap H locs) (hsize : ls.size = c.maxLocals)
    (d0 : decode cc pc = .ok (.new ik, 3)) (d3 : decode cc (pc + 3) = .ok (.dup, 1)) (d4 : decode cc (pc + 4) = .ok (.ldc is, 2)) (d6 : decode cc (pc + 6) = .ok (.invokespecial ic, 3)) (d9 : decode cc (pc + 9) = .ok (.athrow, 1))
    (hout : ∀ x ∈ c.exceptionTable.toList, covers x (pc + 9) = false)
    (hRframes : names.length + 3 < R.frames) (hRlocals : (rest.map fun v => v.category).sum + (13 * (names.length + 1) + 43) ≤ R.locals) (hRcells : cells + 1 ≤ R.cells) (hRslots : slots + 6 ≤ R.slots) (hlocks : meth.locks = false)
    (hx : ∀ t : State, s.vm.Alike t.vm → t.heap.size = H.size + 1 → (∀ q : Nat, q < H.size → t.heap[q]? = H[q]?) → XC cls s t)
    (hf : ∀ z ∈ locs, free z.base) (hc : cells + 1 ≤ mc) (hs : slots + 6 ≤ ms) :
    W p l e R s m args below meth c H locs cells slots (vx_MQ below Qc XC args s mc ms free) (F0 m pc ls rest) := by
  intro T hT X
  have htr : e.platform.stackTraces = false := (show e.platform.stackTraces = l.stackTraces by rw [X.admits.platform]).trans hl
  have Y := vx_rebase X (R' := { frames := R.frames, locals := R.locals, cells := 1, slots := 6 }) (Nat.le_refl _) (Nat.le_refl _) hRcells hRslots
  obtain ⟨s', hA⟩ : ∃ z, z = (T.setVm s.vm).setFrames (.invoking m args :: below) := ⟨_, rfl⟩
  rw [← hA] at Y
  have hvm : s'.vm = s.vm := by rw [hA]; rfl
  have hhp : s'.heap = H := by rw [hA]; exact hT
  have hW0 : s.WarmedH s'.vm := by rw [hvm]; exact State.WarmedH.refl s
  have hat' : ∀ w ∈ vx_atS own ic cls names, w.before args s' = true := fun w hw => vx_ot_at hW0 hvm.symm (hgood w (List.mem_cons_of_mem _ (List.mem_cons_of_mem _ hw))) (hat w hw)
  have hk' : (Cond.classLink own ik cls).before args s' = true := vx_ot_at hW0 hvm.symm (hgood _ List.mem_cons_self) hk
  have hini' : (Cond.initialized cls).before args s' = true := vx_ot_at hW0 hvm.symm (hgood _ (List.mem_cons_of_mem _ List.mem_cons_self)) hini
  have hU' : vx_Zq Bundle.tN "UNASSIGNED_STACK" Bundle.steD A s' s'.heap := by rw [hhp]; exact vx_Zq.moved hW0.alike (hU.kept hS.2.1)
  have hN' : vx_Zq Bundle.tN "SUPPRESSED_SENTINEL" Bundle.listD A s' s'.heap := by rw [hhp]; exact vx_Zq.moved hW0.alike (hN.kept hS.2.1)
  have h : ∀ w ∈ Bundle.ownAtoms own ic cls names, w.before args s' = true := vx_own hat' (vx_isRefq hU'.1) (vx_isRefq hN'.1) hU'.2.word hN'.2.word
  have hown' : s'.vm.findClass own = some m.cls := by rw [hvm]; exact hown
  have hins : (Cond.instantiable cls 6).before args s' = true := h _ (by simp [Bundle.ownAtoms])
  obtain ⟨vm₁, cX, kX, hfX, hkX, -, -, X₁, st1⟩ := Y.newCold hexec (own := own) (C := cls) (index := ik) (n := 6) hown' hk' hins hini'
    (g := F0 m pc ls rest) rfl (by rw [hb]; exact d0) (Nat.le_refl _) (Nat.le_refl _)
  generalize hT1 : (T.setVm vm₁).pushCell { cls := cX, slots := kX.instanceTypes.map defaultValue, vm := .none } = T1 at X₁ st1
  have hcat : (Value.ref T.heap.size).category = 1 := rfl
  have hcellA : T1.heap[T.heap.size]? = some (freshCell cX kX) := by rw [← hT1]; exact State.heap_pushCell_size _ _
  have d3' : decode c.code (pc + 3) = .ok (.dup, 1) := by rw [hb]; exact d3
  have d4' : decode c.code (pc + 4) = .ok (.ldc is, 2) := by rw [hb]; exact d4
  have hstr' : vk_R own is text sa s' := vk_R.warm hW0 hstr
  obtain ⟨U, hsteps, hrun, hend, hW, hsame, ce, hce, hO⟩ := X₁.ctorThrowS hexec htr (own := own) (cls := cls) (names := names) (ic := ic) hown' hcls hnames h (fun x hx => nomatch hx) hfX hkX hcellA (by rw [hhp, hT]; exact Nat.le_refl _) (msg := .ref sa) rfl
    (g := { method := m, pc := pc + 6, locals := ls, stack := .ref sa :: .ref T.heap.size :: .ref T.heap.size :: rest, locked := none }) rfl hsize rfl rfl (rest := rest) rfl
    (by rw [hb]; exact d6) (by rw [hb]; exact d9) hout hRframes (by simp only [List.map_cons, List.sum_cons, hcat]; omega) hlocks
  obtain ⟨f1, f2⟩ := vx_frame hsame
  have f3 : U.heap.size = H.size + 1 := by
    have g1 : U.heap.size ≤ s'.heap.size + (0 + 1) := hsame.2.2.1
    have g2 : T.heap.size < U.heap.size := (Array.getElem?_eq_some_iff.mp hce).1
    rw [hhp] at g1
    rw [hT] at g2
    omega
  rw [hhp] at f1 f2
  have hWs : s.WarmedH U.vm := State.WarmedH.trans hW0 hW
  have hcl : s.vm.findClass cls = some ce.cls := by
    have h9 := hO.cls
    rw [hvm] at h9
    exact h9
  have hall : s.sameButNew ({ U with vm := s.vm } : State) locs mc ms := by
    subst hA
    obtain ⟨e1, e2⟩ := hsame
    rw [State.setFrames_setFrames] at e1
    have h2 : (T.setVm s.vm).sameButNew ({ U with vm := s.vm } : State) [] (0 + 1) (0 + 6) := ⟨e1, e2⟩
    have h3 := X.same.trans h2
    rw [List.append_nil] at h3
    exact h3.mono hc hs
  refine ⟨U, ?_, .threw T.heap.size, hrun, hend, Or.inr ⟨T.heap.size, rfl, cls, ce, locs, hx U hWs.alike f3 (fun q hq => f2 q hq (fun z hz => nomatch hz)), hce, hO.vm, hcl, hWs, hall, hf⟩⟩
  refine st1 _ ?_
  show Steps p.tables e below (T1.setTop { method := m, pc := pc + 3, locals := ls, stack := .ref T.heap.size :: rest, locked := none }) _
  jvm_step X₁.here [X₁.here.top, hexec, d3', Value.category]
  exact X₁.ldcString hexec (own := own) (text := text) (index := is) (a := sa) hown' hstr'.1 hstr'.2
    (g := { method := m, pc := pc + 4, locals := ls, stack := .ref T.heap.size :: .ref T.heap.size :: rest, locked := none }) rfl d4' _ hsteps
end Ends
set_option maxRecDepth 100000 in
theorem yw_25 : (Jvm.Cond.initialized "java/util/NoSuchElementException") ∈ q_gw := q_gwm 25 rfl rfl
set_option maxRecDepth 100000 in
theorem yw_1125 : (Jvm.Cond.classLink "GongHouse" (173 : Nat) "java/util/NoSuchElementException") ∈ q_gw := q_gwm 1125 rfl rfl
def q_nse : String := "java/util/NoSuchElementException"
def q_nsN : List String := ["java/lang/RuntimeException", "java/lang/Exception"]
/-- what a throw of guest wants beside the tables -/
def q_TX (G : q_G) (U : State) : Prop := (∀ w ∈ vx_atS RX11 177 q_nse q_nsN, w.before #[] U = true) ∧ vx_Zq Bundle.tN "UNASSIGNED_STACK" Bundle.steD (q_A G) U U.heap ∧ vx_Zq Bundle.tN "SUPPRESSED_SENTINEL" Bundle.listD (q_A G) U U.heap ∧ vk_R RX11 175 "no such guest" (G.2.1 100) U ∧ vk_R RX11 186 "nothing such of a guest" (G.2.1 101) U
def q_KX (K : q_K) : Prop := match K with
  | (_, l, _, _, s, _, _, _, _, c, G) => l.stackTraces = false ∧ q_TX G s ∧ ∀ x ∈ c.exceptionTable.toList, False
def q_XC (G : q_G) (M : q_Mem) : String → State → State → Prop := fun E st t => E = q_nse ∧ q_Sim G (q_push M q_jk) t.heap ∧ st.heap.size ≤ t.heap.size ∧ ∀ q, q < G.1 → t.heap[q]? = st.heap[q]?
def q_QX (K : q_K) (M : q_Mem) (mc ms : Nat) : State → Prop := match K with
  | (_, _, _, _, s, _, args, below, _, _, G) => vx_MQ below (fun _ _ _ _ => False) (q_XC G M) args s mc ms (q_A G)
def q_MetX (l : Launch) (G : q_G) (y : MethodName) (cc : ByteArray) (nL : Nat) (rt : Option FieldType) (d mc ms : Nat) (av : List Value) (M : q_Mem) : Prop :=
  vx_Met l y [.code y cc nL rt] (q_rm d mc ms) (fun v U => q_Pc G av M v U ∧ q_TX G U) (fun _ _ _ _ => False) (q_XC G M) mc ms (q_A G)
theorem q_SimJ {G : q_G} {M : q_Mem} {H H1 : Heap} (hM : q_Sim G M H) (hz : H1.size = H.size + 1) (hq : ∀ q : Nat, q < H.size → H1[q]? = H[q]?) : q_Sim G (q_push M q_jk) H1 := by
  have hn := q_Sim_len hM
  obtain ⟨a, b, c⟩ := hM
  refine ⟨fun j hj => ?_, ?_, fun j g hj hg hjk => ?_⟩
  · have hlt : j < M.2.2.2.length := by omega
    rw [(q_push_o hlt).1, (q_push_o hlt).2.2]
    refine ⟨?_, (a j hj).2⟩
    show (M.2.2.2 ++ [q_jk])[j]? = _
    rw [List.getElem?_append_left hlt]
    exact (a j hj).1
  · show H1.size = G.1 + ((M.2.2.2 ++ [q_jk]).length - q_NS)
    rw [hz, b, List.length_append]
    simp
    omega
  · have hg : (M.2.2.2 ++ [q_jk])[j]? = some g := hg
    rcases Nat.lt_or_ge j M.2.2.2.length with hlt | hge
    · rw [List.getElem?_append_left hlt] at hg
      rw [q_ce_eq (q_push_o hlt).1 (q_push_o hlt).2.1 (q_push_o hlt).2.2]
      refine (c j g hj hg hjk).kept (hq _ ?_)
      show q_ad G j < H.size
      rw [q_ad_dyn hj, b]
      omega
    · have hlt := (List.getElem?_eq_some_iff.mp hg).1
      rw [List.length_append] at hlt
      have e : j = M.2.2.2.length := by simp at hlt; omega
      subst e
      rw [List.getElem?_append_right (Nat.le_refl _), Nat.sub_self] at hg
      cases hg
      exact absurd rfl hjk
theorem q_atOt : ∀ w ∈ Cond.classLink RX11 173 q_nse :: Cond.initialized q_nse :: vx_atS RX11 177 q_nse q_nsN, vx_ot w = true := by decide +kernel
section QT
variable {K : q_K} {y : MethodName} {cc : ByteArray} {nL : Nat} {rt : Option FieldType} {d mc ms : Nat} {ce sl : Nat} {M : q_Mem} {pc : Nat} {L : List (Option Value)} {st : List Value}
theorem q_throw {is : Nat} {text : String} {sa : q_G → Nat} (C : q_C K y cc nL rt d mc ms) (hX : q_KX K) (hy : y.cls = RX11) (hstr : ∀ G U, q_TX G U → vk_R RX11 is text (sa G) U) (d0 : decode cc pc = .ok (.new 173, 3)) (d3 : decode cc (pc + 3) = .ok (.dup, 1)) (d4 : decode cc (pc + 4) = .ok (.ldc is, 2)) (d6 : decode cc (pc + 6) = .ok (.invokespecial 177, 3)) (d9 : decode cc (pc + 9) = .ok (.athrow, 1)) (hd : 6 ≤ d) (h8 : (st.map fun v => v.category).sum ≤ 8) (hcs : ce + 1 ≤ mc ∧ sl + 6 ≤ ms) : q_W K nL (q_QX K M mc ms) ce sl M pc L st := by
  obtain ⟨p, l, e, R, s, m, args, below, meth, c, G⟩ := K
  obtain ⟨hx, hb, hr, hml, hown, hlo, hnm, hT, hG, hST, hR1, hR2, hR3, hR4⟩ := C
  obtain ⟨hl, hTX, hex⟩ := hX
  intro H locs ls hM hS hl0
  have hts := q_hts hT args
  rw [hy] at hown
  have h9 := q_st8 (G := G) (m := m) (pc := pc) (ls := ls) (x := st.map (q_cv G)) h8
  have hat : ∀ w ∈ vx_atS RX11 177 q_nse q_nsN, w.before args s = true := fun w hw => vx_ot_at (State.WarmedH.refl s) rfl (q_atOt w (List.mem_cons_of_mem _ (List.mem_cons_of_mem _ hw))) (hTX.1 w hw)
  refine q_throwS (A := q_A G) (cls := q_nse) (names := q_nsN) (is := is) (text := text) (sa := sa G) hx hb hl hown (by decide +kernel) (by decide +kernel) (hts _ yw_1125) (hts _ yw_25) (hstr G s hTX) hat q_atOt hTX.2.1 hTX.2.2.1 hS (hl0.1.trans hml.symm) d0 d3 d4 d6 d9 (fun x hx => (hex x hx).elim) (by show 2 + 3 < R.frames; omega) (by show _ + (13 * (2 + 1) + 43) ≤ R.locals; omega) (by omega) (by omega) hlo (fun t ht h1 h2 => ⟨rfl, q_SimJ hM h1 h2, ?_, fun q hq => ?_⟩) ?_ hcs.1 hcs.2
  · have := hS.1
    omega
  · have h3 := hS.1
    rw [h2 q (by omega)]
    exact hS.2.1 q (by omega) (fun hA => by have : G.1 ≤ q := hA; omega)
  · exact hS.2.2
end QT
theorem q_enterX {l : Launch} {G : q_G} {y : MethodName} {cc : ByteArray} {nL : Nat} {rt : Option FieldType} {d mc ms : Nat} {av : List Value} {M : q_Mem} (L0 : List (Option Value)) (hst : l.stackTraces = false) (hy : plainName y.cls = true) (hav : (lg_sl av).length ≤ nL) (hL0 : q_ent av nL = L0)
    (body : ∀ K : q_K, q_C K y cc nL rt d mc ms → q_KX K → q_W K nL (q_QX K M mc ms) 0 0 M 0 L0 []) : q_MetX l G y cc nL rt d mc ms av M := by
  refine vx_ofW (cc := cc) (maxL := nL) (ret := rt) hy rfl ?_
  intro p e s m args below meth c s₁ B hml hex hv
  obtain ⟨⟨rfl, hM, hT, hST⟩, hTX⟩ := hv
  have hG : G.1 ≤ s.heap.size := by rw [hM.2.1]; omega
  have hlen : (lg_sl (av.map (q_cv G))).length ≤ nL := by rw [q_sl_len]; exact hav
  have hl := lv_entry (av.map (q_cv G)) (n := nL) hlen
  rw [lg_entry_eq]
  refine body (p, l, e, q_rm d mc ms, s, m, (av.map (q_cv G)).toArray, below, meth, c, G) ⟨B.exec, B.bytes, B.returns, hml, findClass_of_methodNamed B.named, B.notSynchronized, (name_of_methodNamed B.named B.method).1, hT, hG, hST, Nat.le_refl _, Nat.le_refl _, Nat.le_refl _, Nat.le_refl _⟩ ⟨hst, hTX, hex⟩ s.heap [] _ hM va_S.rf ⟨hl.1, hl.2.1, fun j v hj => hl.2.2 (j, q_cv G v) ?_⟩
  rw [← hL0] at hj
  have := q_ent_mem G av nL 0 j v hj
  rw [Nat.zero_add] at this
  exact this
