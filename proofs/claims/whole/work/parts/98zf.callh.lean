/-! the law calls its own guest -/
set_option maxRecDepth 100000 in
theorem yw_1118 : Cond.static yL_guest ∈ q_gw := q_gwm 1118 rfl rfl
set_option maxRecDepth 100000 in
theorem yw_1119 : Cond.codeWith yL_guest cL_guest 5 (some .int) [(0, 10, 13, 13)] ∈ q_gw := q_gwm 1119 rfl rfl
section QH
variable {K : q_K} {y : MethodName} {cc : ByteArray} {nL : Nat} {rt : Option FieldType} {d mc ms : Nat} {Q : State → Prop} {ce sl : Nat} {M : q_Mem} {pc : Nat} {L : List (Option Value)} {st st0 : List Value}
theorem x_callH {idx : Nat} {av : List Value} {r : Int32} {M1 : q_Mem} (C : q_C K y cc nL rt d mc ms) (hd : decode cc pc = .ok (.invokestatic idx, 3)) (lk : Cond.methodLink y.cls idx yL_guest ∈ q_gw) (hini : Cond.initialized yL_guest.cls ∈ q_gw) (hTX : q_KT K) (hM : q_MetH K.2.1 (q_kG K) av M r M1) (hst : st0 = av.reverse ++ st) (hn : av.length = 4) (h8 : (st.map fun v => v.category).sum ≤ 8) (hd7 : 8 ≤ d) (hcs : ce + 1 ≤ mc ∧ sl + 6 ≤ ms) (kk : q_W K nL Q (ce + 1) (sl + 6) M1 (pc + 3) L (.int r :: st)) : q_W K nL Q ce sl M pc L st0 := by
  subst hst
  obtain ⟨p, l, e, R, s, m, args, below, meth, c, G⟩ := K
  obtain ⟨hx, hb, hr, hml, hown, hlo, hnm, hT, hG, hST, hR1, hR2, hR3, hR4⟩ := C
  have hTX : q_TX G s := hTX
  intro H locs ls hM0 hS hl0
  have hts := q_hts hT args
  have hpre : PreS s H (fun v U => q_Pc G av M v U ∧ q_TX G U) (av.map (q_cv G)) := ⟨q_blindX, fun U hU hW => ⟨q_pre (av := av) hT hST hM0 hS U hU hW, q_TXm hTX hU hW hS.2.1⟩⟩
  have hstk : (F0 m pc ls ((av.reverse ++ st).map (q_cv G))).stack = (av.map (q_cv G)).reverse ++ st.map (q_cv G) := by
    show (av.reverse ++ st).map (q_cv G) = _
    rw [List.map_append, List.map_reverse]
  have hpar : parseMethodDescriptor yL_guest.desc = some ⟨[.object "GongHouse", .int, .int, .array .long], some .int⟩ := by decide +kernel
  have cw : vx_CSW R s args y.cls idx yL_guest cL_guest 5 (some .int) [(0, 10, 13, 13)] [.codeWith yL_guest cL_guest 5 (some .int) [(0, 10, 13, 13)]] (q_rm 7 1 6) 1 6 4 := ⟨⟨rfl, rfl, by show 7 + 1 ≤ R.frames; omega, by show 8 + (5 + 11) + 64 * 7 ≤ R.locals; omega, fun w hw a' U hW => by
    rw [List.mem_singleton] at hw
    subst hw
    exact word_at hW (q_gw_good yw_1119) (hts _ yw_1119), List.mem_cons_self⟩, hts _ yw_1119, hts _ hini, by decide, fun sig h => by rw [hpar] at h; cases h; rfl, hts _ lk, hts _ yw_1118⟩
  have run := vx_runSX (e := e) (below := below) (meth := meth) (locs := locs) (cells := ce) (slots := sl) (As := av.map (q_cv G)) (rest := st.map (q_cv G)) ⟨hx, hb, hml, hown, hts⟩ hM cw hpre (g := F0 m pc ls ((av.reverse ++ st).map (q_cv G))) rfl (by rw [List.length_map]; exact hn) hl0.1 hstk (q_st8 h8) hd ⟨by omega, by omega⟩
  refine q_ofRun (ov := some (.int r)) (mc' := 1) (ms' := 6) (a := (av.map (q_cv G)).toArray) (rest := st) hG (fun T hT0 X => ?_) hS hl0 kk
  rcases run T hT0 X with hh | ⟨q, st₀, t, T', L1, E, ce', b1, b2, b3, b4, b5, hXC, -⟩
  · exact hh
  · exact hXC.elim
end QH
