/-! a call that throws, caught by the caller's one row -/
theorem q_TXm {G : q_G} {s U : State} {H : Heap} (h : q_TX G s) (hU : U.heap = H) (hW : s.WarmedH U.vm) (hq : ∀ a : Nat, a < s.heap.size → ¬ q_A G a → H[a]? = s.heap[a]?) : q_TX G U := by
  obtain ⟨h0, h1, h2, h3, h4⟩ := h
  refine ⟨fun y hy => va_tabs rfl (rfl : (s.setVm U.vm).vm = U.vm) (by rw [Cond.declares_setVm hW.alike]; exact h0 y hy), ?_, ?_, vk_R.warm hW h3, vk_R.warm hW h4⟩
  · rw [hU]; exact vx_Zq.moved hW.alike (h1.kept hq)
  · rw [hU]; exact vx_Zq.moved hW.alike (h2.kept hq)
theorem q_blindX {G : q_G} {av : List Value} {M : q_Mem} : FrameBlind (fun v U => q_Pc G av M v U ∧ q_TX G U) := fun a U g mk h => ⟨q_blind a U g mk h.1, q_TXm h.2 rfl (State.WarmedH.refl U) (fun _ _ _ => rfl)⟩
def q_KT (K : q_K) : Prop := match K with
  | (_, _, _, _, s, _, _, _, _, _, G) => q_TX G s
def q_KE (K : q_K) (x : ExceptionTableEntry) : Prop := match K with
  | (_, _, _, _, _, _, _, _, _, c, _) => c.exceptionTable.toList = [x]
def q_WX (K : q_K) (nL : Nat) (Q : State → Prop) (ce sl : Nat) (M : q_Mem) (pc : Nat) (L : List (Option Value)) : Prop := match K with
  | (p, l, e, R, s, m, args, below, meth, c, G) => ∀ (H : Heap) (locs : List Loc) (ls : Array Slot) (q : Addr), q_Sim G M H → va_S (q_A G) s.heap H locs → q_LH G ls nL L → W p l e R s m args below meth c H locs ce sl Q (F0 m pc ls [.ref q])
section QZ
variable {K : q_K} {y : MethodName} {cc : ByteArray} {nL : Nat} {rt : Option FieldType} {d mc ms : Nat} {Q : State → Prop} {ce sl : Nat} {M : q_Mem} {pc : Nat} {L : List (Option Value)} {st st0 : List Value}
theorem q_callX {y' : MethodName} {cc' : ByteArray} {nL' n d' mc' ms' idx k ci : Nat} {rt' : Option FieldType} {av : List Value} {x : ExceptionTableEntry} (C : q_C K y cc nL rt d mc ms) (hd : decode cc pc = .ok (.invokevirtual idx, 3)) (lk : Cond.methodLink y.cls idx y' ∈ q_gw) (mt : q_mV y' cc' nL' rt' n) (hci : ∃ r, q_cl[ci]? = some r ∧ r.1 = y'.cls) (hk : M.2.2.2[k]? = some (.inl ci)) (hM : q_MetX K.2.1 (q_kG K) y' cc' nL' rt' d' mc' ms' (.ref k :: av) M) (hTX : q_KT K) (hsplit : q_KE K x) (hx0 : covers x pc = true) (h0 : x.catchType ≠ 0) (hlink : Cond.classLink y.cls x.catchType q_nse ∈ q_gw) (hst : st0 = av.reverse ++ .ref k :: st) (hn : av.length = n) (h8 : (st.map fun v => v.category).sum ≤ 8) (hdd : d' + 1 ≤ d ∧ nL' ≤ 45) (hcs : ce + mc' ≤ mc ∧ sl + ms' ≤ ms) (kk : q_WX K nL Q (ce + mc') (sl + ms') (q_push M q_jk) x.handlerPc L) : q_W K nL Q ce sl M pc L st0 := by
  subst hst
  obtain ⟨p, l, e, R, s, m, args, below, meth, c, G⟩ := K
  obtain ⟨hx, hb, hr, hml, hown, hlo, hnm, hT, hG, hST, hR1, hR2, hR3, hR4⟩ := C
  obtain ⟨⟨m1, m2, m3, m4, m5⟩, m6, m7⟩ := mt
  obtain ⟨r, hc, hr1⟩ := hci
  have hTX : q_TX G s := hTX
  intro H locs ls hM0 hS hl0
  have hts := q_hts hT args
  have hkd : q_NS ≤ k := q_dyn hM0 hk hc
  have hP : va_P G.2.2.1 q_cl [(q_ad G k, .inr (ci, q_fs G M k ci))] H := fun i q hq => by
    cases i with
    | zero => cases hq; exact hM0.2.2 k _ hkd hk (by simp [q_jk])
    | succ i => cases hq
  have hrec := va_recv hT.2.2 hP hc (q0 := 0) rfl
  rw [hr1] at hrec
  have hpre : PreV s H y'.cls (q_ad G k) (fun v U => q_Pc G (.ref k :: av) M v U ∧ q_TX G U) (av.map (q_cv G)) := ⟨q_blindX, hrec, fun U hU hW => ⟨q_pre (av := .ref k :: av) hT hST hM0 hS U hU hW, q_TXm hTX hU hW hS.2.1⟩⟩
  have hstk : (F0 m pc ls ((av.reverse ++ .ref k :: st).map (q_cv G))).stack = (av.map (q_cv G)).reverse ++ .ref (q_ad G k) :: st.map (q_cv G) := by
    show (av.reverse ++ .ref k :: st).map (q_cv G) = _
    rw [List.map_append, List.map_reverse]
    rfl
  have run := vx_runV (e := e) (below := below) (meth := meth) (locs := locs) (cells := ce) (slots := sl) (As := av.map (q_cv G)) (rest := st.map (q_cv G)) ⟨hx, hb, hml, hown, hts⟩ hM ⟨callB_of n hts (q_good1 m2) rfl rfl rfl (hts _ m1) (hts _ lk) ⟨m3, m4, m5⟩ (q_room hR1 hR2 hdd mc' ms'), hts _ m6, hts _ m7⟩ hpre (g := F0 m pc ls ((av.reverse ++ .ref k :: st).map (q_cv G))) rfl (by rw [List.length_map]; exact hn) hl0.1 hstk (q_st8 h8) hd ⟨by omega, by omega⟩
  intro T hT0 X
  rcases run T hT0 X with ⟨v, st₀, t, T', L1, a1, a2, a3, a4, a5, hq, a7⟩ | ⟨q, st₀, t, T', L1, E, ce', b1, b2, b3, b4, b5, hXC, b7, b8, b9, b10⟩
  · exact hq.elim
  · obtain ⟨rfl, hSim, hsz, hold⟩ := hXC
    obtain ⟨vm', X', st'⟩ := q_caught b2 q (g := { F0 m pc ls ((av.reverse ++ .ref k :: st).map (q_cv G)) with stack := st.map (q_cv G) }) rfl hown hsplit hx0 h0 (hts _ hlink) b9 (by rw [b4]; exact b7) (fun k h => by rw [b8] at h; cases h) (va_asg _ _)
    obtain ⟨t2, s1, s2⟩ := kk T'.heap (locs ++ L1) ls q (by rw [b4]; exact hSim) ⟨by rw [b4]; rw [b1] at hsz; exact Nat.le_trans hS.1 hsz, fun a h1 h2 => by
      have h3 : a < G.1 := Nat.lt_of_not_le h2
      rw [b4, hold a h3, b1]
      exact hS.2.1 a h1 h2, fun z hz => (List.mem_append.mp hz).elim (fun h => hS.2.2 z h) (fun h => b3 z h)⟩ hl0 (T'.setVm vm') rfl X'
    exact ⟨t2, b10.trans (st' _ s1), s2⟩
end QZ
