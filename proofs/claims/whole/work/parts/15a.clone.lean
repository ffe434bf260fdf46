/-! a row's clone -/
def q_cln {β : Type} (M : q_Mem) (k b : Nat) (f : Nat → q_Mem → Option β) : Option β := if q_NS ≤ k ∧ q_ln M 0 k ≤ b ∧ M.2.2.2[k]? = some (.inr (0, q_ln M 0 k)) then f M.2.2.2.length (q_sC (q_push M (.inr (0, q_ln M 0 k))) M.2.2.2.length (M.1 k)) else none
section QN
variable {K : q_K} {y : MethodName} {cc : ByteArray} {nL : Nat} {rt : Option FieldType} {d mc ms : Nat} {Q : State → Prop} {ce sl : Nat} {M : q_Mem} {pc : Nat} {L : List (Option Value)} {st : List Value}
theorem q_SimC {G : q_G} {H H1 : Heap} {k n : Nat} (hM : q_Sim G M H) (he : H1[H.size]? = some (vp_cell (G.2.2.2 0) (n, .inl (M.1 k)))) (hz : H1.size = H.size + 1) (hq : ∀ q : Nat, q < H.size → H1[q]? = H[q]?) : q_Sim G (q_sC (q_push M (.inr (0, n))) M.2.2.2.length (M.1 k)) H1 := by
  have hn := q_Sim_len hM
  have htop := q_Sim_top hM
  have ho : ∀ j, j < M.2.2.2.length → (q_sC (q_push M (.inr (0, n))) M.2.2.2.length (M.1 k)).1 j = M.1 j ∧ (q_sC (q_push M (.inr (0, n))) M.2.2.2.length (M.1 k)).2.1 j = M.2.1 j ∧ (q_sC (q_push M (.inr (0, n))) M.2.2.2.length (M.1 k)).2.2.1 j = M.2.2.1 j := fun j hj => by
    have h1 : j ≠ M.2.2.2.length := by omega
    obtain ⟨z1, z2, z3⟩ := q_push_o (M := M) (h := .inr (0, n)) hj
    refine ⟨?_, z2, z3⟩
    show va_up (q_push M (.inr (0, n))).1 M.2.2.2.length (M.1 k) j = _
    rw [q_up_ne h1]
    exact z1
  obtain ⟨a, b, c⟩ := hM
  refine ⟨fun j hj => ?_, ?_, fun j g hj hg hjk => ?_⟩
  · have hlt : j < M.2.2.2.length := by omega
    rw [(ho j hlt).1, (ho j hlt).2.2]
    refine ⟨?_, (a j hj).2⟩
    show (M.2.2.2 ++ [(.inr (0, n) : q_Sh)])[j]? = _
    rw [List.getElem?_append_left hlt]
    exact (a j hj).1
  · show H1.size = G.1 + ((M.2.2.2 ++ [(.inr (0, n) : q_Sh)]).length - q_NS)
    rw [hz, b, List.length_append]
    simp
    omega
  · have hg : (M.2.2.2 ++ [(.inr (0, n) : q_Sh)])[j]? = some g := hg
    rcases Nat.lt_or_ge j M.2.2.2.length with hlt | hge
    · rw [List.getElem?_append_left hlt] at hg
      rw [q_ce_eq (ho j hlt).1 (ho j hlt).2.1 (ho j hlt).2.2]
      refine (c j g hj hg hjk).kept (hq _ ?_)
      show q_ad G j < H.size
      rw [q_ad_dyn hj, b]
      omega
    · have hlt := (List.getElem?_eq_some_iff.mp hg).1
      rw [List.length_append] at hlt
      have e : j = M.2.2.2.length := by simp at hlt; omega
      subst e
      rw [List.getElem?_append_right (Nat.le_refl _), Nat.sub_self] at hg
      cases hg
      rw [htop]
      show H1[H.size]? = some (vp_cell (G.2.2.2 0) (n, .inl (va_up (q_push M (.inr (0, n))).1 M.2.2.2.length (M.1 k) M.2.2.2.length)))
      rw [q_up_eq]
      exact he
/-- clone and the cast behind it -/
theorem q_clone {β : Type} {res : β} {k b idx ix2 : Nat} {f : Nat → q_Mem → Option β} (C : q_C K y cc nL rt d mc ms) (hd : decode cc pc = .ok (.invokevirtual idx, 3)) (hd2 : decode cc (pc + 3) = .ok (.checkcast ix2, 3)) (hw : Cond.methodLink y.cls idx ⟨"[I", "clone", "()Ljava/lang/Object;"⟩ ∈ q_gw) (hw2 : Cond.sameMethod "[I" "java/lang/Object" "clone" "()Ljava/lang/Object;" ∈ q_gw) (hw3 : Cond.native ⟨"java/lang/Object", "clone", "()Ljava/lang/Object;"⟩ ∈ q_gw) (hw4 : Cond.instanceMethod ⟨"java/lang/Object", "clone", "()Ljava/lang/Object;"⟩ ∈ q_gw) (hw5 : Cond.selects "[I" ⟨"[I", "clone", "()Ljava/lang/Object;"⟩ ⟨"java/lang/Object", "clone", "()Ljava/lang/Object;"⟩ ∈ q_gw) (hw6 : Cond.castable "[I" "java/lang/Cloneable" ∈ q_nw) (hw7 : Cond.classLink y.cls ix2 "[I" ∈ q_gw) (hd1 : 1 ≤ d) (h8 : (st.map fun v => v.category).sum ≤ 8) (h : q_cln M k b f = some res) (hcs : ce + 1 ≤ mc ∧ sl + b ≤ ms)
    (kk : ∀ k' M', f k' M' = some res → q_W K nL Q (ce + 1) (sl + b) M' (pc + 6) L (.ref k' :: st)) : q_W K nL Q ce sl M pc L (.ref k :: st) := by
  obtain ⟨p, l, e, R, s, m, args, below, meth, c, G⟩ := K
  obtain ⟨hx, hb, hr, hml, hown, hlo, hnm, hT, hG, hST, hR1, hR2, hR3, hR4⟩ := C
  unfold q_cln at h
  split at h
  · rename_i hh
    obtain ⟨hk, hn, hs⟩ := hh
    have kk := kk _ _ h
    generalize hnn : q_ln M 0 k = n at *
    intro H locs ls hM hS hl0
    have hts := q_hts hT args
    have htop := q_Sim_top hM
    have hcell : H[q_ad G k]? = some (vp_cell (G.2.2.2 0) (n, .inl (M.1 k))) := hM.2.2 k _ hk hs (by simp [q_jk])
    generalize hcA : G.2.2.2 0 = cA at hcell
    have hA : s.vm.findClass "[I" = some cA := by rw [← hcA]; exact va_nm_int (hT.2.2.2 0 _ rfl).2
    have hKA := (hT.2.2.2 0 _ rfl).1
    generalize hcl : vp_cell cA (n, .inl (M.1 k)) = cell at hcell
    have hsz : cell.slots.size = n := by rw [← hcl]; exact arrV_size _ _ _
    have hvm0 : cell.vm = .none := by rw [← hcl]; rfl
    have hcl0 : cell.cls = cA := by rw [← hcl]; rfl
    have hcellE : ({ cls := cell.cls, slots := cell.slots } : Cell) = cell := by rw [← hcl]; rfl
    have h9 := q_st8 (G := G) (m := m) (pc := pc) (ls := ls) (x := .ref (q_ad G k) :: st.map (q_cv G)) h8
    obtain ⟨c0, t0', f1, f2, f3⟩ := Cond.castable_spec (va_Nw.use (A := args) rfl (hT.2.1 _ hw6))
    cases hA.symm.trans f1
    generalize hH1 : H.push cell = H1
    have z1 : H1.size = H.size + 1 := by rw [← hH1, Array.size_push]
    have e1 : H1[H.size]? = some cell := by rw [← hH1, Array.getElem?_push_size]
    have o1 : ∀ q : Nat, q < H.size → H1[q]? = H[q]? := fun q hq => by rw [← hH1, Array.getElem?_push, if_neg (Nat.ne_of_lt hq)]
    have hz := kk H1 locs ls (q_SimC (k := k) hM (by rw [e1, ← hcl, hcA]) z1 o1) (q_S_push hS z1 o1) hl0
    have hz2 : W p l e R s m args below meth c H1 locs (ce + 1) (sl + n) Q (F0 m (pc + 3 + 3) ls (.ref H.size :: st.map (q_cv G))) := by
      rw [← htop]
      exact W.widen (Nat.le_refl _) (by omega) hz
    have hz3 : W p l e R s m args below meth c H1 locs (ce + 1) (sl + n) Q (F0 m (pc + 3) ls (.ref H.size :: st.map (q_cv G))) := by
      intro T hTT X
      obtain ⟨vm', X', st'⟩ := X.checkcastYes hx hown (hts _ hw7) (a := H.size) (by rw [hTT]; exact e1) (by rw [hvm0]; rfl) hA (by rw [hcl0]; exact va_asg _ _) (g := F0 m (pc + 3) ls (.ref H.size :: st.map (q_cv G))) rfl rfl (by rw [hb]; exact hd2)
      obtain ⟨t, a1, b1⟩ := hz2 (T.setVm vm') hTT X'
      exact ⟨t, st' t a1, b1⟩
    intro T hTT X
    have hcellT : T.heap[q_ad G k]? = some cell := by rw [hTT]; exact hcell
    rw [hcA] at hKA
    obtain ⟨-, kA, hkA, comp, hkind⟩ := State.isArrayOf_alike X.warmed.alike (hKA 0 (fun _ => .null))
    obtain ⟨-, kS, hkS, compS, hkindS⟩ := hKA 0 (fun _ => .null)
    obtain ⟨vm', X', st'⟩ := X.cloneArray hx hown (hts _ hw) (hts _ hw2) (hts _ hw3) (hts _ hw4) (hts _ hw5) (a := q_ad G k) (cell := cell) hcellT (fun k h => by rw [hvm0] at h; cases h) (by rw [hvm0]; exact fun h => by cases h) (by rw [hcl0]; exact hA) f2 (by rw [hcl0]; exact f3)
      (fun i v hv => by
        have hk' : T.vm.classes[cA]? = some kA := hkA
        have hfit : fits .int v = true := va_fit (cA := cA) (n := n) (F := fun j => Value.int (M.1 k j)) (fun i _ => rfl) i v (by rw [← hcl, vp_cell_i] at hv; exact hv)
        rw [hcl0]
        simpa [State.fitsSlot, State.slotType?, hk', hkind] using hfit)
      (g := F0 m pc ls (.ref (q_ad G k) :: st.map (q_cv G))) rfl (hl0.1.trans hml.symm) rfl (by rw [hb]; exact hd) (by omega) (by omega) (by omega) (by rw [hsz]; omega) (hloader := by rw [hcl0]; exact Vm.clonesLoader_of_array hkS hkindS)
    rw [hcellE, hsz] at X'
    obtain ⟨t, b1, b2⟩ := hz3 ((T.setVm vm').pushCell cell) (by rw [← hH1, ← hTT]; rfl) X'
    refine ⟨t, st' t ?_, b2⟩
    rw [hcellE, hTT]
    exact b1
  · cases h
end QN
set_option maxRecDepth 100000 in
theorem wd_655 : (Jvm.Cond.methodLink "java/util/Arrays" (316 : Nat) ({ cls := "[I", name := "clone", desc := "()Ljava/lang/Object;" } : Jvm.MethodName)) ∈ q_gw := q_gwm 655 rfl rfl
set_option maxRecDepth 100000 in
theorem wd_656 : (Jvm.Cond.sameMethod "[I" "java/lang/Object" "clone" "()Ljava/lang/Object;") ∈ q_gw := q_gwm 656 rfl rfl
set_option maxRecDepth 100000 in
theorem wd_657 : (Jvm.Cond.native ({ cls := "java/lang/Object", name := "clone", desc := "()Ljava/lang/Object;" } : Jvm.MethodName)) ∈ q_gw := q_gwm 657 rfl rfl
set_option maxRecDepth 100000 in
theorem wd_658 : (Jvm.Cond.instanceMethod ({ cls := "java/lang/Object", name := "clone", desc := "()Ljava/lang/Object;" } : Jvm.MethodName)) ∈ q_gw := q_gwm 658 rfl rfl
set_option maxRecDepth 100000 in
theorem wd_659 : (Jvm.Cond.selects "[I" ({ cls := "[I", name := "clone", desc := "()Ljava/lang/Object;" } : Jvm.MethodName) ({ cls := "java/lang/Object", name := "clone", desc := "()Ljava/lang/Object;" } : Jvm.MethodName)) ∈ q_gw := q_gwm 659 rfl rfl
set_option maxRecDepth 100000 in
theorem wd_661 : (Jvm.Cond.classLink "java/util/Arrays" (317 : Nat) "[I") ∈ q_gw := q_gwm 661 rfl rfl
set_option maxRecDepth 100000 in
theorem wn_660 : (Jvm.Cond.castable "[I" "java/lang/Cloneable") ∈ q_nw := q_nwm 660 rfl rfl
