/-! new cells -/
theorem q_push_o {M : q_Mem} {h : q_Sh} {k : Nat} (hk : k < M.2.2.2.length) : (q_push M h).1 k = M.1 k ∧ (q_push M h).2.1 k = M.2.1 k ∧ (q_push M h).2.2.1 k = M.2.2.1 k := by
  have : k ≠ M.2.2.2.length := by omega
  exact ⟨q_up_ne this, q_up_ne this, q_up_ne this⟩
theorem q_Sim_push {G : q_G} {M : q_Mem} {H H1 : Heap} {h : q_Sh} (hM : q_Sim G M H) (he : va_at G.2.2.1 q_cl (q_ad G M.2.2.2.length, q_ce G (q_push M h) M.2.2.2.length h) H1) (hz : H1.size = H.size + 1) (hq : ∀ q : Nat, q < H.size → H1[q]? = H[q]?) (hn : q_NS ≤ M.2.2.2.length) : q_Sim G (q_push M h) H1 := by
  obtain ⟨a, b, c⟩ := hM
  refine ⟨fun j hj => ?_, ?_, fun j g hj hg hjk => ?_⟩
  · have hlt : j < M.2.2.2.length := by omega
    rw [(q_push_o hlt).1, (q_push_o hlt).2.2]
    refine ⟨?_, (a j hj).2⟩
    show (M.2.2.2 ++ [h])[j]? = _
    rw [List.getElem?_append_left hlt]
    exact (a j hj).1
  · show H1.size = G.1 + ((M.2.2.2 ++ [h]).length - q_NS)
    rw [hz, b, List.length_append]
    simp
    omega
  · have hg : (M.2.2.2 ++ [h])[j]? = some g := hg
    rcases Nat.lt_or_ge j M.2.2.2.length with hlt | hge
    · rw [List.getElem?_append_left hlt] at hg
      rw [q_ce_eq (q_push_o hlt).1 (q_push_o hlt).2.1 (q_push_o hlt).2.2]
      refine (c j g hj hg hjk).kept (hq _ ?_)
      show q_ad G j < H.size
      rw [q_ad_dyn hj, b]
      omega
    · have hlt := (List.getElem?_eq_some_iff.mp hg).1
      rw [List.length_append] at hlt
      have e : j = M.2.2.2.length := by simp at hlt; omega
      subst e
      rw [List.getElem?_append_right (Nat.le_refl _), Nat.sub_self] at hg
      cases hg
      exact he
theorem q_Sim_len {G : q_G} {M : q_Mem} {H : Heap} (hM : q_Sim G M H) : q_NS ≤ M.2.2.2.length := by
  have h1 := (hM.1 35 (by decide)).1
  have := (List.getElem?_eq_some_iff.mp h1).1
  show 36 ≤ _
  omega
theorem q_Sim_top {G : q_G} {M : q_Mem} {H : Heap} (hM : q_Sim G M H) : q_ad G M.2.2.2.length = H.size := by
  rw [q_ad_dyn (q_Sim_len hM), hM.2.1]
theorem q_S_push {G : q_G} {H0 H H1 : Heap} {locs : List Loc} (hS : va_S (q_A G) H0 H locs) (hz : H1.size = H.size + 1) (hq : ∀ q : Nat, q < H.size → H1[q]? = H[q]?) : va_S (q_A G) H0 H1 locs :=
  ⟨by rw [hz]; exact Nat.le_trans hS.1 (Nat.le_succ _), fun q h1 h2 => (hq q (Nat.lt_of_lt_of_le h1 hS.1)).trans (hS.2.1 q h1 h2), hS.2.2⟩
section QN
variable {K : q_K} {y : MethodName} {cc : ByteArray} {nL : Nat} {rt : Option FieldType} {d mc ms : Nat} {Q : State → Prop} {ce sl : Nat} {M : q_Mem} {pc : Nat} {L : List (Option Value)} {st : List Value}
/-- new: t the array type, by its place -/
theorem q_newa {β : Type} {res : β} {n : Int32} {t b : Nat} {atype : ArrayType} {f : Nat → q_Mem → Option β} (C : q_C K y cc nL rt d mc ms) (hd : decode cc pc = .ok (.newarray atype, 2)) (ht : (t = 0 ∧ atype = .int) ∨ (t = 1 ∧ atype = .byte) ∨ (t = 2 ∧ atype = .long)) (hw : Cond.arrayClass (newarray.typeOf atype) ∈ q_gw) (hb0 : b ≤ 10000) (h : q_nA M t n b f = some res) (hcs : ce + 1 ≤ mc ∧ sl + b ≤ ms)
    (kk : f M.2.2.2.length (q_push M (.inr (t, n.toNatClampNeg))) = some res → q_W K nL Q (ce + 1) (sl + b) (q_push M (.inr (t, n.toNatClampNeg))) (pc + 2) L (.ref M.2.2.2.length :: st)) : q_W K nL Q ce sl M pc L (.int n :: st) := by
  obtain ⟨p, l, e, R, s, m, args, below, meth, c, G⟩ := K
  obtain ⟨hx, hb, hr, hml, hown, hlo, hnm, hT, hG, hST, hR1, hR2, hR3, hR4⟩ := C
  unfold q_nA at h
  split at h
  · cases h
  · rename_i hn
    intro H locs ls hM hS hl0
    have hn0 : ¬ n < 0 := fun q => hn (Or.inl q)
    have hn1 : n.toNatClampNeg ≤ b := Nat.not_lt.mp fun q => hn (Or.inr q)
    have htop := q_Sim_top hM
    refine va_newaK hx hb (q_hts hT args _ hw) rfl hd rfl hn0 rfl ?_ (by omega) (by omega) rfl fun H1 cA e1 z1 o1 hAr hNm => ?_
    · rcases ht with ⟨-, e1⟩ | ⟨-, e1⟩ | ⟨-, e1⟩ <;> subst e1
      · show n.toNatClampNeg * 4 ≤ 536870912
        omega
      · show n.toNatClampNeg * 1 ≤ 536870912
        omega
      · show n.toNatClampNeg * 8 ≤ 536870912
        omega
    · have hz := kk h H1 locs ls (q_Sim_push hM ?_ z1 o1 (q_Sim_len hM)) (q_S_push hS z1 o1) hl0
      · show W p l e R s m args below meth c H1 locs (ce + 1) (sl + n.toNatClampNeg) Q (F0 m (pc + 2) ls (.ref H.size :: st.map (q_cv G)))
        rw [← htop]
        exact W.widen (Nat.le_refl _) (by omega) hz
      · rw [htop]
        rcases ht with ⟨e2, e3⟩ | ⟨e2, e3⟩ | ⟨e2, e3⟩ <;> subst e2 <;> subst e3
        · have hA : cA = G.2.2.2 0 := Option.some.inj (hNm.symm.trans (hT.2.2.2 0 _ rfl).2)
          show H1[H.size]? = some (vp_cell (G.2.2.2 0) (n.toNatClampNeg, .inl ((q_push M (.inr (0, n.toNatClampNeg))).1 M.2.2.2.length)))
          rw [e1, hA, vp_cell_i]
          show some (arrV (G.2.2.2 0) n.toNatClampNeg fun _ => Value.int 0) = some (arrV (G.2.2.2 0) n.toNatClampNeg fun j => Value.int (va_up M.1 M.2.2.2.length (fun _ => 0) M.2.2.2.length j))
          rw [q_up_eq]
        · have hA : cA = G.2.2.2 1 := Option.some.inj (hNm.symm.trans (hT.2.2.2 1 _ rfl).2)
          show H1[H.size]? = some (vp_cell (G.2.2.2 1) (n.toNatClampNeg, .inl ((q_push M (.inr (1, n.toNatClampNeg))).1 M.2.2.2.length)))
          rw [e1, hA, vp_cell_i]
          show some (arrV (G.2.2.2 1) n.toNatClampNeg fun _ => Value.int 0) = some (arrV (G.2.2.2 1) n.toNatClampNeg fun j => Value.int (va_up M.1 M.2.2.2.length (fun _ => 0) M.2.2.2.length j))
          rw [q_up_eq]
        · have hA : cA = G.2.2.2 2 := Option.some.inj (hNm.symm.trans (hT.2.2.2 2 _ rfl).2)
          show H1[H.size]? = some (vp_cell (G.2.2.2 2) (n.toNatClampNeg, .inr (.inl ((q_push M (.inr (2, n.toNatClampNeg))).2.1 M.2.2.2.length))))
          rw [e1, hA, vp_cell_l]
          show some (arrV (G.2.2.2 2) n.toNatClampNeg fun _ => Value.long 0) = some (arrV (G.2.2.2 2) n.toNatClampNeg fun j => Value.long (va_up M.2.1 M.2.2.2.length (fun _ => 0) M.2.2.2.length j))
          rw [q_up_eq]
theorem q_new {β : Type} {res : β} {ci N idx : Nat} {Cn : String} {T : u_T} {f : Nat → q_Mem → Option β} (C : q_C K y cc nL rt d mc ms) (hd : decode cc pc = .ok (.new idx, 3)) (hc : q_cl[ci]? = some (Cn, T, N)) (hcl : q_clok ci) (hw : Cond.classLink y.cls idx Cn ∈ q_gw) (hw2 : Cond.instantiable Cn N ∈ q_gw) (hw3 : Cond.initialized Cn ∈ q_gw) (hdf : ∀ j, j < N → q_ty ci j = .int ∨ q_ty ci j = .boolean ∨ q_ty ci j = .long ∨ (∃ n, q_ty ci j = .object n) ∨ ∃ t, q_ty ci j = .array t) (h : q_nO M ci f = some res) (hcs : ce + 1 ≤ mc ∧ sl + N ≤ ms)
    (kk : f M.2.2.2.length (q_push M (.inl ci)) = some res → q_W K nL Q (ce + 1) (sl + N) (q_push M (.inl ci)) (pc + 3) L (.ref M.2.2.2.length :: st)) : q_W K nL Q ce sl M pc L st := by
  obtain ⟨p, l, e, R, s, m, args, below, meth, c, G⟩ := K
  obtain ⟨hx, hb, hr, hml, hown, hlo, hnm, hT, hG, hST, hR1, hR2, hR3, hR4⟩ := C
  have h : f M.2.2.2.length (q_push M (.inl ci)) = some res := h
  intro H locs ls hM hS hl0
  obtain ⟨g1, g2, g3⟩ := hcl _ hc
  have htop := q_Sim_top hM
  have hts := q_hts hT args
  have hKn := hT.2.2.1 ci _ hc
  refine W.newcK hx hb hown (hts _ hw) (hts _ hw2) (hts _ hw3) rfl hd (by omega) (by omega) hKn.2.1 rfl fun H1 kC hkC e1 z1 o1 => ?_
  have hz := kk h H1 locs ls (q_Sim_push hM ?_ z1 o1 (q_Sim_len hM)) (q_S_push hS z1 o1) hl0
  · show W p l e R s m args below meth c H1 locs (ce + 1) (sl + N) Q (F0 m (pc + 3) ls (.ref H.size :: st.map (q_cv G)))
    rw [← htop]
    exact hz
  · rw [htop]
    refine ⟨_, hc, (u_born (q_ty ci) hts g1 hKn hkC e1 g2).to (fun j hj => ?_)⟩
    have hj' : j < q_nf ci := by rw [q_nf_of hc]; exact hj
    unfold vp_V
    rw [List.getD_eq_getElem?_getD, q_fs_get hj']
    show _ = q_fv G (q_push M (.inl ci)) M.2.2.2.length ci j
    unfold q_fv q_push
    simp only [q_up_eq]
    rcases hdf j hj with e2 | e2 | e2 | ⟨n, e2⟩ | ⟨t, e2⟩ <;> rw [e2] <;> rfl
theorem q_objI {k idx : Nat} (C : q_C K y cc nL rt d mc ms) (hd : decode cc pc = .ok (.invokespecial idx, 3)) (hw : Cond.methodLink y.cls idx Lib.objectInit ∈ q_gw) (hw2 : Cond.instanceMethod Lib.objectInit ∈ q_gw) (hw3 : Cond.code Lib.objectInit ⟨#[0xb1]⟩ 1 none ∈ q_gw) (hd1 : 1 ≤ d) (h8 : (st.map fun v => v.category).sum ≤ 8) (kk : q_W K nL Q ce sl M (pc + 3) L st) : q_W K nL Q ce sl M pc L (.ref k :: st) := by
  obtain ⟨p, l, e, R, s, m, args, below, meth, c, G⟩ := K
  obtain ⟨hx, hb, hr, hml, hown, hlo, hnm, hT, hG, hST, hR1, hR2, hR3, hR4⟩ := C
  intro H locs ls hM hS hl0
  have hts := q_hts hT args
  have h9 := q_st8 (G := G) (m := m) (pc := pc) (ls := ls) (x := (.ref k :: st).map (q_cv G)) h8
  exact W.objInit hx hb hown (hts _ hw) (hts _ hw2) (hts _ hw3) rfl (hl0.1.trans hml.symm) (a := q_ad G k) (rest := st.map (q_cv G)) rfl hd (by omega) (by omega) (kk H locs ls hM hS hl0)
theorem q_ldc {idx : Nat} {v : Int32} (C : q_C K y cc nL rt d mc ms) (hd : decode cc pc = .ok (.ldc idx, 2)) (hw : Cond.constant y.cls idx v ∈ q_gw) (kk : q_W K nL Q ce sl M (pc + 2) L (.int v :: st)) : q_W K nL Q ce sl M pc L st := by
  obtain ⟨p, l, e, R, s, m, args, below, meth, c, G⟩ := K
  obtain ⟨hx, hb, hr, hml, hown, hlo, hnm, hT, hG, hST, -⟩ := C
  intro H locs ls hM hS hl0
  exact lv_ldc hx hb hown (q_hts hT args _ hw) hd (kk H locs ls hM hS hl0)
theorem q_ldcw {idx : Nat} {v : Int32} (C : q_C K y cc nL rt d mc ms) (hd : decode cc pc = .ok (.ldc_w idx, 3)) (hw : Cond.constant y.cls idx v ∈ q_gw) (kk : q_W K nL Q ce sl M (pc + 3) L (.int v :: st)) : q_W K nL Q ce sl M pc L st := by
  obtain ⟨p, l, e, R, s, m, args, below, meth, c, G⟩ := K
  obtain ⟨hx, hb, hr, hml, hown, hlo, hnm, hT, hG, hST, -⟩ := C
  intro H locs ls hM hS hl0
  exact lv_ldcw hx hb hown (q_hts hT args _ hw) hd (kk H locs ls hM hS hl0)
theorem q_ldc2 {idx : Nat} {v : Int64} (C : q_C K y cc nL rt d mc ms) (hd : decode cc pc = .ok (.ldc2_w idx, 3)) (hw : Cond.constantLong y.cls idx v ∈ q_gw) (kk : q_W K nL Q ce sl M (pc + 3) L (.long v :: st)) : q_W K nL Q ce sl M pc L st := by
  obtain ⟨p, l, e, R, s, m, args, below, meth, c, G⟩ := K
  obtain ⟨hx, hb, hr, hml, hown, hlo, hnm, hT, hG, hST, -⟩ := C
  intro H locs ls hM hS hl0
  exact lv_ldc2 hx hb hown (q_hts hT args _ hw) hd (kk H locs ls hM hS hl0)
/-- a text constant, the i-th -/
theorem q_ldcS {idx i : Nat} {tx : String} (C : q_C K y cc nL rt d mc ms) (hd : decode cc pc = .ok (.ldc idx, 2)) (hi : q_ks[i]? = some (y.cls, idx, tx)) (kk : q_W K nL Q ce sl M (pc + 2) L (.ref (4 + 2 * i) :: st)) : q_W K nL Q ce sl M pc L st := by
  obtain ⟨p, l, e, R, s, m, args, below, meth, c, G⟩ := K
  obtain ⟨hx, hb, hr, hml, hown, hlo, hnm, hT, hG, hST, -⟩ := C
  intro H locs ls hM hS hl0
  have hi15 : i < 15 := (List.getElem?_eq_some_iff.mp hi).1
  have hv : q_ad G (4 + 2 * i) = G.2.1 (4 + 2 * i) := by
    unfold q_ad
    rw [if_pos (by show _ < 36; omega)]
  refine va_ldcS hx hb hown (hST.2.2.2.1 i _ hi) hd ?_
  have := kk H locs ls hM hS hl0
  rw [← hv]
  exact this
/-- a static that is read: a row of numbers by its place, or a number -/
theorem q_gets {idx : Nat} {Cn n ds : String} {v w : Value} (C : q_C K y cc nL rt d mc ms) (hd : decode cc pc = .ok (.getstatic idx, 3)) (hw : Cond.fieldLink y.cls idx Cn n ds ∈ q_gw) (hz : (Cn, n, ds, v) ∈ q_zs (q_kG K)) (hv : q_cv (q_kG K) w = v) (kk : q_W K nL Q ce sl M (pc + 3) L (w :: st)) : q_W K nL Q ce sl M pc L st := by
  obtain ⟨p, l, e, R, s, m, args, below, meth, c, G⟩ := K
  obtain ⟨hx, hb, hr, hml, hown, hlo, hnm, hT, hG, hST, -⟩ := C
  intro H locs ls hM hS hl0
  refine va_gets hx hb (hST.2.2.1 _ hz) hS hown (q_hts hT args _ hw) (fun x h => h) hd ?_
  have := kk H locs ls hM hS hl0
  rw [← hv]
  exact this
end QN
