/-! the law's own guest: it calls, and catches -/
set_option maxRecDepth 100000 in
theorem yw_1120 : (Jvm.Cond.classLink "GongHouseLaw" (13 : Nat) "java/util/NoSuchElementException") ∈ q_gw := q_gwm 1120 rfl rfl
theorem q_hxE : ∃ x : ExceptionTableEntry, tableOf [(0, 10, 13, 13)] = [x] ∧ covers x 5 = true ∧ x.catchType = 13 ∧ x.handlerPc = 13 := ⟨_, rfl, by decide, rfl, rfl⟩
theorem q_astoreX {K : q_K} {y : MethodName} {cc : ByteArray} {nL : Nat} {rt : Option FieldType} {d mc ms : Nat} {Q : State → Prop} {ce sl : Nat} {M : q_Mem} {pc i : Nat} {L : List (Option Value)} (C : q_C K y cc nL rt d mc ms) (hd : decode cc pc = .ok (.astore i, 2)) (hi : i < nL) (k : q_W K nL Q ce sl M (pc + 2) (List.replicate nL none) []) : q_WX K nL Q ce sl M pc L := by
  obtain ⟨p, l, e, R, s, m, args, below, meth, c, G⟩ := K
  obtain ⟨hx, hb, -⟩ := C
  intro H locs ls q hM hS hl
  refine lv_astore hx hb hd (q_as_has hl) hi rfl (fun ls' h' => k H locs ls' hM hS ⟨h'.1, h'.2.1, fun j v hj => ?_⟩)
  rw [List.getElem?_replicate] at hj
  split at hj <;> cases hj
noncomputable def F_L_guest (l0 : Nat) (l1 l2 : Int32) (l3 : Nat) (M : q_Mem) : Option (Int32 × q_Mem) := q_ob M l0 11 (match F_X11_guest l0 l1 l2 M with
  | some z => q_tL z.2 l3 0 z.1.toInt64 (fun M2 => some ((0 : Int32), M2))
  | none => (T_X11_guest l0 l1 l2 M).bind (fun _ => some ((1 : Int32), q_push M q_jk)))
def q_MetH (l : Launch) (G : q_G) (av : List Value) (M : q_Mem) (r : Int32) (M' : q_Mem) : Prop :=
  vx_Met l yL_guest [.codeWith yL_guest cL_guest 5 (some .int) [(0, 10, 13, 13)]] (q_rm 7 1 6) (fun v U => q_Pc G av M v U ∧ q_TX G U) (q_Qc G (some (.int r)) M') (fun _ _ _ => False) 1 6 (q_A G)
theorem q_enterH {l : Launch} {G : q_G} {av : List Value} {M M' : q_Mem} {r : Int32} (L0 : List (Option Value)) (hst : l.stackTraces = false) (hav : (lg_sl av).length ≤ 5) (hL0 : q_ent av 5 = L0)
    (body : ∀ (K : q_K) (x : ExceptionTableEntry), q_C K yL_guest cL_guest 5 (some .int) 7 1 6 → K.2.1.stackTraces = false → q_KT K → q_KE K x → covers x 5 = true → x.catchType = 13 → x.handlerPc = 13 → q_W K 5 (q_Q K (some (.int r)) M' 1 6) 0 0 M 0 L0 []) : q_MetH l G av M r M' := by
  refine vx_ofWH (cc := cL_guest) (maxL := 5) (ret := some .int) (hh := [(0, 10, 13, 13)]) (by decide) rfl ?_
  intro p e s m args below meth c s₁ B hml hv
  obtain ⟨⟨rfl, hM, hT, hST⟩, hTX⟩ := hv
  have hG : G.1 ≤ s.heap.size := by rw [hM.2.1]; omega
  have hlen : (lg_sl (av.map (q_cv G))).length ≤ 5 := by rw [q_sl_len]; exact hav
  have hl := lv_entry (av.map (q_cv G)) (n := 5) hlen
  have htab := vx_table (x := yL_guest) B (atoms_spec (ws := [.codeWith yL_guest cL_guest 5 (some .int) [(0, 10, 13, 13)]]) B.pre _ List.mem_cons_self)
  obtain ⟨x, x1, x2, x3, x4⟩ := q_hxE
  rw [lg_entry_eq]
  refine vx_ret (body (p, l, e, q_rm 7 1 6, s, m, (av.map (q_cv G)).toArray, below, meth, c, G) x ⟨B.exec, B.bytes, B.returns, hml, findClass_of_methodNamed B.named, B.notSynchronized, (name_of_methodNamed B.named B.method).1, hT, hG, hST, Nat.le_refl _, Nat.le_refl _, Nat.le_refl _, Nat.le_refl _⟩ hst hTX (htab.trans x1) x2 x3 x4 s.heap [] _ hM va_S.rf ⟨hl.1, hl.2.1, fun j v hj => hl.2.2 (j, q_cv G v) ?_⟩)
  rw [← hL0] at hj
  have := q_ent_mem G av 5 0 j v hj
  rw [Nat.zero_add] at this
  exact this
set_option maxRecDepth 100000 in
set_option maxHeartbeats 4000000 in
theorem c_L_guest (l : Launch) (G : q_G) (hst : l.stackTraces = false) (l0 : Nat) (l1 l2 : Int32) (l3 : Nat) (M : q_Mem) {r : Int32} {M' : q_Mem} (h : F_L_guest l0 l1 l2 l3 M = some (r, M')) : q_MetH l G [.ref l0, .int l1, .int l2, .ref l3] M r M' := by
  unfold F_L_guest at h
  obtain ⟨hk, h⟩ := q_obE h
  refine q_enterH [some (.ref l0), some (.int l1), some (.int l2), some (.ref l3), none] hst (Nat.le_of_ble_eq_true rfl) rfl (fun K x C hst KT KE x2 x3 x4 => ?_)
  refine q_aload_n C dL_guest_0 rfl ?_
  refine x_iconst (v := (0 : Int32)) C dL_guest_1 (by decide) ?_
  refine q_aload_n C dL_guest_2 rfl ?_
  refine q_iload_n C dL_guest_3 rfl ?_
  refine q_iload_n C dL_guest_4 rfl ?_
  cases e1 : F_X11_guest l0 l1 l2 M with
  | some z =>
    obtain ⟨v, M1⟩ := z
    rw [e1] at h
    have h : q_tL M1 l3 0 v.toInt64 (fun M2 => some ((0 : Int32), M2)) = some (r, M') := h
    refine x_callV0 C dL_guest_5 lkM_L_7 mV_X11_guest ⟨_, rfl, rfl⟩ hk (c_X11_guest _ _ _ _ _ _ e1) rfl rfl (Nat.le_of_ble_eq_true rfl) (by decide) (by decide) ?_
    refine q_i2l C dL_guest_8 ?_
    refine x_last C dL_guest_9 h (fun M2 h => ?_)
    refine q_goto (tgt := 17) C dL_guest_10 (by decide) ?_
    refine x_iconst (v := (0 : Int32)) C dL_guest_17 (by decide) ?_
    exact q_iret C dL_guest_18 rfl (by decide) (by decide) (Option.some.inj h)
  | none =>
    rw [e1] at h
    have h : (T_X11_guest l0 l1 l2 M).bind (fun _ => some ((1 : Int32), q_push M q_jk)) = some (r, M') := h
    obtain ⟨u, e2, h⟩ := q_bind h
    refine q_callX (av := [.int l1, .int l2]) (x := x) C dL_guest_5 wd_1121 mV_X11_guest ⟨_, rfl, rfl⟩ hk (cx_X11_guest _ _ hst _ _ _ _ e2) KT KE x2 (by rw [x3]; decide) (by rw [x3]; exact yw_1120) rfl rfl (Nat.le_of_ble_eq_true rfl) (by decide) (by decide) ?_
    rw [x4]
    refine q_astoreX C dL_guest_13 (by decide) ?_
    refine x_iconst (v := (1 : Int32)) C dL_guest_15 (by decide) ?_
    exact q_iret C dL_guest_16 rfl (by decide) (by decide) (Option.some.inj h)
