noncomputable def F_X3_copyFrom (l0 : Nat) (l1 : Nat) (M : q_Mem) : Option (Unit × q_Mem) := (q_gR M l1 3 0 (fun c1 => q_nn c1 (fun r2 => (q_gR M l0 3 0 (fun c3 => q_nn c3 (fun r4 => (q_gR M l0 3 0 (fun c5 => q_nn c5 (fun r6 => (q_al M r6 (fun v7 => (q_cp M r2 (0 : Int32) r4 (0 : Int32) v7 (fun M8 => (q_gR M8 l1 3 1 (fun c9 => q_nn c9 (fun r10 => (q_gR M8 l0 3 1 (fun c11 => q_nn c11 (fun r12 => (q_gR M8 l0 3 1 (fun c13 => q_nn c13 (fun r14 => (q_al M8 r14 (fun v15 => (q_cp M8 r10 (0 : Int32) r12 (0 : Int32) v15 (fun M16 => (q_gR M16 l1 3 2 (fun c17 => q_nn c17 (fun r18 => (q_gR M16 l0 3 2 (fun c19 => q_nn c19 (fun r20 => (q_gR M16 l0 3 2 (fun c21 => q_nn c21 (fun r22 => (q_al M16 r22 (fun v23 => (q_cp M16 r18 (0 : Int32) r20 (0 : Int32) v23 (fun M24 => (q_gI M24 l1 3 4 (fun v25 => (q_pI M24 l0 3 4 v25 (fun M26 => (q_gI M26 l1 3 5 (fun v27 => (q_pI M26 l0 3 5 v27 (fun M28 => (q_gI M28 l1 3 6 (fun v29 => (q_pZ M28 l0 3 6 v29 (fun M30 => (q_ob M30 l0 3 ((F_X3_orderByComing l0 M30).bind (fun x => match x with | (_, M32) => some ((), M32)))))))))))))))))))))))))))))))))))))))))))))))))))))))
set_option maxRecDepth 100000 in
set_option maxHeartbeats 4000000 in
theorem c_X3_copyFrom (l : Launch) (G : q_G) (l0 : Nat) (l1 : Nat) (M : q_Mem) {r : Unit} {M' : q_Mem} (h : F_X3_copyFrom l0 l1 M = some (r, M')) : q_Met l G yX3_copyFrom cX3_copyFrom 2 (Option.none : Option Jvm.ClassFile.FieldType) 3 0 0 [.ref l0, .ref l1] M none M' := by
  unfold F_X3_copyFrom at h
  refine q_enter [some (.ref l0), some (.ref l1)] (by decide) (Nat.le_of_ble_eq_true rfl) rfl (fun K C => ?_)
  refine q_aload_n C dX3_copyFrom_0 rfl ?_
  refine x_getR (ci := 3) (j := 0) C dX3_copyFrom_1 lkF_X3_9 rfl h (fun c1 h => ?_)
  refine x_nn h (fun r2 h => ?_)
  refine x_iconst (v := (0 : Int32)) C dX3_copyFrom_4 (by decide) ?_
  refine q_aload_n C dX3_copyFrom_5 rfl ?_
  refine x_getR (ci := 3) (j := 0) C dX3_copyFrom_6 lkF_X3_9 rfl h (fun c3 h => ?_)
  refine x_nn h (fun r4 h => ?_)
  refine x_iconst (v := (0 : Int32)) C dX3_copyFrom_9 (by decide) ?_
  refine q_aload_n C dX3_copyFrom_10 rfl ?_
  refine x_getR (ci := 3) (j := 0) C dX3_copyFrom_11 lkF_X3_9 rfl h (fun c5 h => ?_)
  refine x_nn h (fun r6 h => ?_)
  refine x_alen C dX3_copyFrom_14 h (fun v7 h => ?_)
  refine x_copy C dX3_copyFrom_15 wd_624 wd_626 wd_625 wd_19 (by decide) (Nat.le_of_ble_eq_true rfl) h (fun M8 h => ?_)
  refine q_aload_n C dX3_copyFrom_18 rfl ?_
  refine x_getR (ci := 3) (j := 1) C dX3_copyFrom_19 lkF_X3_15 rfl h (fun c9 h => ?_)
  refine x_nn h (fun r10 h => ?_)
  refine x_iconst (v := (0 : Int32)) C dX3_copyFrom_22 (by decide) ?_
  refine q_aload_n C dX3_copyFrom_23 rfl ?_
  refine x_getR (ci := 3) (j := 1) C dX3_copyFrom_24 lkF_X3_15 rfl h (fun c11 h => ?_)
  refine x_nn h (fun r12 h => ?_)
  refine x_iconst (v := (0 : Int32)) C dX3_copyFrom_27 (by decide) ?_
  refine q_aload_n C dX3_copyFrom_28 rfl ?_
  refine x_getR (ci := 3) (j := 1) C dX3_copyFrom_29 lkF_X3_15 rfl h (fun c13 h => ?_)
  refine x_nn h (fun r14 h => ?_)
  refine x_alen C dX3_copyFrom_32 h (fun v15 h => ?_)
  refine x_copy C dX3_copyFrom_33 wd_624 wd_626 wd_625 wd_19 (by decide) (Nat.le_of_ble_eq_true rfl) h (fun M16 h => ?_)
  refine q_aload_n C dX3_copyFrom_36 rfl ?_
  refine x_getR (ci := 3) (j := 2) C dX3_copyFrom_37 lkF_X3_18 rfl h (fun c17 h => ?_)
  refine x_nn h (fun r18 h => ?_)
  refine x_iconst (v := (0 : Int32)) C dX3_copyFrom_40 (by decide) ?_
  refine q_aload_n C dX3_copyFrom_41 rfl ?_
  refine x_getR (ci := 3) (j := 2) C dX3_copyFrom_42 lkF_X3_18 rfl h (fun c19 h => ?_)
  refine x_nn h (fun r20 h => ?_)
  refine x_iconst (v := (0 : Int32)) C dX3_copyFrom_45 (by decide) ?_
  refine q_aload_n C dX3_copyFrom_46 rfl ?_
  refine x_getR (ci := 3) (j := 2) C dX3_copyFrom_47 lkF_X3_18 rfl h (fun c21 h => ?_)
  refine x_nn h (fun r22 h => ?_)
  refine x_alen C dX3_copyFrom_50 h (fun v23 h => ?_)
  refine x_copy C dX3_copyFrom_51 wd_624 wd_626 wd_625 wd_19 (by decide) (Nat.le_of_ble_eq_true rfl) h (fun M24 h => ?_)
  refine q_aload_n C dX3_copyFrom_54 rfl ?_
  refine q_aload_n C dX3_copyFrom_55 rfl ?_
  refine x_getI (ci := 3) (j := 4) C dX3_copyFrom_56 lkF_X3_24 rfl h (fun v25 h => ?_)
  refine x_putI (ci := 3) (j := 4) C dX3_copyFrom_59 lkF_X3_24 (fun r hr => by cases hr; rfl) rfl h (fun M26 h => ?_)
  refine q_aload_n C dX3_copyFrom_62 rfl ?_
  refine q_aload_n C dX3_copyFrom_63 rfl ?_
  refine x_getI (ci := 3) (j := 5) C dX3_copyFrom_64 lkF_X3_28 rfl h (fun v27 h => ?_)
  refine x_putI (ci := 3) (j := 5) C dX3_copyFrom_67 lkF_X3_28 (fun r hr => by cases hr; rfl) rfl h (fun M28 h => ?_)
  refine q_aload_n C dX3_copyFrom_70 rfl ?_
  refine q_aload_n C dX3_copyFrom_71 rfl ?_
  refine x_getI (ci := 3) (j := 6) C dX3_copyFrom_72 lkF_X3_31 rfl h (fun v29 h => ?_)
  refine x_putZ (ci := 3) (j := 6) C dX3_copyFrom_75 lkF_X3_31 (fun r hr => by cases hr; rfl) rfl h (fun M30 h => ?_)
  refine q_aload_n C dX3_copyFrom_78 rfl ?_
  obtain ⟨hk, h⟩ := q_obE h
  obtain ⟨⟨_, M32⟩, e1, h⟩ := q_bind h
  refine x_callVv0 C dX3_copyFrom_79 lkM_X3_41 mV_X3_orderByComing ⟨_, rfl, rfl⟩ hk (c_X3_orderByComing _ _ _ _ e1) rfl rfl (Nat.le_of_ble_eq_true rfl) (by decide) (by decide) ?_
  exact q_vret C dX3_copyFrom_82 rfl (by decide) (by decide) (Option.some.inj h)
noncomputable def B_X3_setUsual_3 (l0 : Nat) (l1 : Nat) (l2 : Int32) (l3 : Int32) (l4 : Int32) (M : q_Mem) : Option ((Int32 × q_Mem) ⊕ (q_Mem)) := (if l4 < l3 then (q_al M l1 (fun v1 => (if (l2 + l4) < v1 then (q_lI M 0 l0 (((3 : Int32) * l4) + (2 : Int32)) (fun v2 => (q_tI M l1 (l2 + l4) v2 (fun M3 => some (.inl ((l4 + (1 : Int32)), M3)))))) else some (.inr M)))) else some (.inr M))
set_option maxRecDepth 100000 in
set_option maxHeartbeats 4000000 in
theorem bW_X3_setUsual_3 {K : q_K} {Q : State → Prop} (C : q_C K yX3_setUsual cX3_setUsual 5 (Option.none : Option Jvm.ClassFile.FieldType) 1 0 0) (l0 : Nat) (l1 : Nat) (l2 : Int32) (l3 : Int32) (l4 : Int32) (M : q_Mem) {stp : (Int32 × q_Mem) ⊕ (q_Mem)} (h : B_X3_setUsual_3 l0 l1 l2 l3 l4 M = some stp) (kC : ∀ (l4 : Int32) (M : q_Mem), stp = .inl (l4, M) → q_W K 5 Q 0 0 M 3 [some (.ref l0), some (.ref l1), some (.int l2), some (.int l3), some (.int l4)] []) (kE0 : ∀ (M : q_Mem), stp = .inr M → q_W K 5 Q 0 0 M 38 [none, none, none, none, none] []) : q_W K 5 Q 0 0 M 3 [some (.ref l0), some (.ref l1), some (.int l2), some (.int l3), some (.int l4)] [] := by
  unfold B_X3_setUsual_3 at h
  refine q_iload C dX3_setUsual_3 rfl ?_
  refine q_iload_n C dX3_setUsual_5 rfl ?_
  refine q_icmp_ge (tgt := 38) C dX3_setUsual_6 (by decide) h (fun _ h => ?_) (fun _ h => ?_)
  · refine q_iload_n C dX3_setUsual_9 rfl ?_
    refine q_iload C dX3_setUsual_10 rfl ?_
    refine q_iadd C dX3_setUsual_12 ?_
    refine q_aload_n C dX3_setUsual_13 rfl ?_
    refine x_alen C dX3_setUsual_14 h (fun v1 h => ?_)
    refine q_icmp_ge (tgt := 38) C dX3_setUsual_15 (by decide) h (fun _ h => ?_) (fun _ h => ?_)
    · refine q_aload_n C dX3_setUsual_18 rfl ?_
      refine q_iload_n C dX3_setUsual_19 rfl ?_
      refine q_iload C dX3_setUsual_20 rfl ?_
      refine q_iadd C dX3_setUsual_22 ?_
      refine q_aload_n C dX3_setUsual_23 rfl ?_
      refine x_iconst (v := (3 : Int32)) C dX3_setUsual_24 (by decide) ?_
      refine q_iload C dX3_setUsual_25 rfl ?_
      refine q_imul C dX3_setUsual_27 ?_
      refine x_iconst (v := (2 : Int32)) C dX3_setUsual_28 (by decide) ?_
      refine q_iadd C dX3_setUsual_29 ?_
      refine x_iald C dX3_setUsual_30 h (fun v2 h => ?_)
      refine x_iast C dX3_setUsual_31 h (fun M3 h => ?_)
      refine x_iinc (w := (1 : Int32)) (L' := [some (.ref l0), some (.ref l1), some (.int l2), some (.int l3), some (.int (l4 + (1 : Int32)))]) C dX3_setUsual_32 rfl (by decide) (by decide) rfl rfl ?_
      refine q_goto (tgt := 3) C dX3_setUsual_35 (by decide) ?_
      exact q_msk [true, true, true, true, true] (kC _ _ (Option.some.inj h).symm)
    · exact q_msk [false, false, false, false, false] (kE0 _ (Option.some.inj h).symm)
  · exact q_msk [false, false, false, false, false] (kE0 _ (Option.some.inj h).symm)
set_option maxRecDepth 100000 in
set_option maxHeartbeats 4000000 in
theorem lW_X3_setUsual_3 {K : q_K} {Q : State → Prop} (C : q_C K yX3_setUsual cX3_setUsual 5 (Option.none : Option Jvm.ClassFile.FieldType) 1 0 0) (l0 : Nat) (l1 : Nat) (l2 : Int32) (l3 : Int32) (n : Nat) : ∀ (l4 : Int32) (M : q_Mem) (e : (q_Mem)), q_lp (fun s => B_X3_setUsual_3 l0 l1 l2 l3 s.1 s.2) n (l4, M) = some e → (∀ (M : q_Mem), e = M → q_W K 5 Q 0 0 M 38 [none, none, none, none, none] []) → q_W K 5 Q 0 0 M 3 [some (.ref l0), some (.ref l1), some (.int l2), some (.int l3), some (.int l4)] [] := by
  induction n with
  | zero => intro l4 M e h; cases h
  | succ n ih =>
    intro l4 M e h kE0
    obtain ⟨stp, e1, e2⟩ := q_bind h
    refine bW_X3_setUsual_3 C l0 l1 l2 l3 l4 M e1 (fun a0 a1 hs => ?_) (fun b0 hs => ?_)
    · subst hs; exact ih _ _ _ e2 kE0
    · subst hs; exact kE0 _ (Option.some.inj e2).symm
noncomputable def F_X3_setUsual (l0 : Nat) (l1 : Nat) (l2 : Int32) (l3 : Int32) (M : q_Mem) : Option (Unit × q_Mem) := (q_lp (fun s => B_X3_setUsual_3 l0 l1 l2 l3 s.1 s.2) q_fu ((0 : Int32), M)).bind (fun e4 => match e4 with | M5 => some ((), M5))
set_option maxRecDepth 100000 in
set_option maxHeartbeats 4000000 in
theorem c_X3_setUsual (l : Launch) (G : q_G) (l0 : Nat) (l1 : Nat) (l2 : Int32) (l3 : Int32) (M : q_Mem) {r : Unit} {M' : q_Mem} (h : F_X3_setUsual l0 l1 l2 l3 M = some (r, M')) : q_Met l G yX3_setUsual cX3_setUsual 5 (Option.none : Option Jvm.ClassFile.FieldType) 1 0 0 [.ref l0, .ref l1, .int l2, .int l3] M none M' := by
  unfold F_X3_setUsual at h
  refine q_enter [some (.ref l0), some (.ref l1), some (.int l2), some (.int l3), none] (by decide) (Nat.le_of_ble_eq_true rfl) rfl (fun K C => ?_)
  refine x_iconst (v := (0 : Int32)) C dX3_setUsual_0 (by decide) ?_
  refine q_istore (L' := [some (.ref l0), some (.ref l1), some (.int l2), some (.int l3), some (.int (0 : Int32))]) C dX3_setUsual_1 (by decide) rfl rfl ?_
  obtain ⟨e4, he, h⟩ := q_bind h
  refine q_msk [true, true, true, true, true] (lW_X3_setUsual_3 C l0 l1 l2 l3 q_fu _ _ _ he (fun M5 hs => ?_))
  · have hs := hs.symm
    subst hs
    exact q_vret C dX3_setUsual_38 rfl (by decide) (by decide) (Option.some.inj h)
noncomputable def B_X9_peek_5 (l0 : Nat) (l1 : Int32) (M : q_Mem) : Option ((Int32 × q_Mem) ⊕ (q_Mem)) := (q_gI M l0 9 1 (fun v2 => (if l1 < v2 then (q_gR M l0 9 0 (fun c3 => q_nn c3 (fun r4 => (q_lI M 1 r4 l1 (fun v5 => (if v5 = (32 : Int32) then (q_gI M l0 9 2 (fun v6 => (q_pI M l0 9 2 (v6 + (1 : Int32)) (fun M7 => some (.inl ((l1 + (1 : Int32)), M7)))))) else some (.inr M))))))) else some (.inr M))))
set_option maxRecDepth 100000 in
set_option maxHeartbeats 4000000 in
theorem bW_X9_peek_5 {K : q_K} {Q : State → Prop} (C : q_C K yX9_peek cX9_peek 2 (Option.some Jvm.ClassFile.FieldType.int) 1 0 0) (l0 : Nat) (l1 : Int32) (M : q_Mem) {stp : (Int32 × q_Mem) ⊕ (q_Mem)} (h : B_X9_peek_5 l0 l1 M = some stp) (kC : ∀ (l1 : Int32) (M : q_Mem), stp = .inl (l1, M) → q_W K 2 Q 0 0 M 5 [some (.ref l0), some (.int l1)] []) (kE0 : ∀ (M : q_Mem), stp = .inr M → q_W K 2 Q 0 0 M 40 [some (.ref l0), none] []) : q_W K 2 Q 0 0 M 5 [some (.ref l0), some (.int l1)] [] := by
  unfold B_X9_peek_5 at h
  refine q_iload_n C dX9_peek_5 rfl ?_
  refine q_aload_n C dX9_peek_6 rfl ?_
  refine x_getI (ci := 9) (j := 1) C dX9_peek_7 lkF_X9_15 rfl h (fun v2 h => ?_)
  refine q_icmp_ge (tgt := 40) C dX9_peek_10 (by decide) h (fun _ h => ?_) (fun _ h => ?_)
  · refine q_aload_n C dX9_peek_13 rfl ?_
    refine x_getR (ci := 9) (j := 0) C dX9_peek_14 lkF_X9_9 rfl h (fun c3 h => ?_)
    refine x_nn h (fun r4 h => ?_)
    refine q_iload_n C dX9_peek_17 rfl ?_
    refine x_bald C dX9_peek_18 h (fun v5 h => ?_)
    refine x_bipush (v := (32 : Int32)) C dX9_peek_19 (by decide) ?_
    refine q_icmp_ne (tgt := 40) C dX9_peek_21 (by decide) h (fun _ h => ?_) (fun _ h => ?_)
    · refine q_aload_n C dX9_peek_24 rfl ?_
      refine q_dup C dX9_peek_25 rfl ?_
      refine x_getI (ci := 9) (j := 2) C dX9_peek_26 lkF_X9_19 rfl h (fun v6 h => ?_)
      refine x_iconst (v := (1 : Int32)) C dX9_peek_29 (by decide) ?_
      refine q_iadd C dX9_peek_30 ?_
      refine x_putI (ci := 9) (j := 2) C dX9_peek_31 lkF_X9_19 (fun r hr => by cases hr; rfl) rfl h (fun M7 h => ?_)
      refine x_iinc (w := (1 : Int32)) (L' := [some (.ref l0), some (.int (l1 + (1 : Int32)))]) C dX9_peek_34 rfl (by decide) (by decide) rfl rfl ?_
      refine q_goto (tgt := 5) C dX9_peek_37 (by decide) ?_
      exact q_msk [true, true] (kC _ _ (Option.some.inj h).symm)
    · exact q_msk [true, false] (kE0 _ (Option.some.inj h).symm)
  · exact q_msk [true, false] (kE0 _ (Option.some.inj h).symm)
set_option maxRecDepth 100000 in
set_option maxHeartbeats 4000000 in
theorem lW_X9_peek_5 {K : q_K} {Q : State → Prop} (C : q_C K yX9_peek cX9_peek 2 (Option.some Jvm.ClassFile.FieldType.int) 1 0 0) (l0 : Nat) (n : Nat) : ∀ (l1 : Int32) (M : q_Mem) (e : (q_Mem)), q_lp (fun s => B_X9_peek_5 l0 s.1 s.2) n (l1, M) = some e → (∀ (M : q_Mem), e = M → q_W K 2 Q 0 0 M 40 [some (.ref l0), none] []) → q_W K 2 Q 0 0 M 5 [some (.ref l0), some (.int l1)] [] := by
  induction n with
  | zero => intro l1 M e h; cases h
  | succ n ih =>
    intro l1 M e h kE0
    obtain ⟨stp, e1, e2⟩ := q_bind h
    refine bW_X9_peek_5 C l0 l1 M e1 (fun a0 a1 hs => ?_) (fun b0 hs => ?_)
    · subst hs; exact ih _ _ _ e2 kE0
    · subst hs; exact kE0 _ (Option.some.inj e2).symm
noncomputable def F_X9_peek (l0 : Nat) (M : q_Mem) : Option (Int32 × q_Mem) := (q_gI M l0 9 2 (fun v1 => (q_lp (fun s => B_X9_peek_5 l0 s.1 s.2) q_fu (v1, M)).bind (fun e8 => match e8 with | M9 => (q_gI M9 l0 9 2 (fun v10 => (q_gI M9 l0 9 1 (fun v11 => (if v10 < v11 then (q_gR M9 l0 9 0 (fun c12 => q_nn c12 (fun r13 => (q_gI M9 l0 9 2 (fun v14 => (q_lI M9 1 r13 v14 (fun v15 => some ((v15 &&& (255 : Int32)), M9)))))))) else some ((-1 : Int32), M9)))))))))
set_option maxRecDepth 100000 in
set_option maxHeartbeats 4000000 in
theorem c_X9_peek (l : Launch) (G : q_G) (l0 : Nat) (M : q_Mem) {r : Int32} {M' : q_Mem} (h : F_X9_peek l0 M = some (r, M')) : q_Met l G yX9_peek cX9_peek 2 (Option.some Jvm.ClassFile.FieldType.int) 1 0 0 [.ref l0] M (some (.int r)) M' := by
  unfold F_X9_peek at h
  refine q_enter [some (.ref l0), none] (by decide) (Nat.le_of_ble_eq_true rfl) rfl (fun K C => ?_)
  refine q_aload_n C dX9_peek_0 rfl ?_
  refine x_getI (ci := 9) (j := 2) C dX9_peek_1 lkF_X9_19 rfl h (fun v1 h => ?_)
  refine q_istore_n (L' := [some (.ref l0), some (.int v1)]) C dX9_peek_4 (by decide) rfl rfl ?_
  obtain ⟨e8, he, h⟩ := q_bind h
  refine q_msk [true, true] (lW_X9_peek_5 C l0 q_fu _ _ _ he (fun M9 hs => ?_))
  · have hs := hs.symm
    subst hs
    refine q_aload_n C dX9_peek_40 rfl ?_
    refine x_getI (ci := 9) (j := 2) C dX9_peek_41 lkF_X9_19 rfl h (fun v10 h => ?_)
    refine q_aload_n C dX9_peek_44 rfl ?_
    refine x_getI (ci := 9) (j := 1) C dX9_peek_45 lkF_X9_15 rfl h (fun v11 h => ?_)
    refine q_icmp_ge (tgt := 67) C dX9_peek_48 (by decide) h (fun _ h => ?_) (fun _ h => ?_)
    · refine q_aload_n C dX9_peek_51 rfl ?_
      refine x_getR (ci := 9) (j := 0) C dX9_peek_52 lkF_X9_9 rfl h (fun c12 h => ?_)
      refine x_nn h (fun r13 h => ?_)
      refine q_aload_n C dX9_peek_55 rfl ?_
      refine x_getI (ci := 9) (j := 2) C dX9_peek_56 lkF_X9_19 rfl h (fun v14 h => ?_)
      refine x_bald C dX9_peek_59 h (fun v15 h => ?_)
      refine x_sipush (v := (255 : Int32)) C dX9_peek_60 (by decide) ?_
      refine q_iand C dX9_peek_63 ?_
      refine q_goto (tgt := 68) C dX9_peek_64 (by decide) ?_
      exact q_iret C dX9_peek_68 rfl (by decide) (by decide) (Option.some.inj h)
    · refine x_iconst (v := (-1 : Int32)) C dX9_peek_67 (by decide) ?_
      exact q_iret C dX9_peek_68 rfl (by decide) (by decide) (Option.some.inj h)
noncomputable def F_X9_take (l0 : Nat) (l1 : Int32) (M : q_Mem) : Option (Int32 × q_Mem) := (q_ob M l0 9 ((F_X9_peek l0 M).bind (fun x => match x with | (u1, M2) => (if u1 = l1 then (q_gI M2 l0 9 2 (fun v3 => (q_pI M2 l0 9 2 (v3 + (1 : Int32)) (fun M4 => q_rz (1 : Int32) M4)))) else q_rz (0 : Int32) M2))))
set_option maxRecDepth 100000 in
set_option maxHeartbeats 4000000 in
theorem c_X9_take (l : Launch) (G : q_G) (l0 : Nat) (l1 : Int32) (M : q_Mem) {r : Int32} {M' : q_Mem} (h : F_X9_take l0 l1 M = some (r, M')) : q_Met l G yX9_take cX9_take 2 (Option.some Jvm.ClassFile.FieldType.boolean) 2 0 0 [.ref l0, .int l1] M (some (.int r)) M' := by
  unfold F_X9_take at h
  refine q_enter [some (.ref l0), some (.int l1)] (by decide) (Nat.le_of_ble_eq_true rfl) rfl (fun K C => ?_)
  refine q_aload_n C dX9_take_0 rfl ?_
  obtain ⟨hk, h⟩ := q_obE h
  obtain ⟨⟨u1, M2⟩, e1, h⟩ := q_bind h
  refine x_callV0 C dX9_take_1 lkM_X9_25 mV_X9_peek ⟨_, rfl, rfl⟩ hk (c_X9_peek _ _ _ _ e1) rfl rfl (Nat.le_of_ble_eq_true rfl) (by decide) (by decide) ?_
  refine q_iload_n C dX9_take_4 rfl ?_
  refine q_icmp_eq (tgt := 10) C dX9_take_5 (by decide) h (fun _ h => ?_) (fun _ h => ?_)
  · refine q_aload_n C dX9_take_10 rfl ?_
    refine q_dup C dX9_take_11 rfl ?_
    refine x_getI (ci := 9) (j := 2) C dX9_take_12 lkF_X9_19 rfl h (fun v3 h => ?_)
    refine x_iconst (v := (1 : Int32)) C dX9_take_15 (by decide) ?_
    refine q_iadd C dX9_take_16 ?_
    refine x_putI (ci := 9) (j := 2) C dX9_take_17 lkF_X9_19 (fun r hr => by cases hr; rfl) rfl h (fun M4 h => ?_)
    refine x_iconst (v := (1 : Int32)) C dX9_take_20 (by decide) ?_
    exact q_zret C dX9_take_21 rfl (by decide) (by decide) (q_rzE h).1 (q_rzE h).2
  · refine x_iconst (v := (0 : Int32)) C dX9_take_8 (by decide) ?_
    exact q_zret C dX9_take_9 rfl (by decide) (by decide) (q_rzE h).1 (q_rzE h).2
noncomputable def F_J0_coder_7d493 (l0 : Nat) (M : q_Mem) : Option (Int32) := (if (1 : Int32) = 0 then q_rt .byte (1 : Int32) else (q_gI M l0 14 1 (fun v1 => q_rt .byte v1)))
set_option maxRecDepth 100000 in
set_option maxHeartbeats 4000000 in
theorem c_J0_coder_7d493 (l : Launch) (G : q_G) (l0 : Nat) (M : q_Mem) {r : Int32} (h : F_J0_coder_7d493 l0 M = some r) : q_Met l G yJ0_coder_7d493 cJ0_coder_7d493 1 (Option.some Jvm.ClassFile.FieldType.byte) 1 0 0 [.ref l0] M (some (.int r)) M := by
  unfold F_J0_coder_7d493 at h
  refine q_enter [some (.ref l0)] (by decide) (Nat.le_of_ble_eq_true rfl) rfl (fun K C => ?_)
  refine q_gets (w := .int (1 : Int32)) C dJ0_coder_7d493_0 wd_444 (by simp [q_zs, q_cv, q_ad, q_NS]) rfl ?_
  refine q_if_eq (tgt := 13) C dJ0_coder_7d493_3 (by decide) h (fun _ h => ?_) (fun _ h => ?_)
  · refine x_iconst (v := (1 : Int32)) C dJ0_coder_7d493_13 (by decide) ?_
    exact q_nret (r := (r, M)) C dJ0_coder_7d493_14 rfl (by decide) (by decide) (q_rtE h).1 (congrArg (fun z => (z, M)) (q_rtE h).2)
  · refine q_aload_n C dJ0_coder_7d493_6 rfl ?_
    refine x_getSI C dJ0_coder_7d493_7 wd_1860 h (fun v1 h => ?_)
    refine q_goto (tgt := 14) C dJ0_coder_7d493_10 (by decide) ?_
    exact q_nret (r := (r, M)) C dJ0_coder_7d493_14 rfl (by decide) (by decide) (q_rtE h).1 (congrArg (fun z => (z, M)) (q_rtE h).2)
noncomputable def F_J0_length_8abf5 (l0 : Nat) (M : q_Mem) : Option (Int32) := (q_gR M l0 14 0 (fun c1 => q_nn c1 (fun r2 => (q_al M r2 (fun v3 => (q_ob M l0 14 ((F_J0_coder_7d493 l0 M).bind (fun u4 => some (v3 >>> (u4 &&& 31))))))))))
set_option maxRecDepth 100000 in
set_option maxHeartbeats 4000000 in
theorem c_J0_length_8abf5 (l : Launch) (G : q_G) (l0 : Nat) (M : q_Mem) {r : Int32} (h : F_J0_length_8abf5 l0 M = some r) : q_Met l G yJ0_length_8abf5 cJ0_length_8abf5 1 (Option.some Jvm.ClassFile.FieldType.int) 2 0 0 [.ref l0] M (some (.int r)) M := by
  unfold F_J0_length_8abf5 at h
  refine q_enter [some (.ref l0)] (by decide) (Nat.le_of_ble_eq_true rfl) rfl (fun K C => ?_)
  refine q_aload_n C dJ0_length_8abf5_0 rfl ?_
  refine x_getSV C dJ0_length_8abf5_1 wd_1859 h (fun c1 h => ?_)
  refine x_nn h (fun r2 h => ?_)
  refine x_alen C dJ0_length_8abf5_4 h (fun v3 h => ?_)
  refine q_aload_n C dJ0_length_8abf5_5 rfl ?_
  obtain ⟨hk, h⟩ := q_obE h
  obtain ⟨u4, e1, h⟩ := q_bind h
  refine x_callT C dJ0_length_8abf5_6 wd_440 mV_J0_coder_7d493 rfl hk (c_J0_coder_7d493 _ _ _ _ e1) rfl rfl (Nat.le_of_ble_eq_true rfl) (by decide) (by decide) ?_
  refine q_ishr C dJ0_length_8abf5_9 ?_
  exact q_iret (res := (r, M)) C dJ0_length_8abf5_10 rfl (by decide) (by decide) (congrArg (fun z => (z, M)) (Option.some.inj h))
noncomputable def F_J0_isLatin1_aae02 (l0 : Nat) (M : q_Mem) : Option (Int32) := (if (1 : Int32) = 0 then q_rq (0 : Int32) else (q_gI M l0 14 1 (fun v1 => (if v1 = 0 then q_rq (1 : Int32) else q_rq (0 : Int32)))))
set_option maxRecDepth 100000 in
set_option maxHeartbeats 4000000 in
theorem c_J0_isLatin1_aae02 (l : Launch) (G : q_G) (l0 : Nat) (M : q_Mem) {r : Int32} (h : F_J0_isLatin1_aae02 l0 M = some r) : q_Met l G yJ0_isLatin1_aae02 cJ0_isLatin1_aae02 1 (Option.some Jvm.ClassFile.FieldType.boolean) 1 0 0 [.ref l0] M (some (.int r)) M := by
  unfold F_J0_isLatin1_aae02 at h
  refine q_enter [some (.ref l0)] (by decide) (Nat.le_of_ble_eq_true rfl) rfl (fun K C => ?_)
  refine q_gets (w := .int (1 : Int32)) C dJ0_isLatin1_aae02_0 wd_444 (by simp [q_zs, q_cv, q_ad, q_NS]) rfl ?_
  refine q_if_eq (tgt := 17) C dJ0_isLatin1_aae02_3 (by decide) h (fun _ h => ?_) (fun _ h => ?_)
  · refine x_iconst (v := (0 : Int32)) C dJ0_isLatin1_aae02_17 (by decide) ?_
    exact q_zret (res := (r, M)) C dJ0_isLatin1_aae02_18 rfl (by decide) (by decide) (q_rqE h).1 (congrArg (fun z => (z, M)) (q_rqE h).2)
  · refine q_aload_n C dJ0_isLatin1_aae02_6 rfl ?_
    refine x_getSI C dJ0_isLatin1_aae02_7 wd_1860 h (fun v1 h => ?_)
    refine q_if_ne (tgt := 17) C dJ0_isLatin1_aae02_10 (by decide) h (fun _ h => ?_) (fun _ h => ?_)
    · refine x_iconst (v := (1 : Int32)) C dJ0_isLatin1_aae02_13 (by decide) ?_
      refine q_goto (tgt := 18) C dJ0_isLatin1_aae02_14 (by decide) ?_
      exact q_zret (res := (r, M)) C dJ0_isLatin1_aae02_18 rfl (by decide) (by decide) (q_rqE h).1 (congrArg (fun z => (z, M)) (q_rqE h).2)
    · refine x_iconst (v := (0 : Int32)) C dJ0_isLatin1_aae02_17 (by decide) ?_
      exact q_zret (res := (r, M)) C dJ0_isLatin1_aae02_18 rfl (by decide) (by decide) (q_rqE h).1 (congrArg (fun z => (z, M)) (q_rqE h).2)
noncomputable def F_J1_canEncode_9a6ad (l0 : Int32) (M : q_Mem) : Option (Int32) := (if l0 < 0 then q_rq (0 : Int32) else (if (255 : Int32) < l0 then q_rq (0 : Int32) else q_rq (1 : Int32)))
set_option maxRecDepth 100000 in
set_option maxHeartbeats 4000000 in
theorem c_J1_canEncode_9a6ad (l : Launch) (G : q_G) (l0 : Int32) (M : q_Mem) {r : Int32} (h : F_J1_canEncode_9a6ad l0 M = some r) : q_Met l G yJ1_canEncode_9a6ad cJ1_canEncode_9a6ad 1 (Option.some Jvm.ClassFile.FieldType.boolean) 1 0 0 [.int l0] M (some (.int r)) M := by
  unfold F_J1_canEncode_9a6ad at h
  refine q_enter [some (.int l0)] (by decide) (Nat.le_of_ble_eq_true rfl) rfl (fun K C => ?_)
  refine q_iload_n C dJ1_canEncode_9a6ad_0 rfl ?_
  refine q_if_lt (tgt := 15) C dJ1_canEncode_9a6ad_1 (by decide) h (fun _ h => ?_) (fun _ h => ?_)
  · refine x_iconst (v := (0 : Int32)) C dJ1_canEncode_9a6ad_15 (by decide) ?_
    exact q_zret (res := (r, M)) C dJ1_canEncode_9a6ad_16 rfl (by decide) (by decide) (q_rqE h).1 (congrArg (fun z => (z, M)) (q_rqE h).2)
  · refine q_iload_n C dJ1_canEncode_9a6ad_4 rfl ?_
    refine x_sipush (v := (255 : Int32)) C dJ1_canEncode_9a6ad_5 (by decide) ?_
    refine q_icmp_gt (tgt := 15) C dJ1_canEncode_9a6ad_8 (by decide) h (fun _ h => ?_) (fun _ h => ?_)
    · refine x_iconst (v := (0 : Int32)) C dJ1_canEncode_9a6ad_15 (by decide) ?_
      exact q_zret (res := (r, M)) C dJ1_canEncode_9a6ad_16 rfl (by decide) (by decide) (q_rqE h).1 (congrArg (fun z => (z, M)) (q_rqE h).2)
    · refine x_iconst (v := (1 : Int32)) C dJ1_canEncode_9a6ad_11 (by decide) ?_
      refine q_goto (tgt := 16) C dJ1_canEncode_9a6ad_12 (by decide) ?_
      exact q_zret (res := (r, M)) C dJ1_canEncode_9a6ad_16 rfl (by decide) (by decide) (q_rqE h).1 (congrArg (fun z => (z, M)) (q_rqE h).2)
noncomputable def B_J1_indexOfChar_4cfef_7 (l0 : Nat) (l3 : Int32) (l4 : Int32) (l5 : Int32) (M : q_Mem) : Option ((Int32) ⊕ ((Int32) ⊕ (Unit))) := (if l5 < l3 then (q_lI M 1 l0 l5 (fun v1 => (if v1 = l4 then some (.inr (.inl l5)) else some (.inl (l5 + (1 : Int32)))))) else some (.inr (.inr ())))
set_option maxRecDepth 100000 in
set_option maxHeartbeats 4000000 in
theorem bW_J1_indexOfChar_4cfef_7 {K : q_K} {Q : State → Prop} (C : q_C K yJ1_indexOfChar_4cfef cJ1_indexOfChar_4cfef 6 (Option.some Jvm.ClassFile.FieldType.int) 1 0 0) (l0 : Nat) (l3 : Int32) (l4 : Int32) (l5 : Int32) (M : q_Mem) {stp : (Int32) ⊕ ((Int32) ⊕ (Unit))} (h : B_J1_indexOfChar_4cfef_7 l0 l3 l4 l5 M = some stp) (kC : ∀ (l5 : Int32), stp = .inl l5 → q_W K 6 Q 0 0 M 7 [some (.ref l0), none, none, some (.int l3), some (.int l4), some (.int l5)] []) (kE0 : ∀ (l5 : Int32), stp = .inr (.inl l5) → q_W K 6 Q 0 0 M 22 [none, none, none, none, none, some (.int l5)] []) (kE1 : stp = .inr (.inr ()) → q_W K 6 Q 0 0 M 31 [none, none, none, none, none, none] []) : q_W K 6 Q 0 0 M 7 [some (.ref l0), none, none, some (.int l3), some (.int l4), some (.int l5)] [] := by
  unfold B_J1_indexOfChar_4cfef_7 at h
  refine q_iload C dJ1_indexOfChar_4cfef_7 rfl ?_
  refine q_iload_n C dJ1_indexOfChar_4cfef_9 rfl ?_
  refine q_icmp_ge (tgt := 31) C dJ1_indexOfChar_4cfef_10 (by decide) h (fun _ h => ?_) (fun _ h => ?_)
  · refine q_aload_n C dJ1_indexOfChar_4cfef_13 rfl ?_
    refine q_iload C dJ1_indexOfChar_4cfef_14 rfl ?_
    refine x_bald C dJ1_indexOfChar_4cfef_16 h (fun v1 h => ?_)
    refine q_iload C dJ1_indexOfChar_4cfef_17 rfl ?_
    refine q_icmp_ne (tgt := 25) C dJ1_indexOfChar_4cfef_19 (by decide) h (fun _ h => ?_) (fun _ h => ?_)
    · exact q_msk [false, false, false, false, false, true] (kE0 _ (Option.some.inj h).symm)
    · refine x_iinc (w := (1 : Int32)) (L' := [some (.ref l0), none, none, some (.int l3), some (.int l4), some (.int (l5 + (1 : Int32)))]) C dJ1_indexOfChar_4cfef_25 rfl (by decide) (by decide) rfl rfl ?_
      refine q_goto (tgt := 7) C dJ1_indexOfChar_4cfef_28 (by decide) ?_
      exact q_msk [true, false, false, true, true, true] (kC _ (Option.some.inj h).symm)
  · exact q_msk [false, false, false, false, false, false] (kE1 (Option.some.inj h).symm)
set_option maxRecDepth 100000 in
set_option maxHeartbeats 4000000 in
theorem lW_J1_indexOfChar_4cfef_7 {K : q_K} {Q : State → Prop} (C : q_C K yJ1_indexOfChar_4cfef cJ1_indexOfChar_4cfef 6 (Option.some Jvm.ClassFile.FieldType.int) 1 0 0) (l0 : Nat) (l3 : Int32) (l4 : Int32) (M : q_Mem) (n : Nat) : ∀ (l5 : Int32) (e : ((Int32) ⊕ (Unit))), q_lp (fun s => B_J1_indexOfChar_4cfef_7 l0 l3 l4 s M) n l5 = some e → (∀ (l5 : Int32), e = (.inl l5) → q_W K 6 Q 0 0 M 22 [none, none, none, none, none, some (.int l5)] []) → (e = (.inr ()) → q_W K 6 Q 0 0 M 31 [none, none, none, none, none, none] []) → q_W K 6 Q 0 0 M 7 [some (.ref l0), none, none, some (.int l3), some (.int l4), some (.int l5)] [] := by
  induction n with
  | zero => intro l5 e h; cases h
  | succ n ih =>
    intro l5 e h kE0 kE1
    obtain ⟨stp, e1, e2⟩ := q_bind h
    refine bW_J1_indexOfChar_4cfef_7 C l0 l3 l4 l5 M e1 (fun a0 hs => ?_) (fun b0 hs => ?_) (fun hs => ?_)
    · subst hs; exact ih _ _ e2 kE0 kE1
    · subst hs; exact kE0 _ (Option.some.inj e2).symm
    · subst hs; exact kE1 (Option.some.inj e2).symm
noncomputable def F_J1_indexOfChar_4cfef (l0 : Nat) (l1 : Int32) (l2 : Int32) (l3 : Int32) (M : q_Mem) : Option (Int32) := (q_lp (fun s => B_J1_indexOfChar_4cfef_7 l0 l3 l1.toInt8.toInt32 s M) q_fu l2).bind (fun e2 => match e2 with | .inl w3 => some w3 | .inr () => some (-1 : Int32))
set_option maxRecDepth 100000 in
set_option maxHeartbeats 4000000 in
theorem c_J1_indexOfChar_4cfef (l : Launch) (G : q_G) (l0 : Nat) (l1 : Int32) (l2 : Int32) (l3 : Int32) (M : q_Mem) {r : Int32} (h : F_J1_indexOfChar_4cfef l0 l1 l2 l3 M = some r) : q_Met l G yJ1_indexOfChar_4cfef cJ1_indexOfChar_4cfef 6 (Option.some Jvm.ClassFile.FieldType.int) 1 0 0 [.ref l0, .int l1, .int l2, .int l3] M (some (.int r)) M := by
  unfold F_J1_indexOfChar_4cfef at h
  refine q_enter [some (.ref l0), some (.int l1), some (.int l2), some (.int l3), none, none] (by decide) (Nat.le_of_ble_eq_true rfl) rfl (fun K C => ?_)
  refine q_iload_n C dJ1_indexOfChar_4cfef_0 rfl ?_
  refine q_i2b C dJ1_indexOfChar_4cfef_1 ?_
  refine q_istore (L' := [some (.ref l0), some (.int l1), some (.int l2), some (.int l3), some (.int l1.toInt8.toInt32), none]) C dJ1_indexOfChar_4cfef_2 (by decide) rfl rfl ?_
  refine q_iload_n C dJ1_indexOfChar_4cfef_4 rfl ?_
  refine q_istore (L' := [some (.ref l0), some (.int l1), some (.int l2), some (.int l3), some (.int l1.toInt8.toInt32), some (.int l2)]) C dJ1_indexOfChar_4cfef_5 (by decide) rfl rfl ?_
  obtain ⟨e2, he, h⟩ := q_bind h
  refine q_msk [true, false, false, true, true, true] (lW_J1_indexOfChar_4cfef_7 C l0 l3 l1.toInt8.toInt32 M q_fu _ _ he (fun w3 hs => ?_) (fun hs => ?_))
  · have hs := hs.symm
    subst hs
    refine q_iload C dJ1_indexOfChar_4cfef_22 rfl ?_
    exact q_iret (res := (r, M)) C dJ1_indexOfChar_4cfef_24 rfl (by decide) (by decide) (congrArg (fun z => (z, M)) (Option.some.inj h))
  · have hs := hs.symm
    subst hs
    refine x_iconst (v := (-1 : Int32)) C dJ1_indexOfChar_4cfef_31 (by decide) ?_
    exact q_iret (res := (r, M)) C dJ1_indexOfChar_4cfef_32 rfl (by decide) (by decide) (congrArg (fun z => (z, M)) (Option.some.inj h))
noncomputable def F_J1_indexOf_4cfef (l0 : Nat) (l1 : Int32) (l2 : Int32) (l3 : Int32) (M : q_Mem) : Option (Int32) := ((F_J1_canEncode_9a6ad l1 M).bind (fun u1 => (if u1 = 0 then some (-1 : Int32) else (q_al M l0 (fun v2 => (if (q_mx l2 (0 : Int32)) < (q_mn l3 v2) then ((F_J1_indexOfChar_4cfef l0 l1 (q_mx l2 (0 : Int32)) (q_mn l3 v2) M).bind (fun u3 => some u3)) else some (-1 : Int32)))))))
set_option maxRecDepth 100000 in
set_option maxHeartbeats 4000000 in
theorem c_J1_indexOf_4cfef (l : Launch) (G : q_G) (l0 : Nat) (l1 : Int32) (l2 : Int32) (l3 : Int32) (M : q_Mem) {r : Int32} (h : F_J1_indexOf_4cfef l0 l1 l2 l3 M = some r) : q_Met l G yJ1_indexOf_4cfef cJ1_indexOf_4cfef 4 (Option.some Jvm.ClassFile.FieldType.int) 2 0 0 [.ref l0, .int l1, .int l2, .int l3] M (some (.int r)) M := by
  unfold F_J1_indexOf_4cfef at h
  refine q_enter [some (.ref l0), some (.int l1), some (.int l2), some (.int l3)] (by decide) (Nat.le_of_ble_eq_true rfl) rfl (fun K C => ?_)
  refine q_iload_n C dJ1_indexOf_4cfef_0 rfl ?_
  obtain ⟨u1, e1, h⟩ := q_bind h
  refine x_callS0 C dJ1_indexOf_4cfef_1 lkM_J1_88 mS_J1_canEncode_9a6ad (c_J1_canEncode_9a6ad _ _ _ _ e1) rfl rfl (Nat.le_of_ble_eq_true rfl) (by decide) (by decide) ?_
  refine q_if_ne (tgt := 9) C dJ1_indexOf_4cfef_4 (by decide) h (fun _ h => ?_) (fun _ h => ?_)
  · refine x_iconst (v := (-1 : Int32)) C dJ1_indexOf_4cfef_7 (by decide) ?_
    exact q_iret (res := (r, M)) C dJ1_indexOf_4cfef_8 rfl (by decide) (by decide) (congrArg (fun z => (z, M)) (Option.some.inj h))
  · refine q_iload_n C dJ1_indexOf_4cfef_9 rfl ?_
    refine x_iconst (v := (0 : Int32)) C dJ1_indexOf_4cfef_10 (by decide) ?_
    refine q_max C dJ1_indexOf_4cfef_11 wd_469 wd_470 wd_15 wd_471 (by decide) (Nat.le_of_ble_eq_true rfl) (by decide) ?_
    refine q_istore_n (L' := [some (.ref l0), some (.int l1), some (.int (q_mx l2 (0 : Int32))), some (.int l3)]) C dJ1_indexOf_4cfef_14 (by decide) rfl rfl ?_
    refine q_iload_n C dJ1_indexOf_4cfef_15 rfl ?_
    refine q_aload_n C dJ1_indexOf_4cfef_16 rfl ?_
    refine x_alen C dJ1_indexOf_4cfef_17 h (fun v2 h => ?_)
    refine q_min C dJ1_indexOf_4cfef_18 wd_472 wd_473 wd_15 wd_474 (by decide) (Nat.le_of_ble_eq_true rfl) (by decide) ?_
    refine q_istore_n (L' := [some (.ref l0), some (.int l1), some (.int (q_mx l2 (0 : Int32))), some (.int (q_mn l3 v2))]) C dJ1_indexOf_4cfef_21 (by decide) rfl rfl ?_
    refine q_iload_n C dJ1_indexOf_4cfef_22 rfl ?_
    refine q_iload_n C dJ1_indexOf_4cfef_23 rfl ?_
    refine q_icmp_lt (tgt := 29) C dJ1_indexOf_4cfef_24 (by decide) h (fun _ h => ?_) (fun _ h => ?_)
    · refine q_aload_n C dJ1_indexOf_4cfef_29 rfl ?_
      refine q_iload_n C dJ1_indexOf_4cfef_30 rfl ?_
      refine q_iload_n C dJ1_indexOf_4cfef_31 rfl ?_
      refine q_iload_n C dJ1_indexOf_4cfef_32 rfl ?_
      obtain ⟨u3, e1, h⟩ := q_bind h
      refine x_callS0 C dJ1_indexOf_4cfef_33 lkM_J1_95 mS_J1_indexOfChar_4cfef (c_J1_indexOfChar_4cfef _ _ _ _ _ _ _ e1) rfl rfl (Nat.le_of_ble_eq_true rfl) (by decide) (by decide) ?_
      exact q_iret (res := (r, M)) C dJ1_indexOf_4cfef_36 rfl (by decide) (by decide) (congrArg (fun z => (z, M)) (Option.some.inj h))
    · refine x_iconst (v := (-1 : Int32)) C dJ1_indexOf_4cfef_27 (by decide) ?_
      exact q_iret (res := (r, M)) C dJ1_indexOf_4cfef_28 rfl (by decide) (by decide) (congrArg (fun z => (z, M)) (Option.some.inj h))
noncomputable def F_J0_indexOf_7cf53 (l0 : Nat) (l1 : Int32) (l2 : Int32) (M : q_Mem) : Option (Int32) := (q_ob M l0 14 ((F_J0_isLatin1_aae02 l0 M).bind (fun u1 => (if u1 = 0 then (q_gR M l0 14 0 (fun c2 => q_nn c2 (fun r3 => (q_ob M l0 14 ((F_J0_length_8abf5 l0 M).bind (fun u4 => none)))))) else (q_gR M l0 14 0 (fun c5 => q_nn c5 (fun r6 => (q_ob M l0 14 ((F_J0_length_8abf5 l0 M).bind (fun u7 => ((F_J1_indexOf_4cfef r6 l1 l2 u7 M).bind (fun u8 => some u8))))))))))))
set_option maxRecDepth 100000 in
set_option maxHeartbeats 4000000 in
theorem c_J0_indexOf_7cf53 (l : Launch) (G : q_G) (l0 : Nat) (l1 : Int32) (l2 : Int32) (M : q_Mem) {r : Int32} (h : F_J0_indexOf_7cf53 l0 l1 l2 M = some r) : q_Met l G yJ0_indexOf_7cf53 cJ0_indexOf_7cf53 3 (Option.some Jvm.ClassFile.FieldType.int) 7 3 0 [.ref l0, .int l1, .int l2] M (some (.int r)) M := by
  unfold F_J0_indexOf_7cf53 at h
  refine q_enter [some (.ref l0), some (.int l1), some (.int l2)] (by decide) (Nat.le_of_ble_eq_true rfl) rfl (fun K C => ?_)
  refine q_aload_n C dJ0_indexOf_7cf53_0 rfl ?_
  obtain ⟨hk, h⟩ := q_obE h
  obtain ⟨u1, e1, h⟩ := q_bind h
  refine x_callT C dJ0_indexOf_7cf53_1 wd_458 mV_J0_isLatin1_aae02 rfl hk (c_J0_isLatin1_aae02 _ _ _ _ e1) rfl rfl (Nat.le_of_ble_eq_true rfl) (by decide) (by decide) ?_
  refine q_if_eq (tgt := 23) C dJ0_indexOf_7cf53_4 (by decide) h (fun _ h => ?_) (fun _ h => ?_)
  · refine q_aload_n C dJ0_indexOf_7cf53_23 rfl ?_
    refine x_getSV C dJ0_indexOf_7cf53_24 wd_1859 h (fun c2 h => ?_)
    refine x_nn h (fun r3 h => ?_)
    refine q_iload_n C dJ0_indexOf_7cf53_27 rfl ?_
    refine q_iload_n C dJ0_indexOf_7cf53_28 rfl ?_
    refine q_aload_n C dJ0_indexOf_7cf53_29 rfl ?_
    obtain ⟨hk, h⟩ := q_obE h
    obtain ⟨u4, e1, h⟩ := q_bind h
    refine x_callT C dJ0_indexOf_7cf53_30 wd_462 mV_J0_length_8abf5 rfl hk (c_J0_length_8abf5 _ _ _ _ e1) rfl rfl (Nat.le_of_ble_eq_true rfl) (by decide) (by decide) ?_
    cases h
  · refine q_aload_n C dJ0_indexOf_7cf53_7 rfl ?_
    refine x_getSV C dJ0_indexOf_7cf53_8 wd_1859 h (fun c5 h => ?_)
    refine x_nn h (fun r6 h => ?_)
    refine q_iload_n C dJ0_indexOf_7cf53_11 rfl ?_
    refine q_iload_n C dJ0_indexOf_7cf53_12 rfl ?_
    refine q_aload_n C dJ0_indexOf_7cf53_13 rfl ?_
    obtain ⟨hk, h⟩ := q_obE h
    obtain ⟨u7, e1, h⟩ := q_bind h
    refine x_callT C dJ0_indexOf_7cf53_14 wd_462 mV_J0_length_8abf5 rfl hk (c_J0_length_8abf5 _ _ _ _ e1) rfl rfl (Nat.le_of_ble_eq_true rfl) (by decide) (by decide) ?_
    obtain ⟨u8, e1, h⟩ := q_bind h
    refine x_callS0 C dJ0_indexOf_7cf53_17 lkM_J0_637 mS_J1_indexOf_4cfef (c_J1_indexOf_4cfef _ _ _ _ _ _ _ e1) rfl rfl (Nat.le_of_ble_eq_true rfl) (by decide) (by decide) ?_
    refine q_goto (tgt := 36) C dJ0_indexOf_7cf53_20 (by decide) ?_
    exact q_iret (res := (r, M)) C dJ0_indexOf_7cf53_36 rfl (by decide) (by decide) (congrArg (fun z => (z, M)) (Option.some.inj h))
noncomputable def F_J0_indexOf_0f7a4 (l0 : Nat) (l1 : Int32) (M : q_Mem) : Option (Int32) := (q_ob M l0 14 ((F_J0_indexOf_7cf53 l0 l1 (0 : Int32) M).bind (fun u1 => some u1)))
set_option maxRecDepth 100000 in
set_option maxHeartbeats 4000000 in
theorem c_J0_indexOf_0f7a4 (l : Launch) (G : q_G) (l0 : Nat) (l1 : Int32) (M : q_Mem) {r : Int32} (h : F_J0_indexOf_0f7a4 l0 l1 M = some r) : q_Met l G yJ0_indexOf_0f7a4 cJ0_indexOf_0f7a4 2 (Option.some Jvm.ClassFile.FieldType.int) 8 3 0 [.ref l0, .int l1] M (some (.int r)) M := by
  unfold F_J0_indexOf_0f7a4 at h
  refine q_enter [some (.ref l0), some (.int l1)] (by decide) (Nat.le_of_ble_eq_true rfl) rfl (fun K C => ?_)
  refine q_aload_n C dJ0_indexOf_0f7a4_0 rfl ?_
  refine q_iload_n C dJ0_indexOf_0f7a4_1 rfl ?_
  refine x_iconst (v := (0 : Int32)) C dJ0_indexOf_0f7a4_2 (by decide) ?_
  obtain ⟨hk, h⟩ := q_obE h
  obtain ⟨u1, e1, h⟩ := q_bind h
  refine x_callT C dJ0_indexOf_0f7a4_3 wd_454 mV_J0_indexOf_7cf53 rfl hk (c_J0_indexOf_7cf53 _ _ _ _ _ _ e1) rfl rfl (Nat.le_of_ble_eq_true rfl) (by decide) (by decide) ?_
  exact q_iret (res := (r, M)) C dJ0_indexOf_0f7a4_6 rfl (by decide) (by decide) (congrArg (fun z => (z, M)) (Option.some.inj h))
noncomputable def F_X9_peekAmong (l0 : Nat) (l1 : Nat) (M : q_Mem) : Option (Int32 × q_Mem) := (q_ob M l0 9 ((F_X9_peek l0 M).bind (fun x => match x with | (u1, M2) => (if u1 = (-1 : Int32) then some ((-1 : Int32), M2) else (q_ob M2 l1 14 ((F_J0_indexOf_0f7a4 l1 ((u1.toUInt32 % 65536).toInt32) M2).bind (fun u3 => some (u3, M2))))))))
set_option maxRecDepth 100000 in
set_option maxHeartbeats 4000000 in
theorem c_X9_peekAmong (l : Launch) (G : q_G) (l0 : Nat) (l1 : Nat) (M : q_Mem) {r : Int32} {M' : q_Mem} (h : F_X9_peekAmong l0 l1 M = some (r, M')) : q_Met l G yX9_peekAmong cX9_peekAmong 3 (Option.some Jvm.ClassFile.FieldType.int) 9 3 0 [.ref l0, .ref l1] M (some (.int r)) M' := by
  unfold F_X9_peekAmong at h
  refine q_enter [some (.ref l0), some (.ref l1), none] (by decide) (Nat.le_of_ble_eq_true rfl) rfl (fun K C => ?_)
  refine q_aload_n C dX9_peekAmong_0 rfl ?_
  obtain ⟨hk, h⟩ := q_obE h
  obtain ⟨⟨u1, M2⟩, e1, h⟩ := q_bind h
  refine x_callV0 C dX9_peekAmong_1 lkM_X9_25 mV_X9_peek ⟨_, rfl, rfl⟩ hk (c_X9_peek _ _ _ _ e1) rfl rfl (Nat.le_of_ble_eq_true rfl) (by decide) (by decide) ?_
  refine q_istore_n (L' := [some (.ref l0), some (.ref l1), some (.int u1)]) C dX9_peekAmong_4 (by decide) rfl rfl ?_
  refine q_iload_n C dX9_peekAmong_5 rfl ?_
  refine x_iconst (v := (-1 : Int32)) C dX9_peekAmong_6 (by decide) ?_
  refine q_icmp_ne (tgt := 14) C dX9_peekAmong_7 (by decide) h (fun _ h => ?_) (fun _ h => ?_)
  · refine x_iconst (v := (-1 : Int32)) C dX9_peekAmong_10 (by decide) ?_
    refine q_goto (tgt := 20) C dX9_peekAmong_11 (by decide) ?_
    exact q_iret C dX9_peekAmong_20 rfl (by decide) (by decide) (Option.some.inj h)
  · refine q_aload_n C dX9_peekAmong_14 rfl ?_
    refine q_iload_n C dX9_peekAmong_15 rfl ?_
    refine q_i2c C dX9_peekAmong_16 ?_
    obtain ⟨hk, h⟩ := q_obE h
    obtain ⟨u3, e1, h⟩ := q_bind h
    refine x_callT C dX9_peekAmong_17 wd_450 mV_J0_indexOf_0f7a4 rfl hk (c_J0_indexOf_0f7a4 _ _ _ _ _ e1) rfl rfl (Nat.le_of_ble_eq_true rfl) (by decide) (by decide) ?_
    exact q_iret C dX9_peekAmong_20 rfl (by decide) (by decide) (Option.some.inj h)
noncomputable def F_X9_isDigit (l0 : Int32) (M : q_Mem) : Option (Int32) := (if l0 < (48 : Int32) then q_rq (0 : Int32) else (if (57 : Int32) < l0 then q_rq (0 : Int32) else q_rq (1 : Int32)))
set_option maxRecDepth 100000 in
set_option maxHeartbeats 4000000 in
theorem c_X9_isDigit (l : Launch) (G : q_G) (l0 : Int32) (M : q_Mem) {r : Int32} (h : F_X9_isDigit l0 M = some r) : q_Met l G yX9_isDigit cX9_isDigit 1 (Option.some Jvm.ClassFile.FieldType.boolean) 1 0 0 [.int l0] M (some (.int r)) M := by
  unfold F_X9_isDigit at h
  refine q_enter [some (.int l0)] (by decide) (Nat.le_of_ble_eq_true rfl) rfl (fun K C => ?_)
  refine q_iload_n C dX9_isDigit_0 rfl ?_
  refine x_bipush (v := (48 : Int32)) C dX9_isDigit_1 (by decide) ?_
  refine q_icmp_lt (tgt := 16) C dX9_isDigit_3 (by decide) h (fun _ h => ?_) (fun _ h => ?_)
  · refine x_iconst (v := (0 : Int32)) C dX9_isDigit_16 (by decide) ?_
    exact q_zret (res := (r, M)) C dX9_isDigit_17 rfl (by decide) (by decide) (q_rqE h).1 (congrArg (fun z => (z, M)) (q_rqE h).2)
  · refine q_iload_n C dX9_isDigit_6 rfl ?_
    refine x_bipush (v := (57 : Int32)) C dX9_isDigit_7 (by decide) ?_
    refine q_icmp_gt (tgt := 16) C dX9_isDigit_9 (by decide) h (fun _ h => ?_) (fun _ h => ?_)
    · refine x_iconst (v := (0 : Int32)) C dX9_isDigit_16 (by decide) ?_
      exact q_zret (res := (r, M)) C dX9_isDigit_17 rfl (by decide) (by decide) (q_rqE h).1 (congrArg (fun z => (z, M)) (q_rqE h).2)
    · refine x_iconst (v := (1 : Int32)) C dX9_isDigit_12 (by decide) ?_
      refine q_goto (tgt := 17) C dX9_isDigit_13 (by decide) ?_
      exact q_zret (res := (r, M)) C dX9_isDigit_17 rfl (by decide) (by decide) (q_rqE h).1 (congrArg (fun z => (z, M)) (q_rqE h).2)
noncomputable def J_X9_readNumber_79_22 (l0 : Nat) (l1 : Int32) (l2 : Int32) (l3 : Int32) (l5 : Int32) (l6 : Int32) (s0 : Int32) (M : q_Mem) : Option ((Int32 × Int32 × Int32 × q_Mem) ⊕ ((Int32 × q_Mem) ⊕ (q_Mem))) := ((F_X9_isDigit s0 M).bind (fun u12 => (if u12 = 0 then some (.inr (.inl (l5, M))) else some (.inl (s0, l5, (l6 + (1 : Int32)), M)))))
set_option maxRecDepth 100000 in
set_option maxHeartbeats 4000000 in
theorem jW_X9_readNumber_79_22 {K : q_K} {Q : State → Prop} (C : q_C K yX9_readNumber cX9_readNumber 8 (Option.some Jvm.ClassFile.FieldType.boolean) 2 0 0) (l0 : Nat) (l1 : Int32) (l2 : Int32) (l3 : Int32) (l5 : Int32) (l6 : Int32) (s0 : Int32) (M : q_Mem) {stp : (Int32 × Int32 × Int32 × q_Mem) ⊕ ((Int32 × q_Mem) ⊕ (q_Mem))} (h : J_X9_readNumber_79_22 l0 l1 l2 l3 l5 l6 s0 M = some stp) (kC : ∀ (l4 : Int32) (l5 : Int32) (l6 : Int32) (M : q_Mem), stp = .inl (l4, l5, l6, M) → q_W K 8 Q 0 0 M 22 [some (.ref l0), some (.int l1), some (.int l2), some (.int l3), some (.int l4), some (.int l5), some (.int l6), none] []) (kE0 : ∀ (l5 : Int32) (M : q_Mem), stp = .inr (.inl (l5, M)) → q_W K 8 Q 0 0 M 89 [some (.ref l0), none, some (.int l2), some (.int l3), none, some (.int l5), none, none] []) (kE1 : ∀ (M : q_Mem), stp = .inr (.inr M) → q_W K 8 Q 0 0 M 142 [none, none, none, none, none, none, none, none] []) : q_W K 8 Q 0 0 M 79 [some (.ref l0), some (.int l1), some (.int l2), some (.int l3), none, some (.int l5), some (.int l6), none] [.int s0] := by
  unfold J_X9_readNumber_79_22 at h
  refine q_istore (L' := [some (.ref l0), some (.int l1), some (.int l2), some (.int l3), some (.int s0), some (.int l5), some (.int l6), none]) C dX9_readNumber_79 (by decide) rfl rfl ?_
  refine q_iload C dX9_readNumber_81 rfl ?_
  obtain ⟨u12, e1, h⟩ := q_bind h
  refine x_callS0 C dX9_readNumber_83 lkM_X9_35 mS_X9_isDigit (c_X9_isDigit _ _ _ _ e1) rfl rfl (Nat.le_of_ble_eq_true rfl) (by decide) (by decide) ?_
  refine q_if_ne (tgt := 136) C dX9_readNumber_86 (by decide) h (fun _ h => ?_) (fun _ h => ?_)
  · exact q_msk [true, false, true, true, false, true, false, false] (kE0 _ _ (Option.some.inj h).symm)
  · refine x_iinc (w := (1 : Int32)) (L' := [some (.ref l0), some (.int l1), some (.int l2), some (.int l3), some (.int s0), some (.int l5), some (.int (l6 + (1 : Int32))), none]) C dX9_readNumber_136 rfl (by decide) (by decide) rfl rfl ?_
    refine q_goto (tgt := 22) C dX9_readNumber_139 (by decide) ?_
    exact q_msk [true, true, true, true, true, true, true, false] (kC _ _ _ _ (Option.some.inj h).symm)
noncomputable def B_X9_readNumber_22 (l0 : Nat) (l1 : Int32) (l2 : Int32) (l3 : Int32) (l4 : Int32) (l5 : Int32) (l6 : Int32) (M : q_Mem) : Option ((Int32 × Int32 × Int32 × q_Mem) ⊕ ((Int32 × q_Mem) ⊕ (q_Mem))) := (if l6 < l1 then (q_gI M l0 9 2 (fun v4 => (q_pI M l0 9 2 (v4 + (1 : Int32)) (fun M5 => (q_gI M5 l0 9 2 (fun v6 => (q_gI M5 l0 9 1 (fun v7 => (if v6 < v7 then (q_gR M5 l0 9 0 (fun c8 => q_nn c8 (fun r9 => (q_gI M5 l0 9 2 (fun v10 => (q_lI M5 1 r9 v10 (fun v11 => J_X9_readNumber_79_22 l0 l1 l2 l3 (((l5 * (10 : Int32)) + l4) - (48 : Int32)) l6 (v11 &&& (255 : Int32)) M5))))))) else J_X9_readNumber_79_22 l0 l1 l2 l3 (((l5 * (10 : Int32)) + l4) - (48 : Int32)) l6 (-1 : Int32) M5))))))))) else some (.inr (.inr M)))
set_option maxRecDepth 100000 in
set_option maxHeartbeats 4000000 in
theorem bW_X9_readNumber_22 {K : q_K} {Q : State → Prop} (C : q_C K yX9_readNumber cX9_readNumber 8 (Option.some Jvm.ClassFile.FieldType.boolean) 2 0 0) (l0 : Nat) (l1 : Int32) (l2 : Int32) (l3 : Int32) (l4 : Int32) (l5 : Int32) (l6 : Int32) (M : q_Mem) {stp : (Int32 × Int32 × Int32 × q_Mem) ⊕ ((Int32 × q_Mem) ⊕ (q_Mem))} (h : B_X9_readNumber_22 l0 l1 l2 l3 l4 l5 l6 M = some stp) (kC : ∀ (l4 : Int32) (l5 : Int32) (l6 : Int32) (M : q_Mem), stp = .inl (l4, l5, l6, M) → q_W K 8 Q 0 0 M 22 [some (.ref l0), some (.int l1), some (.int l2), some (.int l3), some (.int l4), some (.int l5), some (.int l6), none] []) (kE0 : ∀ (l5 : Int32) (M : q_Mem), stp = .inr (.inl (l5, M)) → q_W K 8 Q 0 0 M 89 [some (.ref l0), none, some (.int l2), some (.int l3), none, some (.int l5), none, none] []) (kE1 : ∀ (M : q_Mem), stp = .inr (.inr M) → q_W K 8 Q 0 0 M 142 [none, none, none, none, none, none, none, none] []) : q_W K 8 Q 0 0 M 22 [some (.ref l0), some (.int l1), some (.int l2), some (.int l3), some (.int l4), some (.int l5), some (.int l6), none] [] := by
  unfold B_X9_readNumber_22 at h
  refine q_iload C dX9_readNumber_22 rfl ?_
  refine q_iload_n C dX9_readNumber_24 rfl ?_
  refine q_icmp_ge (tgt := 142) C dX9_readNumber_25 (by decide) h (fun _ h => ?_) (fun _ h => ?_)
  · refine q_iload C dX9_readNumber_28 rfl ?_
    refine x_bipush (v := (10 : Int32)) C dX9_readNumber_30 (by decide) ?_
    refine q_imul C dX9_readNumber_32 ?_
    refine q_iload C dX9_readNumber_33 rfl ?_
    refine q_iadd C dX9_readNumber_35 ?_
    refine x_bipush (v := (48 : Int32)) C dX9_readNumber_36 (by decide) ?_
    refine q_isub C dX9_readNumber_38 ?_
    refine q_istore (L' := [some (.ref l0), some (.int l1), some (.int l2), some (.int l3), some (.int l4), some (.int (((l5 * (10 : Int32)) + l4) - (48 : Int32))), some (.int l6), none]) C dX9_readNumber_39 (by decide) rfl rfl ?_
    refine q_aload_n C dX9_readNumber_41 rfl ?_
    refine q_dup C dX9_readNumber_42 rfl ?_
    refine x_getI (ci := 9) (j := 2) C dX9_readNumber_43 lkF_X9_19 rfl h (fun v4 h => ?_)
    refine x_iconst (v := (1 : Int32)) C dX9_readNumber_46 (by decide) ?_
    refine q_iadd C dX9_readNumber_47 ?_
    refine x_putI (ci := 9) (j := 2) C dX9_readNumber_48 lkF_X9_19 (fun r hr => by cases hr; rfl) rfl h (fun M5 h => ?_)
    refine q_aload_n C dX9_readNumber_51 rfl ?_
    refine x_getI (ci := 9) (j := 2) C dX9_readNumber_52 lkF_X9_19 rfl h (fun v6 h => ?_)
    refine q_aload_n C dX9_readNumber_55 rfl ?_
    refine x_getI (ci := 9) (j := 1) C dX9_readNumber_56 lkF_X9_15 rfl h (fun v7 h => ?_)
    refine q_icmp_ge (tgt := 78) C dX9_readNumber_59 (by decide) h (fun _ h => ?_) (fun _ h => ?_)
    · refine q_aload_n C dX9_readNumber_62 rfl ?_
      refine x_getR (ci := 9) (j := 0) C dX9_readNumber_63 lkF_X9_9 rfl h (fun c8 h => ?_)
      refine x_nn h (fun r9 h => ?_)
      refine q_aload_n C dX9_readNumber_66 rfl ?_
      refine x_getI (ci := 9) (j := 2) C dX9_readNumber_67 lkF_X9_19 rfl h (fun v10 h => ?_)
      refine x_bald C dX9_readNumber_70 h (fun v11 h => ?_)
      refine x_sipush (v := (255 : Int32)) C dX9_readNumber_71 (by decide) ?_
      refine q_iand C dX9_readNumber_74 ?_
      refine q_goto (tgt := 79) C dX9_readNumber_75 (by decide) ?_
      exact q_msk [true, true, true, true, false, true, true, false] (jW_X9_readNumber_79_22 C l0 l1 l2 l3 (((l5 * (10 : Int32)) + l4) - (48 : Int32)) l6 (v11 &&& (255 : Int32)) M5 h kC kE0 kE1)
    · refine x_iconst (v := (-1 : Int32)) C dX9_readNumber_78 (by decide) ?_
      exact q_msk [true, true, true, true, false, true, true, false] (jW_X9_readNumber_79_22 C l0 l1 l2 l3 (((l5 * (10 : Int32)) + l4) - (48 : Int32)) l6 (-1 : Int32) M5 h kC kE0 kE1)
  · exact q_msk [false, false, false, false, false, false, false, false] (kE1 _ (Option.some.inj h).symm)
set_option maxRecDepth 100000 in
set_option maxHeartbeats 4000000 in
theorem lW_X9_readNumber_22 {K : q_K} {Q : State → Prop} (C : q_C K yX9_readNumber cX9_readNumber 8 (Option.some Jvm.ClassFile.FieldType.boolean) 2 0 0) (l0 : Nat) (l1 : Int32) (l2 : Int32) (l3 : Int32) (n : Nat) : ∀ (l4 : Int32) (l5 : Int32) (l6 : Int32) (M : q_Mem) (e : ((Int32 × q_Mem) ⊕ (q_Mem))), q_lp (fun s => B_X9_readNumber_22 l0 l1 l2 l3 s.1 s.2.1 s.2.2.1 s.2.2.2) n (l4, l5, l6, M) = some e → (∀ (l5 : Int32) (M : q_Mem), e = (.inl (l5, M)) → q_W K 8 Q 0 0 M 89 [some (.ref l0), none, some (.int l2), some (.int l3), none, some (.int l5), none, none] []) → (∀ (M : q_Mem), e = (.inr M) → q_W K 8 Q 0 0 M 142 [none, none, none, none, none, none, none, none] []) → q_W K 8 Q 0 0 M 22 [some (.ref l0), some (.int l1), some (.int l2), some (.int l3), some (.int l4), some (.int l5), some (.int l6), none] [] := by
  induction n with
  | zero => intro l4 l5 l6 M e h; cases h
  | succ n ih =>
    intro l4 l5 l6 M e h kE0 kE1
    obtain ⟨stp, e1, e2⟩ := q_bind h
    refine bW_X9_readNumber_22 C l0 l1 l2 l3 l4 l5 l6 M e1 (fun a0 a1 a2 a3 hs => ?_) (fun b0 b1 hs => ?_) (fun b0 hs => ?_)
    · subst hs; exact ih _ _ _ _ _ e2 kE0 kE1
    · subst hs; exact kE0 _ _ (Option.some.inj e2).symm
    · subst hs; exact kE1 _ (Option.some.inj e2).symm
noncomputable def J_X9_readNumber_129 (l7 : Int32) (s0 : Nat) (s1 : Int32) (s2 : Int32) (M : q_Mem) : Option (Int32 × q_Mem) := (q_pI M s0 9 2 (s1 - s2) (fun M18 => q_rz l7 M18))
set_option maxRecDepth 100000 in
set_option maxHeartbeats 4000000 in
theorem jW_X9_readNumber_129 {K : q_K} (C : q_C K yX9_readNumber cX9_readNumber 8 (Option.some Jvm.ClassFile.FieldType.boolean) 2 0 0) (l7 : Int32) (s0 : Nat) (s1 : Int32) (s2 : Int32) (M : q_Mem) {r : Int32} {M' : q_Mem} (h : J_X9_readNumber_129 l7 s0 s1 s2 M = some (r, M')) : q_W K 8 (q_Q K (some (.int r)) M' 0 0) 0 0 M 129 [none, none, none, none, none, none, none, some (.int l7)] [.int s2, .int s1, .ref s0] := by
  unfold J_X9_readNumber_129 at h
  refine q_isub C dX9_readNumber_129 ?_
  refine x_putI (ci := 9) (j := 2) C dX9_readNumber_130 lkF_X9_19 (fun r hr => by cases hr; rfl) rfl h (fun M18 h => ?_)
  refine q_iload C dX9_readNumber_133 rfl ?_
  exact q_zret C dX9_readNumber_135 rfl (by decide) (by decide) (q_rzE h).1 (q_rzE h).2
noncomputable def J_X9_readNumber_112 (l0 : Nat) (s0 : Int32) (M : q_Mem) : Option (Int32 × q_Mem) := (q_gI M l0 9 2 (fun v17 => (if s0 = 0 then J_X9_readNumber_129 s0 l0 v17 (1 : Int32) M else J_X9_readNumber_129 s0 l0 v17 (0 : Int32) M)))
set_option maxRecDepth 100000 in
set_option maxHeartbeats 4000000 in
theorem jW_X9_readNumber_112 {K : q_K} (C : q_C K yX9_readNumber cX9_readNumber 8 (Option.some Jvm.ClassFile.FieldType.boolean) 2 0 0) (l0 : Nat) (s0 : Int32) (M : q_Mem) {r : Int32} {M' : q_Mem} (h : J_X9_readNumber_112 l0 s0 M = some (r, M')) : q_W K 8 (q_Q K (some (.int r)) M' 0 0) 0 0 M 112 [some (.ref l0), none, none, none, none, none, none, none] [.int s0] := by
  unfold J_X9_readNumber_112 at h
  refine q_istore (L' := [some (.ref l0), none, none, none, none, none, none, some (.int s0)]) C dX9_readNumber_112 (by decide) rfl rfl ?_
  refine q_aload_n C dX9_readNumber_114 rfl ?_
  refine q_dup C dX9_readNumber_115 rfl ?_
  refine x_getI (ci := 9) (j := 2) C dX9_readNumber_116 lkF_X9_19 rfl h (fun v17 h => ?_)
  refine q_iload C dX9_readNumber_119 rfl ?_
  refine q_if_eq (tgt := 128) C dX9_readNumber_121 (by decide) h (fun _ h => ?_) (fun _ h => ?_)
  · refine x_iconst (v := (1 : Int32)) C dX9_readNumber_128 (by decide) ?_
    exact q_msk [false, false, false, false, false, false, false, true] (jW_X9_readNumber_129 C s0 l0 v17 (1 : Int32) M h)
  · refine x_iconst (v := (0 : Int32)) C dX9_readNumber_124 (by decide) ?_
    refine q_goto (tgt := 129) C dX9_readNumber_125 (by decide) ?_
    exact q_msk [false, false, false, false, false, false, false, true] (jW_X9_readNumber_129 C s0 l0 v17 (0 : Int32) M h)
noncomputable def J_X9_readNumber_111 (l0 : Nat) (M : q_Mem) : Option (Int32 × q_Mem) := J_X9_readNumber_112 l0 (0 : Int32) M
set_option maxRecDepth 100000 in
set_option maxHeartbeats 4000000 in
theorem jW_X9_readNumber_111 {K : q_K} (C : q_C K yX9_readNumber cX9_readNumber 8 (Option.some Jvm.ClassFile.FieldType.boolean) 2 0 0) (l0 : Nat) (M : q_Mem) {r : Int32} {M' : q_Mem} (h : J_X9_readNumber_111 l0 M = some (r, M')) : q_W K 8 (q_Q K (some (.int r)) M' 0 0) 0 0 M 111 [some (.ref l0), none, none, none, none, none, none, none] [] := by
  unfold J_X9_readNumber_111 at h
  refine x_iconst (v := (0 : Int32)) C dX9_readNumber_111 (by decide) ?_
  exact q_msk [true, false, false, false, false, false, false, false] (jW_X9_readNumber_112 C l0 (0 : Int32) M h)
noncomputable def F_X9_readNumber (l0 : Nat) (l1 : Int32) (l2 : Int32) (l3 : Int32) (M : q_Mem) : Option (Int32 × q_Mem) := (q_ob M l0 9 ((F_X9_peek l0 M).bind (fun x => match x with | (u1, M2) => ((F_X9_isDigit u1 M2).bind (fun u3 => (if u3 = 0 then q_rz (0 : Int32) M2 else (q_lp (fun s => B_X9_readNumber_22 l0 l1 l2 l3 s.1 s.2.1 s.2.2.1 s.2.2.2) q_fu (u1, (0 : Int32), (0 : Int32), M2)).bind (fun e13 => match e13 with | .inl (w14, M15) => (q_pI M15 l0 9 3 w14 (fun M16 => (if w14 < l2 then J_X9_readNumber_111 l0 M16 else (if l3 < w14 then J_X9_readNumber_111 l0 M16 else J_X9_readNumber_112 l0 (1 : Int32) M16)))) | .inr M19 => q_rz (0 : Int32) M19)))))))
set_option maxRecDepth 100000 in
set_option maxHeartbeats 4000000 in
theorem c_X9_readNumber (l : Launch) (G : q_G) (l0 : Nat) (l1 : Int32) (l2 : Int32) (l3 : Int32) (M : q_Mem) {r : Int32} {M' : q_Mem} (h : F_X9_readNumber l0 l1 l2 l3 M = some (r, M')) : q_Met l G yX9_readNumber cX9_readNumber 8 (Option.some Jvm.ClassFile.FieldType.boolean) 2 0 0 [.ref l0, .int l1, .int l2, .int l3] M (some (.int r)) M' := by
  unfold F_X9_readNumber at h
  refine q_enter [some (.ref l0), some (.int l1), some (.int l2), some (.int l3), none, none, none, none] (by decide) (Nat.le_of_ble_eq_true rfl) rfl (fun K C => ?_)
  refine q_aload_n C dX9_readNumber_0 rfl ?_
  obtain ⟨hk, h⟩ := q_obE h
  obtain ⟨⟨u1, M2⟩, e1, h⟩ := q_bind h
  refine x_callV0 C dX9_readNumber_1 lkM_X9_25 mV_X9_peek ⟨_, rfl, rfl⟩ hk (c_X9_peek _ _ _ _ e1) rfl rfl (Nat.le_of_ble_eq_true rfl) (by decide) (by decide) ?_
  refine q_istore (L' := [some (.ref l0), some (.int l1), some (.int l2), some (.int l3), some (.int u1), none, none, none]) C dX9_readNumber_4 (by decide) rfl rfl ?_
  refine q_iload C dX9_readNumber_6 rfl ?_
  obtain ⟨u3, e1, h⟩ := q_bind h
  refine x_callS0 C dX9_readNumber_8 lkM_X9_35 mS_X9_isDigit (c_X9_isDigit _ _ _ _ e1) rfl rfl (Nat.le_of_ble_eq_true rfl) (by decide) (by decide) ?_
  refine q_if_ne (tgt := 16) C dX9_readNumber_11 (by decide) h (fun _ h => ?_) (fun _ h => ?_)
  · refine x_iconst (v := (0 : Int32)) C dX9_readNumber_14 (by decide) ?_
    exact q_zret C dX9_readNumber_15 rfl (by decide) (by decide) (q_rzE h).1 (q_rzE h).2
  · refine x_iconst (v := (0 : Int32)) C dX9_readNumber_16 (by decide) ?_
    refine q_istore (L' := [some (.ref l0), some (.int l1), some (.int l2), some (.int l3), some (.int u1), some (.int (0 : Int32)), none, none]) C dX9_readNumber_17 (by decide) rfl rfl ?_
    refine x_iconst (v := (0 : Int32)) C dX9_readNumber_19 (by decide) ?_
    refine q_istore (L' := [some (.ref l0), some (.int l1), some (.int l2), some (.int l3), some (.int u1), some (.int (0 : Int32)), some (.int (0 : Int32)), none]) C dX9_readNumber_20 (by decide) rfl rfl ?_
    obtain ⟨e13, he, h⟩ := q_bind h
    refine q_msk [true, true, true, true, true, true, true, false] (lW_X9_readNumber_22 C l0 l1 l2 l3 q_fu _ _ _ _ _ he (fun w14 M15 hs => ?_) (fun M19 hs => ?_))
    · have hs := hs.symm
      subst hs
      refine q_aload_n C dX9_readNumber_89 rfl ?_
      refine q_iload C dX9_readNumber_90 rfl ?_
      refine x_putI (ci := 9) (j := 3) C dX9_readNumber_92 lkF_X9_22 (fun r hr => by cases hr; rfl) rfl h (fun M16 h => ?_)
      refine q_iload C dX9_readNumber_95 rfl ?_
      refine q_iload_n C dX9_readNumber_97 rfl ?_
      refine q_icmp_lt (tgt := 111) C dX9_readNumber_98 (by decide) h (fun _ h => ?_) (fun _ h => ?_)
      · exact q_msk [true, false, false, false, false, false, false, false] (jW_X9_readNumber_111 C l0 M16 h)
      · refine q_iload C dX9_readNumber_101 rfl ?_
        refine q_iload_n C dX9_readNumber_103 rfl ?_
        refine q_icmp_gt (tgt := 111) C dX9_readNumber_104 (by decide) h (fun _ h => ?_) (fun _ h => ?_)
        · exact q_msk [true, false, false, false, false, false, false, false] (jW_X9_readNumber_111 C l0 M16 h)
        · refine x_iconst (v := (1 : Int32)) C dX9_readNumber_107 (by decide) ?_
          refine q_goto (tgt := 112) C dX9_readNumber_108 (by decide) ?_
          exact q_msk [true, false, false, false, false, false, false, false] (jW_X9_readNumber_112 C l0 (1 : Int32) M16 h)
    · have hs := hs.symm
      subst hs
      refine x_iconst (v := (0 : Int32)) C dX9_readNumber_142 (by decide) ?_
      exact q_zret C dX9_readNumber_143 rfl (by decide) (by decide) (q_rzE h).1 (q_rzE h).2
noncomputable def B_X3_readItems_17 (l0 : Nat) (l1 : Nat) (l2 : Nat) (l3 : Nat) (l4 : Int32) (l5 : Int32) (l6 : Int32) (M : q_Mem) : Option ((Int32 × Int32 × q_Mem) ⊕ ((q_Mem) ⊕ ((q_Mem) ⊕ ((q_Mem) ⊕ (q_Mem))))) := (q_ob M l1 14 ((F_J0_length_8abf5 l1 M).bind (fun u4 => (if u4 < l6 then some (.inr (.inr (.inr (.inr M)))) else (q_ob M l0 9 ((F_X9_peekAmong l0 l1 M).bind (fun x => match x with | (u5, M6) => (if u5 = (-1 : Int32) then some (.inr (.inl M6)) else (if ((l5 >>> (u5 &&& 31)) &&& (1 : Int32)) = 0 then (q_al M6 l3 (fun v7 => (if (l4 + u5) < v7 then (q_gI M6 l0 9 2 (fun v8 => (q_pI M6 l0 9 2 (v8 + (1 : Int32)) (fun M9 => (q_lI M9 0 l2 ((3 : Int32) * u5) (fun v10 => (q_lI M9 0 l2 (((3 : Int32) * u5) + (1 : Int32)) (fun v11 => (q_ob M9 l0 9 ((F_X9_readNumber l0 (2 : Int32) v10 v11 M9).bind (fun x => match x with | (u12, M13) => (if u12 = 0 then some (.inr (.inr (.inr (.inl M13)))) else (q_gI M13 l0 9 3 (fun v14 => (q_tI M13 l3 (l4 + u5) v14 (fun M15 => some (.inl ((l5 ||| ((1 : Int32) <<< (u5 &&& 31))), (l6 + (1 : Int32)), M15)))))))))))))))))) else some (.inr (.inr (.inl M6)))))) else some (.inr (.inr (.inl M6))))))))))))
set_option maxRecDepth 100000 in
set_option maxHeartbeats 4000000 in
theorem bW_X3_readItems_17 {K : q_K} {Q : State → Prop} (C : q_C K yX3_readItems cX3_readItems 8 (Option.some Jvm.ClassFile.FieldType.boolean) 10 3 0) (l0 : Nat) (l1 : Nat) (l2 : Nat) (l3 : Nat) (l4 : Int32) (l5 : Int32) (l6 : Int32) (M : q_Mem) {stp : (Int32 × Int32 × q_Mem) ⊕ ((q_Mem) ⊕ ((q_Mem) ⊕ ((q_Mem) ⊕ (q_Mem))))} (h : B_X3_readItems_17 l0 l1 l2 l3 l4 l5 l6 M = some stp) (kC : ∀ (l5 : Int32) (l6 : Int32) (M : q_Mem), stp = .inl (l5, l6, M) → q_W K 8 Q 0 0 M 17 [some (.ref l0), some (.ref l1), some (.ref l2), some (.ref l3), some (.int l4), some (.int l5), some (.int l6), none] []) (kE0 : ∀ (M : q_Mem), stp = .inr (.inl M) → q_W K 8 Q 0 0 M 39 [none, none, none, none, none, none, none, none] []) (kE1 : ∀ (M : q_Mem), stp = .inr (.inr (.inl M)) → q_W K 8 Q 0 0 M 61 [none, none, none, none, none, none, none, none] []) (kE2 : ∀ (M : q_Mem), stp = .inr (.inr (.inr (.inl M))) → q_W K 8 Q 0 0 M 104 [none, none, none, none, none, none, none, none] []) (kE3 : ∀ (M : q_Mem), stp = .inr (.inr (.inr (.inr M))) → q_W K 8 Q 0 0 M 123 [none, none, none, none, none, none, none, none] []) : q_W K 8 Q 0 0 M 17 [some (.ref l0), some (.ref l1), some (.ref l2), some (.ref l3), some (.int l4), some (.int l5), some (.int l6), none] [] := by
  unfold B_X3_readItems_17 at h
  refine q_iload C dX3_readItems_17 rfl ?_
  refine q_aload_n C dX3_readItems_19 rfl ?_
  obtain ⟨hk, h⟩ := q_obE h
  obtain ⟨u4, e1, h⟩ := q_bind h
  refine x_callT C dX3_readItems_20 wd_436 mV_J0_length_8abf5 rfl hk (c_J0_length_8abf5 _ _ _ _ e1) rfl rfl (Nat.le_of_ble_eq_true rfl) (by decide) (by decide) ?_
  refine q_icmp_gt (tgt := 123) C dX3_readItems_23 (by decide) h (fun _ h => ?_) (fun _ h => ?_)
  · exact q_msk [false, false, false, false, false, false, false, false] (kE3 _ (Option.some.inj h).symm)
  · refine q_aload_n C dX3_readItems_26 rfl ?_
    refine q_aload_n C dX3_readItems_27 rfl ?_
    obtain ⟨hk, h⟩ := q_obE h
    obtain ⟨⟨u5, M6⟩, e1, h⟩ := q_bind h
    refine x_callV C dX3_readItems_28 lkM_X3_90 mV_X9_peekAmong ⟨_, rfl, rfl⟩ hk (c_X9_peekAmong _ _ _ _ _ e1) rfl rfl (Nat.le_of_ble_eq_true rfl) (by decide) (by decide) ?_
    refine q_istore (L' := [some (.ref l0), some (.ref l1), some (.ref l2), some (.ref l3), some (.int l4), some (.int l5), some (.int l6), some (.int u5)]) C dX3_readItems_31 (by decide) rfl rfl ?_
    refine q_iload C dX3_readItems_33 rfl ?_
    refine x_iconst (v := (-1 : Int32)) C dX3_readItems_35 (by decide) ?_
    refine q_icmp_ne (tgt := 41) C dX3_readItems_36 (by decide) h (fun _ h => ?_) (fun _ h => ?_)
    · exact q_msk [false, false, false, false, false, false, false, false] (kE0 _ (Option.some.inj h).symm)
    · refine q_iload C dX3_readItems_41 rfl ?_
      refine q_iload C dX3_readItems_43 rfl ?_
      refine q_ishr C dX3_readItems_45 ?_
      refine x_iconst (v := (1 : Int32)) C dX3_readItems_46 (by decide) ?_
      refine q_iand C dX3_readItems_47 ?_
      refine q_if_ne (tgt := 61) C dX3_readItems_48 (by decide) h (fun _ h => ?_) (fun _ h => ?_)
      · refine q_iload C dX3_readItems_51 rfl ?_
        refine q_iload C dX3_readItems_53 rfl ?_
        refine q_iadd C dX3_readItems_55 ?_
        refine q_aload_n C dX3_readItems_56 rfl ?_
        refine x_alen C dX3_readItems_57 h (fun v7 h => ?_)
        refine q_icmp_lt (tgt := 63) C dX3_readItems_58 (by decide) h (fun _ h => ?_) (fun _ h => ?_)
        · refine q_iload C dX3_readItems_63 rfl ?_
          refine x_iconst (v := (1 : Int32)) C dX3_readItems_65 (by decide) ?_
          refine q_iload C dX3_readItems_66 rfl ?_
          refine q_ishl C dX3_readItems_68 ?_
          refine q_ior C dX3_readItems_69 ?_
          refine q_istore (L' := [some (.ref l0), some (.ref l1), some (.ref l2), some (.ref l3), some (.int l4), some (.int (l5 ||| ((1 : Int32) <<< (u5 &&& 31)))), some (.int l6), some (.int u5)]) C dX3_readItems_70 (by decide) rfl rfl ?_
          refine q_aload_n C dX3_readItems_72 rfl ?_
          refine q_dup C dX3_readItems_73 rfl ?_
          refine x_getI (ci := 9) (j := 2) C dX3_readItems_74 lkF_X3_94 rfl h (fun v8 h => ?_)
          refine x_iconst (v := (1 : Int32)) C dX3_readItems_77 (by decide) ?_
          refine q_iadd C dX3_readItems_78 ?_
          refine x_putI (ci := 9) (j := 2) C dX3_readItems_79 lkF_X3_94 (fun r hr => by cases hr; rfl) rfl h (fun M9 h => ?_)
          refine q_aload_n C dX3_readItems_82 rfl ?_
          refine x_iconst (v := (2 : Int32)) C dX3_readItems_83 (by decide) ?_
          refine q_aload_n C dX3_readItems_84 rfl ?_
          refine x_iconst (v := (3 : Int32)) C dX3_readItems_85 (by decide) ?_
          refine q_iload C dX3_readItems_86 rfl ?_
          refine q_imul C dX3_readItems_88 ?_
          refine x_iald C dX3_readItems_89 h (fun v10 h => ?_)
          refine q_aload_n C dX3_readItems_90 rfl ?_
          refine x_iconst (v := (3 : Int32)) C dX3_readItems_91 (by decide) ?_
          refine q_iload C dX3_readItems_92 rfl ?_
          refine q_imul C dX3_readItems_94 ?_
          refine x_iconst (v := (1 : Int32)) C dX3_readItems_95 (by decide) ?_
          refine q_iadd C dX3_readItems_96 ?_
          refine x_iald C dX3_readItems_97 h (fun v11 h => ?_)
          obtain ⟨hk, h⟩ := q_obE h
          obtain ⟨⟨u12, M13⟩, e1, h⟩ := q_bind h
          refine x_callV0 C dX3_readItems_98 lkM_X3_97 mV_X9_readNumber ⟨_, rfl, rfl⟩ hk (c_X9_readNumber _ _ _ _ _ _ _ e1) rfl rfl (Nat.le_of_ble_eq_true rfl) (by decide) (by decide) ?_
          refine q_if_ne (tgt := 106) C dX3_readItems_101 (by decide) h (fun _ h => ?_) (fun _ h => ?_)
          · exact q_msk [false, false, false, false, false, false, false, false] (kE2 _ (Option.some.inj h).symm)
          · refine q_aload_n C dX3_readItems_106 rfl ?_
            refine q_iload C dX3_readItems_107 rfl ?_
            refine q_iload C dX3_readItems_109 rfl ?_
            refine q_iadd C dX3_readItems_111 ?_
            refine q_aload_n C dX3_readItems_112 rfl ?_
            refine x_getI (ci := 9) (j := 3) C dX3_readItems_113 lkF_X3_101 rfl h (fun v14 h => ?_)
            refine x_iast C dX3_readItems_116 h (fun M15 h => ?_)
            refine x_iinc (w := (1 : Int32)) (L' := [some (.ref l0), some (.ref l1), some (.ref l2), some (.ref l3), some (.int l4), some (.int (l5 ||| ((1 : Int32) <<< (u5 &&& 31)))), some (.int (l6 + (1 : Int32))), some (.int u5)]) C dX3_readItems_117 rfl (by decide) (by decide) rfl rfl ?_
            refine q_goto (tgt := 17) C dX3_readItems_120 (by decide) ?_
            exact q_msk [true, true, true, true, true, true, true, false] (kC _ _ _ (Option.some.inj h).symm)
        · exact q_msk [false, false, false, false, false, false, false, false] (kE1 _ (Option.some.inj h).symm)
      · exact q_msk [false, false, false, false, false, false, false, false] (kE1 _ (Option.some.inj h).symm)
set_option maxRecDepth 100000 in
set_option maxHeartbeats 4000000 in
theorem lW_X3_readItems_17 {K : q_K} {Q : State → Prop} (C : q_C K yX3_readItems cX3_readItems 8 (Option.some Jvm.ClassFile.FieldType.boolean) 10 3 0) (l0 : Nat) (l1 : Nat) (l2 : Nat) (l3 : Nat) (l4 : Int32) (n : Nat) : ∀ (l5 : Int32) (l6 : Int32) (M : q_Mem) (e : ((q_Mem) ⊕ ((q_Mem) ⊕ ((q_Mem) ⊕ (q_Mem))))), q_lp (fun s => B_X3_readItems_17 l0 l1 l2 l3 l4 s.1 s.2.1 s.2.2) n (l5, l6, M) = some e → (∀ (M : q_Mem), e = (.inl M) → q_W K 8 Q 0 0 M 39 [none, none, none, none, none, none, none, none] []) → (∀ (M : q_Mem), e = (.inr (.inl M)) → q_W K 8 Q 0 0 M 61 [none, none, none, none, none, none, none, none] []) → (∀ (M : q_Mem), e = (.inr (.inr (.inl M))) → q_W K 8 Q 0 0 M 104 [none, none, none, none, none, none, none, none] []) → (∀ (M : q_Mem), e = (.inr (.inr (.inr M))) → q_W K 8 Q 0 0 M 123 [none, none, none, none, none, none, none, none] []) → q_W K 8 Q 0 0 M 17 [some (.ref l0), some (.ref l1), some (.ref l2), some (.ref l3), some (.int l4), some (.int l5), some (.int l6), none] [] := by
  induction n with
  | zero => intro l5 l6 M e h; cases h
  | succ n ih =>
    intro l5 l6 M e h kE0 kE1 kE2 kE3
    obtain ⟨stp, e1, e2⟩ := q_bind h
    refine bW_X3_readItems_17 C l0 l1 l2 l3 l4 l5 l6 M e1 (fun a0 a1 a2 hs => ?_) (fun b0 hs => ?_) (fun b0 hs => ?_) (fun b0 hs => ?_) (fun b0 hs => ?_)
    · subst hs; exact ih _ _ _ _ e2 kE0 kE1 kE2 kE3
    · subst hs; exact kE0 _ (Option.some.inj e2).symm
    · subst hs; exact kE1 _ (Option.some.inj e2).symm
    · subst hs; exact kE2 _ (Option.some.inj e2).symm
    · subst hs; exact kE3 _ (Option.some.inj e2).symm
noncomputable def F_X3_readItems (l0 : Nat) (l1 : Nat) (l2 : Nat) (l3 : Nat) (l4 : Int32) (M : q_Mem) : Option (Int32 × q_Mem) := (q_ob M l1 14 ((F_J0_length_8abf5 l1 M).bind (fun u1 => ((F_X3_setUsual l2 l3 l4 u1 M).bind (fun x => match x with | (_, M3) => (q_lp (fun s => B_X3_readItems_17 l0 l1 l2 l3 l4 s.1 s.2.1 s.2.2) q_fu ((0 : Int32), (0 : Int32), M3)).bind (fun e16 => match e16 with | .inl M17 => q_rz (1 : Int32) M17 | .inr (.inl M18) => q_rz (0 : Int32) M18 | .inr (.inr (.inl M19)) => q_rz (0 : Int32) M19 | .inr (.inr (.inr M20)) => q_rz (0 : Int32) M20))))))
set_option maxRecDepth 100000 in
set_option maxHeartbeats 4000000 in
theorem c_X3_readItems (l : Launch) (G : q_G) (l0 : Nat) (l1 : Nat) (l2 : Nat) (l3 : Nat) (l4 : Int32) (M : q_Mem) {r : Int32} {M' : q_Mem} (h : F_X3_readItems l0 l1 l2 l3 l4 M = some (r, M')) : q_Met l G yX3_readItems cX3_readItems 8 (Option.some Jvm.ClassFile.FieldType.boolean) 10 3 0 [.ref l0, .ref l1, .ref l2, .ref l3, .int l4] M (some (.int r)) M' := by
  unfold F_X3_readItems at h
  refine q_enter [some (.ref l0), some (.ref l1), some (.ref l2), some (.ref l3), some (.int l4), none, none, none] (by decide) (Nat.le_of_ble_eq_true rfl) rfl (fun K C => ?_)
  refine q_aload_n C dX3_readItems_0 rfl ?_
  refine q_aload_n C dX3_readItems_1 rfl ?_
  refine q_iload C dX3_readItems_2 rfl ?_
  refine q_aload_n C dX3_readItems_4 rfl ?_
  obtain ⟨hk, h⟩ := q_obE h
  obtain ⟨u1, e1, h⟩ := q_bind h
  refine x_callT C dX3_readItems_5 wd_436 mV_J0_length_8abf5 rfl hk (c_J0_length_8abf5 _ _ _ _ e1) rfl rfl (Nat.le_of_ble_eq_true rfl) (by decide) (by decide) ?_
  obtain ⟨⟨_, M3⟩, e1, h⟩ := q_bind h
  refine x_callSv0 C dX3_readItems_8 lkM_X3_54 mS_X3_setUsual (c_X3_setUsual _ _ _ _ _ _ _ e1) rfl rfl (Nat.le_of_ble_eq_true rfl) (by decide) (by decide) ?_
  refine x_iconst (v := (0 : Int32)) C dX3_readItems_11 (by decide) ?_
  refine q_istore (L' := [some (.ref l0), some (.ref l1), some (.ref l2), some (.ref l3), some (.int l4), some (.int (0 : Int32)), none, none]) C dX3_readItems_12 (by decide) rfl rfl ?_
  refine x_iconst (v := (0 : Int32)) C dX3_readItems_14 (by decide) ?_
  refine q_istore (L' := [some (.ref l0), some (.ref l1), some (.ref l2), some (.ref l3), some (.int l4), some (.int (0 : Int32)), some (.int (0 : Int32)), none]) C dX3_readItems_15 (by decide) rfl rfl ?_
  obtain ⟨e16, he, h⟩ := q_bind h
  refine q_msk [true, true, true, true, true, true, true, false] (lW_X3_readItems_17 C l0 l1 l2 l3 l4 q_fu _ _ _ _ he (fun M17 hs => ?_) (fun M18 hs => ?_) (fun M19 hs => ?_) (fun M20 hs => ?_))
  · have hs := hs.symm
    subst hs
    refine x_iconst (v := (1 : Int32)) C dX3_readItems_39 (by decide) ?_
    exact q_zret C dX3_readItems_40 rfl (by decide) (by decide) (q_rzE h).1 (q_rzE h).2
  · have hs := hs.symm
    subst hs
    refine x_iconst (v := (0 : Int32)) C dX3_readItems_61 (by decide) ?_
    exact q_zret C dX3_readItems_62 rfl (by decide) (by decide) (q_rzE h).1 (q_rzE h).2
  · have hs := hs.symm
    subst hs
    refine x_iconst (v := (0 : Int32)) C dX3_readItems_104 (by decide) ?_
    exact q_zret C dX3_readItems_105 rfl (by decide) (by decide) (q_rzE h).1 (q_rzE h).2
  · have hs := hs.symm
    subst hs
    refine x_iconst (v := (0 : Int32)) C dX3_readItems_123 (by decide) ?_
    exact q_zret C dX3_readItems_124 rfl (by decide) (by decide) (q_rzE h).1 (q_rzE h).2
noncomputable def J_X3_readClause_85 (l0 : Nat) (l1 : Nat) (M : q_Mem) : Option (Int32 × q_Mem) := (q_gI M l0 3 5 (fun v7 => (if v7 < (6 : Int32) then (q_ob M l1 9 ((F_X9_take l1 (103 : Int32) M).bind (fun x => match x with | (u8, M9) => (if u8 = 0 then q_rz (0 : Int32) M9 else (q_gI M9 l0 3 5 (fun v10 => (q_pI M9 l0 3 5 (v10 + (1 : Int32)) (fun M11 => (q_gR M11 l0 3 2 (fun c12 => q_nn c12 (fun r13 => (q_gI M11 l0 3 5 (fun v14 => ((F_X3_readItems l1 8 2 r13 ((v14 - (1 : Int32)) * (4 : Int32)) M11).bind (fun x => match x with | (u15, M16) => q_rz u15 M16))))))))))))))) else q_rz (0 : Int32) M)))
set_option maxRecDepth 100000 in
set_option maxHeartbeats 4000000 in
theorem jW_X3_readClause_85 {K : q_K} (C : q_C K yX3_readClause cX3_readClause 2 (Option.some Jvm.ClassFile.FieldType.boolean) 11 9 0) (l0 : Nat) (l1 : Nat) (M : q_Mem) {r : Int32} {M' : q_Mem} (h : J_X3_readClause_85 l0 l1 M = some (r, M')) : q_W K 2 (q_Q K (some (.int r)) M' 9 0) 0 0 M 85 [some (.ref l0), some (.ref l1)] [] := by
  unfold J_X3_readClause_85 at h
  refine q_aload_n C dX3_readClause_85 rfl ?_
  refine x_getI (ci := 3) (j := 5) C dX3_readClause_86 lkF_X3_28 rfl h (fun v7 h => ?_)
  refine x_bipush (v := (6 : Int32)) C dX3_readClause_89 (by decide) ?_
  refine q_icmp_ge (tgt := 135) C dX3_readClause_91 (by decide) h (fun _ h => ?_) (fun _ h => ?_)
  · refine q_aload_n C dX3_readClause_94 rfl ?_
    refine x_bipush (v := (103 : Int32)) C dX3_readClause_95 (by decide) ?_
    obtain ⟨hk, h⟩ := q_obE h
    obtain ⟨⟨u8, M9⟩, e1, h⟩ := q_bind h
    refine x_callV0 C dX3_readClause_97 lkM_X3_68 mV_X9_take ⟨_, rfl, rfl⟩ hk (c_X9_take _ _ _ _ _ e1) rfl rfl (Nat.le_of_ble_eq_true rfl) (by decide) (by decide) ?_
    refine q_if_eq (tgt := 135) C dX3_readClause_100 (by decide) h (fun _ h => ?_) (fun _ h => ?_)
    · refine x_iconst (v := (0 : Int32)) C dX3_readClause_135 (by decide) ?_
      exact q_zret C dX3_readClause_136 rfl (by decide) (by decide) (q_rzE h).1 (q_rzE h).2
    · refine q_aload_n C dX3_readClause_103 rfl ?_
      refine q_dup C dX3_readClause_104 rfl ?_
      refine x_getI (ci := 3) (j := 5) C dX3_readClause_105 lkF_X3_28 rfl h (fun v10 h => ?_)
      refine x_iconst (v := (1 : Int32)) C dX3_readClause_108 (by decide) ?_
      refine q_iadd C dX3_readClause_109 ?_
      refine x_putI (ci := 3) (j := 5) C dX3_readClause_110 lkF_X3_28 (fun r hr => by cases hr; rfl) rfl h (fun M11 h => ?_)
      refine q_aload_n C dX3_readClause_113 rfl ?_
      refine q_ldcS (i := 2) C dX3_readClause_114 rfl ?_
      refine q_getsN (w := .ref 2) C dX3_readClause_116 wn_538 (by simp [q_zs, q_cv, q_ad, q_NS]) rfl ?_
      refine q_aload_n C dX3_readClause_119 rfl ?_
      refine x_getR (ci := 3) (j := 2) C dX3_readClause_120 lkF_X3_18 rfl h (fun c12 h => ?_)
      refine x_nn h (fun r13 h => ?_)
      refine q_aload_n C dX3_readClause_123 rfl ?_
      refine x_getI (ci := 3) (j := 5) C dX3_readClause_124 lkF_X3_28 rfl h (fun v14 h => ?_)
      refine x_iconst (v := (1 : Int32)) C dX3_readClause_127 (by decide) ?_
      refine q_isub C dX3_readClause_128 ?_
      refine x_iconst (v := (4 : Int32)) C dX3_readClause_129 (by decide) ?_
      refine q_imul C dX3_readClause_130 ?_
      obtain ⟨⟨u15, M16⟩, e1, h⟩ := q_bind h
      refine x_callS C dX3_readClause_131 lkM_X3_74 mS_X3_readItems (c_X3_readItems _ _ _ _ _ _ _ _ e1) rfl rfl (Nat.le_of_ble_eq_true rfl) (by decide) (by decide) ?_
      exact q_zret C dX3_readClause_134 rfl (by decide) (by decide) (q_rzE h).1 (q_rzE h).2
  · refine x_iconst (v := (0 : Int32)) C dX3_readClause_135 (by decide) ?_
    exact q_zret C dX3_readClause_136 rfl (by decide) (by decide) (q_rzE h).1 (q_rzE h).2
noncomputable def J_X3_readClause_36 (l0 : Nat) (l1 : Nat) (M : q_Mem) : Option (Int32 × q_Mem) := (q_gI M l0 3 4 (fun v4 => (if v4 < (5 : Int32) then (q_ob M l1 9 ((F_X9_take l1 (100 : Int32) M).bind (fun x => match x with | (u5, M6) => (if u5 = 0 then J_X3_readClause_85 l0 l1 M6 else (q_gI M6 l0 3 4 (fun v17 => (q_pI M6 l0 3 4 (v17 + (1 : Int32)) (fun M18 => (q_gR M18 l0 3 1 (fun c19 => q_nn c19 (fun r20 => (q_gI M18 l0 3 4 (fun v21 => ((F_X3_readItems l1 6 1 r20 ((v21 - (1 : Int32)) * (3 : Int32)) M18).bind (fun x => match x with | (u22, M23) => q_rz u22 M23))))))))))))))) else J_X3_readClause_85 l0 l1 M)))
set_option maxRecDepth 100000 in
set_option maxHeartbeats 4000000 in
theorem jW_X3_readClause_36 {K : q_K} (C : q_C K yX3_readClause cX3_readClause 2 (Option.some Jvm.ClassFile.FieldType.boolean) 11 9 0) (l0 : Nat) (l1 : Nat) (M : q_Mem) {r : Int32} {M' : q_Mem} (h : J_X3_readClause_36 l0 l1 M = some (r, M')) : q_W K 2 (q_Q K (some (.int r)) M' 9 0) 0 0 M 36 [some (.ref l0), some (.ref l1)] [] := by
  unfold J_X3_readClause_36 at h
  refine q_aload_n C dX3_readClause_36 rfl ?_
  refine x_getI (ci := 3) (j := 4) C dX3_readClause_37 lkF_X3_24 rfl h (fun v4 h => ?_)
  refine x_iconst (v := (5 : Int32)) C dX3_readClause_40 (by decide) ?_
  refine q_icmp_ge (tgt := 85) C dX3_readClause_41 (by decide) h (fun _ h => ?_) (fun _ h => ?_)
  · refine q_aload_n C dX3_readClause_44 rfl ?_
    refine x_bipush (v := (100 : Int32)) C dX3_readClause_45 (by decide) ?_
    obtain ⟨hk, h⟩ := q_obE h
    obtain ⟨⟨u5, M6⟩, e1, h⟩ := q_bind h
    refine x_callV0 C dX3_readClause_47 lkM_X3_68 mV_X9_take ⟨_, rfl, rfl⟩ hk (c_X9_take _ _ _ _ _ e1) rfl rfl (Nat.le_of_ble_eq_true rfl) (by decide) (by decide) ?_
    refine q_if_eq (tgt := 85) C dX3_readClause_50 (by decide) h (fun _ h => ?_) (fun _ h => ?_)
    · exact q_msk [true, true] (jW_X3_readClause_85 C l0 l1 M6 h)
    · refine q_aload_n C dX3_readClause_53 rfl ?_
      refine q_dup C dX3_readClause_54 rfl ?_
      refine x_getI (ci := 3) (j := 4) C dX3_readClause_55 lkF_X3_24 rfl h (fun v17 h => ?_)
      refine x_iconst (v := (1 : Int32)) C dX3_readClause_58 (by decide) ?_
      refine q_iadd C dX3_readClause_59 ?_
      refine x_putI (ci := 3) (j := 4) C dX3_readClause_60 lkF_X3_24 (fun r hr => by cases hr; rfl) rfl h (fun M18 h => ?_)
      refine q_aload_n C dX3_readClause_63 rfl ?_
      refine q_ldcS (i := 1) C dX3_readClause_64 rfl ?_
      refine q_getsN (w := .ref 1) C dX3_readClause_66 wn_535 (by simp [q_zs, q_cv, q_ad, q_NS]) rfl ?_
      refine q_aload_n C dX3_readClause_69 rfl ?_
      refine x_getR (ci := 3) (j := 1) C dX3_readClause_70 lkF_X3_15 rfl h (fun c19 h => ?_)
      refine x_nn h (fun r20 h => ?_)
      refine q_aload_n C dX3_readClause_73 rfl ?_
      refine x_getI (ci := 3) (j := 4) C dX3_readClause_74 lkF_X3_24 rfl h (fun v21 h => ?_)
      refine x_iconst (v := (1 : Int32)) C dX3_readClause_77 (by decide) ?_
      refine q_isub C dX3_readClause_78 ?_
      refine x_iconst (v := (3 : Int32)) C dX3_readClause_79 (by decide) ?_
      refine q_imul C dX3_readClause_80 ?_
      obtain ⟨⟨u22, M23⟩, e1, h⟩ := q_bind h
      refine x_callS C dX3_readClause_81 lkM_X3_74 mS_X3_readItems (c_X3_readItems _ _ _ _ _ _ _ _ e1) rfl rfl (Nat.le_of_ble_eq_true rfl) (by decide) (by decide) ?_
      exact q_zret C dX3_readClause_84 rfl (by decide) (by decide) (q_rzE h).1 (q_rzE h).2
  · exact q_msk [true, true] (jW_X3_readClause_85 C l0 l1 M h)
noncomputable def F_X3_readClause (l0 : Nat) (l1 : Nat) (M : q_Mem) : Option (Int32 × q_Mem) := (q_gI M l0 3 6 (fun v1 => (if v1 = 0 then (q_ob M l1 9 ((F_X9_take l1 (115 : Int32) M).bind (fun x => match x with | (u2, M3) => (if u2 = 0 then J_X3_readClause_36 l0 l1 M3 else (q_pZ M3 l0 3 6 (1 : Int32) (fun M24 => (q_gR M24 l0 3 0 (fun c25 => q_nn c25 (fun r26 => ((F_X3_readItems l1 4 0 r26 (0 : Int32) M24).bind (fun x => match x with | (u27, M28) => q_rz u27 M28))))))))))) else J_X3_readClause_36 l0 l1 M)))
set_option maxRecDepth 100000 in
set_option maxHeartbeats 4000000 in
theorem c_X3_readClause (l : Launch) (G : q_G) (l0 : Nat) (l1 : Nat) (M : q_Mem) {r : Int32} {M' : q_Mem} (h : F_X3_readClause l0 l1 M = some (r, M')) : q_Met l G yX3_readClause cX3_readClause 2 (Option.some Jvm.ClassFile.FieldType.boolean) 11 9 0 [.ref l0, .ref l1] M (some (.int r)) M' := by
  unfold F_X3_readClause at h
  refine q_enter [some (.ref l0), some (.ref l1)] (by decide) (Nat.le_of_ble_eq_true rfl) rfl (fun K C => ?_)
  refine q_aload_n C dX3_readClause_0 rfl ?_
  refine x_getI (ci := 3) (j := 6) C dX3_readClause_1 lkF_X3_31 rfl h (fun v1 h => ?_)
  refine q_if_ne (tgt := 36) C dX3_readClause_4 (by decide) h (fun _ h => ?_) (fun _ h => ?_)
  · refine q_aload_n C dX3_readClause_7 rfl ?_
    refine x_bipush (v := (115 : Int32)) C dX3_readClause_8 (by decide) ?_
    obtain ⟨hk, h⟩ := q_obE h
    obtain ⟨⟨u2, M3⟩, e1, h⟩ := q_bind h
    refine x_callV0 C dX3_readClause_10 lkM_X3_68 mV_X9_take ⟨_, rfl, rfl⟩ hk (c_X9_take _ _ _ _ _ e1) rfl rfl (Nat.le_of_ble_eq_true rfl) (by decide) (by decide) ?_
    refine q_if_eq (tgt := 36) C dX3_readClause_13 (by decide) h (fun _ h => ?_) (fun _ h => ?_)
    · exact q_msk [true, true] (jW_X3_readClause_36 C l0 l1 M3 h)
    · refine q_aload_n C dX3_readClause_16 rfl ?_
      refine x_iconst (v := (1 : Int32)) C dX3_readClause_17 (by decide) ?_
      refine x_putZ (ci := 3) (j := 6) C dX3_readClause_18 lkF_X3_31 (fun r hr => by cases hr; rfl) rfl h (fun M24 h => ?_)
      refine q_aload_n C dX3_readClause_21 rfl ?_
      refine q_ldcS (i := 0) C dX3_readClause_22 rfl ?_
      refine q_getsN (w := .ref 0) C dX3_readClause_24 wn_415 (by simp [q_zs, q_cv, q_ad, q_NS]) rfl ?_
      refine q_aload_n C dX3_readClause_27 rfl ?_
      refine x_getR (ci := 3) (j := 0) C dX3_readClause_28 lkF_X3_9 rfl h (fun c25 h => ?_)
      refine x_nn h (fun r26 h => ?_)
      refine x_iconst (v := (0 : Int32)) C dX3_readClause_31 (by decide) ?_
      obtain ⟨⟨u27, M28⟩, e1, h⟩ := q_bind h
      refine x_callS C dX3_readClause_32 lkM_X3_74 mS_X3_readItems (c_X3_readItems _ _ _ _ _ _ _ _ e1) rfl rfl (Nat.le_of_ble_eq_true rfl) (by decide) (by decide) ?_
      exact q_zret C dX3_readClause_35 rfl (by decide) (by decide) (q_rzE h).1 (q_rzE h).2
  · exact q_msk [true, true] (jW_X3_readClause_36 C l0 l1 M h)
noncomputable def B_X3_readFrom_29 (l0 : Nat) (l1 : Nat) (l2 : Int32) (M : q_Mem) : Option ((Int32 × q_Mem) ⊕ ((q_Mem) ⊕ ((q_Mem) ⊕ ((q_Mem) ⊕ (q_Mem))))) := (if (12 : Int32) < l2 then some (.inr (.inr (.inr (.inr M)))) else (q_ob M l0 3 ((F_X3_readClause l0 l1 M).bind (fun x => match x with | (u8, M9) => (if u8 = 0 then some (.inr (.inl M9)) else (q_ob M9 l1 9 ((F_X9_peek l1 M9).bind (fun x => match x with | (u10, M11) => (if u10 = (-1 : Int32) then some (.inr (.inr (.inl M11))) else (q_ob M11 l1 9 ((F_X9_take l1 (59 : Int32) M11).bind (fun x => match x with | (u12, M13) => (if u12 = 0 then some (.inr (.inr (.inr (.inl M13)))) else some (.inl ((l2 + (1 : Int32)), M13)))))))))))))))
set_option maxRecDepth 100000 in
set_option maxHeartbeats 4000000 in
theorem bW_X3_readFrom_29 {K : q_K} {Q : State → Prop} (C : q_C K yX3_readFrom cX3_readFrom 3 (Option.some Jvm.ClassFile.FieldType.boolean) 12 9 0) (l0 : Nat) (l1 : Nat) (l2 : Int32) (M : q_Mem) {stp : (Int32 × q_Mem) ⊕ ((q_Mem) ⊕ ((q_Mem) ⊕ ((q_Mem) ⊕ (q_Mem))))} (h : B_X3_readFrom_29 l0 l1 l2 M = some stp) (kC : ∀ (l2 : Int32) (M : q_Mem), stp = .inl (l2, M) → q_W K 3 Q 0 0 M 29 [some (.ref l0), some (.ref l1), some (.int l2)] []) (kE0 : ∀ (M : q_Mem), stp = .inr (.inl M) → q_W K 3 Q 0 0 M 43 [none, none, none] []) (kE1 : ∀ (M : q_Mem), stp = .inr (.inr (.inl M)) → q_W K 3 Q 0 0 M 53 [some (.ref l0), none, none] []) (kE2 : ∀ (M : q_Mem), stp = .inr (.inr (.inr (.inl M))) → q_W K 3 Q 0 0 M 82 [none, none, none] []) (kE3 : ∀ (M : q_Mem), stp = .inr (.inr (.inr (.inr M))) → q_W K 3 Q 0 0 M 90 [none, none, none] []) : q_W K 3 Q 0 0 M 29 [some (.ref l0), some (.ref l1), some (.int l2)] [] := by
  unfold B_X3_readFrom_29 at h
  refine q_iload_n C dX3_readFrom_29 rfl ?_
  refine x_bipush (v := (12 : Int32)) C dX3_readFrom_30 (by decide) ?_
  refine q_icmp_gt (tgt := 90) C dX3_readFrom_32 (by decide) h (fun _ h => ?_) (fun _ h => ?_)
  · exact q_msk [false, false, false] (kE3 _ (Option.some.inj h).symm)
  · refine q_aload_n C dX3_readFrom_35 rfl ?_
    refine q_aload_n C dX3_readFrom_36 rfl ?_
    obtain ⟨hk, h⟩ := q_obE h
    obtain ⟨⟨u8, M9⟩, e1, h⟩ := q_bind h
    refine x_callV C dX3_readFrom_37 lkM_X3_58 mV_X3_readClause ⟨_, rfl, rfl⟩ hk (c_X3_readClause _ _ _ _ _ e1) rfl rfl (Nat.le_of_ble_eq_true rfl) (by decide) (by decide) ?_
    refine q_if_ne (tgt := 45) C dX3_readFrom_40 (by decide) h (fun _ h => ?_) (fun _ h => ?_)
    · exact q_msk [false, false, false] (kE0 _ (Option.some.inj h).symm)
    · refine q_aload_n C dX3_readFrom_45 rfl ?_
      obtain ⟨hk, h⟩ := q_obE h
      obtain ⟨⟨u10, M11⟩, e1, h⟩ := q_bind h
      refine x_callV0 C dX3_readFrom_46 lkM_X3_62 mV_X9_peek ⟨_, rfl, rfl⟩ hk (c_X9_peek _ _ _ _ e1) rfl rfl (Nat.le_of_ble_eq_true rfl) (by decide) (by decide) ?_
      refine x_iconst (v := (-1 : Int32)) C dX3_readFrom_49 (by decide) ?_
      refine q_icmp_ne (tgt := 73) C dX3_readFrom_50 (by decide) h (fun _ h => ?_) (fun _ h => ?_)
      · exact q_msk [true, false, false] (kE1 _ (Option.some.inj h).symm)
      · refine q_aload_n C dX3_readFrom_73 rfl ?_
        refine x_bipush (v := (59 : Int32)) C dX3_readFrom_74 (by decide) ?_
        obtain ⟨hk, h⟩ := q_obE h
        obtain ⟨⟨u12, M13⟩, e1, h⟩ := q_bind h
        refine x_callV0 C dX3_readFrom_76 lkM_X3_68 mV_X9_take ⟨_, rfl, rfl⟩ hk (c_X9_take _ _ _ _ _ e1) rfl rfl (Nat.le_of_ble_eq_true rfl) (by decide) (by decide) ?_
        refine q_if_ne (tgt := 84) C dX3_readFrom_79 (by decide) h (fun _ h => ?_) (fun _ h => ?_)
        · exact q_msk [false, false, false] (kE2 _ (Option.some.inj h).symm)
        · refine x_iinc (w := (1 : Int32)) (L' := [some (.ref l0), some (.ref l1), some (.int (l2 + (1 : Int32)))]) C dX3_readFrom_84 rfl (by decide) (by decide) rfl rfl ?_
          refine q_goto (tgt := 29) C dX3_readFrom_87 (by decide) ?_
          exact q_msk [true, true, true] (kC _ _ (Option.some.inj h).symm)
set_option maxRecDepth 100000 in
set_option maxHeartbeats 4000000 in
theorem lW_X3_readFrom_29 {K : q_K} {Q : State → Prop} (C : q_C K yX3_readFrom cX3_readFrom 3 (Option.some Jvm.ClassFile.FieldType.boolean) 12 9 0) (l0 : Nat) (l1 : Nat) (n : Nat) : ∀ (l2 : Int32) (M : q_Mem) (e : ((q_Mem) ⊕ ((q_Mem) ⊕ ((q_Mem) ⊕ (q_Mem))))), q_lp (fun s => B_X3_readFrom_29 l0 l1 s.1 s.2) n (l2, M) = some e → (∀ (M : q_Mem), e = (.inl M) → q_W K 3 Q 0 0 M 43 [none, none, none] []) → (∀ (M : q_Mem), e = (.inr (.inl M)) → q_W K 3 Q 0 0 M 53 [some (.ref l0), none, none] []) → (∀ (M : q_Mem), e = (.inr (.inr (.inl M))) → q_W K 3 Q 0 0 M 82 [none, none, none] []) → (∀ (M : q_Mem), e = (.inr (.inr (.inr M))) → q_W K 3 Q 0 0 M 90 [none, none, none] []) → q_W K 3 Q 0 0 M 29 [some (.ref l0), some (.ref l1), some (.int l2)] [] := by
  induction n with
  | zero => intro l2 M e h; cases h
  | succ n ih =>
    intro l2 M e h kE0 kE1 kE2 kE3
    obtain ⟨stp, e1, e2⟩ := q_bind h
    refine bW_X3_readFrom_29 C l0 l1 l2 M e1 (fun a0 a1 hs => ?_) (fun b0 hs => ?_) (fun b0 hs => ?_) (fun b0 hs => ?_) (fun b0 hs => ?_)
    · subst hs; exact ih _ _ _ e2 kE0 kE1 kE2 kE3
    · subst hs; exact kE0 _ (Option.some.inj e2).symm
    · subst hs; exact kE1 _ (Option.some.inj e2).symm
    · subst hs; exact kE2 _ (Option.some.inj e2).symm
    · subst hs; exact kE3 _ (Option.some.inj e2).symm
noncomputable def F_X3_readFrom (l0 : Nat) (l1 : Nat) (M : q_Mem) : Option (Int32 × q_Mem) := (q_pI M l0 3 4 (0 : Int32) (fun M1 => (q_pI M1 l0 3 5 (0 : Int32) (fun M2 => (q_pZ M2 l0 3 6 (0 : Int32) (fun M3 => (q_gR M3 l0 3 0 (fun c4 => q_nn c4 (fun r5 => ((F_X3_setUsual 0 r5 (0 : Int32) (3 : Int32) M3).bind (fun x => match x with | (_, M7) => (q_lp (fun s => B_X3_readFrom_29 l0 l1 s.1 s.2) q_fu ((0 : Int32), M7)).bind (fun e14 => match e14 with | .inl M15 => q_rz (0 : Int32) M15 | .inr (.inl M16) => (q_gI M16 l0 3 4 (fun v17 => (if 0 < v17 then (q_gI M16 l0 3 5 (fun v18 => (if 0 < v18 then q_rz (1 : Int32) M16 else q_rz (0 : Int32) M16))) else q_rz (0 : Int32) M16))) | .inr (.inr (.inl M19)) => q_rz (0 : Int32) M19 | .inr (.inr (.inr M20)) => q_rz (0 : Int32) M20))))))))))))
set_option maxRecDepth 100000 in
set_option maxHeartbeats 4000000 in
theorem c_X3_readFrom (l : Launch) (G : q_G) (l0 : Nat) (l1 : Nat) (M : q_Mem) {r : Int32} {M' : q_Mem} (h : F_X3_readFrom l0 l1 M = some (r, M')) : q_Met l G yX3_readFrom cX3_readFrom 3 (Option.some Jvm.ClassFile.FieldType.boolean) 12 9 0 [.ref l0, .ref l1] M (some (.int r)) M' := by
  unfold F_X3_readFrom at h
  refine q_enter [some (.ref l0), some (.ref l1), none] (by decide) (Nat.le_of_ble_eq_true rfl) rfl (fun K C => ?_)
  refine q_aload_n C dX3_readFrom_0 rfl ?_
  refine x_iconst (v := (0 : Int32)) C dX3_readFrom_1 (by decide) ?_
  refine x_putI (ci := 3) (j := 4) C dX3_readFrom_2 lkF_X3_24 (fun r hr => by cases hr; rfl) rfl h (fun M1 h => ?_)
  refine q_aload_n C dX3_readFrom_5 rfl ?_
  refine x_iconst (v := (0 : Int32)) C dX3_readFrom_6 (by decide) ?_
  refine x_putI (ci := 3) (j := 5) C dX3_readFrom_7 lkF_X3_28 (fun r hr => by cases hr; rfl) rfl h (fun M2 h => ?_)
  refine q_aload_n C dX3_readFrom_10 rfl ?_
  refine x_iconst (v := (0 : Int32)) C dX3_readFrom_11 (by decide) ?_
  refine x_putZ (ci := 3) (j := 6) C dX3_readFrom_12 lkF_X3_31 (fun r hr => by cases hr; rfl) rfl h (fun M3 h => ?_)
  refine q_getsN (w := .ref 0) C dX3_readFrom_15 wn_415 (by simp [q_zs, q_cv, q_ad, q_NS]) rfl ?_
  refine q_aload_n C dX3_readFrom_18 rfl ?_
  refine x_getR (ci := 3) (j := 0) C dX3_readFrom_19 lkF_X3_9 rfl h (fun c4 h => ?_)
  refine x_nn h (fun r5 h => ?_)
  refine x_iconst (v := (0 : Int32)) C dX3_readFrom_22 (by decide) ?_
  refine x_iconst (v := (3 : Int32)) C dX3_readFrom_23 (by decide) ?_
  obtain ⟨⟨_, M7⟩, e1, h⟩ := q_bind h
  refine x_callSv0 C dX3_readFrom_24 lkM_X3_54 mS_X3_setUsual (c_X3_setUsual _ _ _ _ _ _ _ e1) rfl rfl (Nat.le_of_ble_eq_true rfl) (by decide) (by decide) ?_
  refine x_iconst (v := (0 : Int32)) C dX3_readFrom_27 (by decide) ?_
  refine q_istore_n (L' := [some (.ref l0), some (.ref l1), some (.int (0 : Int32))]) C dX3_readFrom_28 (by decide) rfl rfl ?_
  obtain ⟨e14, he, h⟩ := q_bind h
  refine q_msk [true, true, true] (lW_X3_readFrom_29 C l0 l1 q_fu _ _ _ he (fun M15 hs => ?_) (fun M16 hs => ?_) (fun M19 hs => ?_) (fun M20 hs => ?_))
  · have hs := hs.symm
    subst hs
    refine x_iconst (v := (0 : Int32)) C dX3_readFrom_43 (by decide) ?_
    exact q_zret C dX3_readFrom_44 rfl (by decide) (by decide) (q_rzE h).1 (q_rzE h).2
  · have hs := hs.symm
    subst hs
    refine q_aload_n C dX3_readFrom_53 rfl ?_
    refine x_getI (ci := 3) (j := 4) C dX3_readFrom_54 lkF_X3_24 rfl h (fun v17 h => ?_)
    refine q_if_le (tgt := 71) C dX3_readFrom_57 (by decide) h (fun _ h => ?_) (fun _ h => ?_)
    · refine q_aload_n C dX3_readFrom_60 rfl ?_
      refine x_getI (ci := 3) (j := 5) C dX3_readFrom_61 lkF_X3_28 rfl h (fun v18 h => ?_)
      refine q_if_le (tgt := 71) C dX3_readFrom_64 (by decide) h (fun _ h => ?_) (fun _ h => ?_)
      · refine x_iconst (v := (1 : Int32)) C dX3_readFrom_67 (by decide) ?_
        refine q_goto (tgt := 72) C dX3_readFrom_68 (by decide) ?_
        exact q_zret C dX3_readFrom_72 rfl (by decide) (by decide) (q_rzE h).1 (q_rzE h).2
      · refine x_iconst (v := (0 : Int32)) C dX3_readFrom_71 (by decide) ?_
        exact q_zret C dX3_readFrom_72 rfl (by decide) (by decide) (q_rzE h).1 (q_rzE h).2
    · refine x_iconst (v := (0 : Int32)) C dX3_readFrom_71 (by decide) ?_
      exact q_zret C dX3_readFrom_72 rfl (by decide) (by decide) (q_rzE h).1 (q_rzE h).2
  · have hs := hs.symm
    subst hs
    refine x_iconst (v := (0 : Int32)) C dX3_readFrom_82 (by decide) ?_
    exact q_zret C dX3_readFrom_83 rfl (by decide) (by decide) (q_rzE h).1 (q_rzE h).2
  · have hs := hs.symm
    subst hs
    refine x_iconst (v := (0 : Int32)) C dX3_readFrom_90 (by decide) ?_
    exact q_zret C dX3_readFrom_91 rfl (by decide) (by decide) (q_rzE h).1 (q_rzE h).2
noncomputable def F_X4_init (l0 : Nat) (l1 : Nat) (M : q_Mem) : Option (Unit × q_Mem) := (q_nA M 0 (32 : Int32) 32 (fun k1 M2 => (q_pR M2 l0 4 1 (k1 + 1) (fun M3 => (q_pR M3 l0 4 0 (l1 + 1) (fun M4 => some ((), M4)))))))
set_option maxRecDepth 100000 in
set_option maxHeartbeats 4000000 in
theorem c_X4_init (l : Launch) (G : q_G) (l0 : Nat) (l1 : Nat) (M : q_Mem) {r : Unit} {M' : q_Mem} (h : F_X4_init l0 l1 M = some (r, M')) : q_Met l G yX4_init cX4_init 2 (Option.none : Option Jvm.ClassFile.FieldType) 2 1 32 [.ref l0, .ref l1] M none M' := by
  unfold F_X4_init at h
  refine q_enter [some (.ref l0), some (.ref l1)] (by decide) (Nat.le_of_ble_eq_true rfl) rfl (fun K C => ?_)
  refine q_aload_n C dX4_init_0 rfl ?_
  refine q_objI C dX4_init_1 wd_667 wd_33 wd_34 (by decide) (Nat.le_of_ble_eq_true rfl) ?_
  refine q_aload_n C dX4_init_4 rfl ?_
  refine x_bipush (v := (32 : Int32)) C dX4_init_5 (by decide) ?_
  refine x_newa C dX4_init_7 (by simp) wd_103 (by decide) h (by decide) (fun k1 M2 h => ?_)
  refine x_putR (ci := 4) (j := 1) (k1 + 1) C dX4_init_9 lkF_X4_9 (fun r hr => by cases hr; exact Or.inr ⟨rfl, rfl, wd_669⟩) (Or.inr ⟨_, rfl⟩) rfl h (fun M3 h => ?_)
  refine q_aload_n C dX4_init_12 rfl ?_
  refine q_aload_n C dX4_init_13 rfl ?_
  refine x_putR (ci := 4) (j := 0) (l1 + 1) C dX4_init_14 lkF_X4_15 (fun r hr => by cases hr; exact Or.inr ⟨rfl, rfl, wd_668⟩) (Or.inr ⟨_, rfl⟩) rfl h (fun M4 h => ?_)
  exact q_vret C dX4_init_17 rfl (by decide) (by decide) (Option.some.inj h)
noncomputable def F_X5_init (l0 : Nat) (l1 : Nat) (M : q_Mem) : Option (Unit × q_Mem) := (q_nA M 0 (240 : Int32) 240 (fun k1 M2 => (q_pR M2 l0 5 1 (k1 + 1) (fun M3 => (q_pI M3 l0 5 2 (0 : Int32) (fun M4 => (q_pR M4 l0 5 0 (l1 + 1) (fun M5 => some ((), M5)))))))))
set_option maxRecDepth 100000 in
set_option maxHeartbeats 4000000 in
theorem c_X5_init (l : Launch) (G : q_G) (l0 : Nat) (l1 : Nat) (M : q_Mem) {r : Unit} {M' : q_Mem} (h : F_X5_init l0 l1 M = some (r, M')) : q_Met l G yX5_init cX5_init 2 (Option.none : Option Jvm.ClassFile.FieldType) 2 1 240 [.ref l0, .ref l1] M none M' := by
  unfold F_X5_init at h
  refine q_enter [some (.ref l0), some (.ref l1)] (by decide) (Nat.le_of_ble_eq_true rfl) rfl (fun K C => ?_)
  refine q_aload_n C dX5_init_0 rfl ?_
  refine q_objI C dX5_init_1 wd_109 wd_33 wd_34 (by decide) (Nat.le_of_ble_eq_true rfl) ?_
  refine q_aload_n C dX5_init_4 rfl ?_
  refine x_sipush (v := (240 : Int32)) C dX5_init_5 (by decide) ?_
  refine x_newa C dX5_init_8 (by simp) wd_103 (by decide) h (by decide) (fun k1 M2 h => ?_)
  refine x_putR (ci := 5) (j := 1) (k1 + 1) C dX5_init_10 lkF_X5_9 (fun r hr => by cases hr; exact Or.inr ⟨rfl, rfl, wd_111⟩) (Or.inr ⟨_, rfl⟩) rfl h (fun M3 h => ?_)
  refine q_aload_n C dX5_init_13 rfl ?_
  refine x_iconst (v := (0 : Int32)) C dX5_init_14 (by decide) ?_
  refine x_putI (ci := 5) (j := 2) C dX5_init_15 lkF_X5_15 (fun r hr => by cases hr; rfl) rfl h (fun M4 h => ?_)
  refine q_aload_n C dX5_init_18 rfl ?_
  refine q_aload_n C dX5_init_19 rfl ?_
  refine x_putR (ci := 5) (j := 0) (l1 + 1) C dX5_init_20 lkF_X5_19 (fun r hr => by cases hr; exact Or.inr ⟨rfl, rfl, wd_110⟩) (Or.inl ⟨_, rfl⟩) rfl h (fun M5 h => ?_)
  exact q_vret C dX5_init_23 rfl (by decide) (by decide) (Option.some.inj h)
noncomputable def F_J7_copyOf_59c91 (l0 : Nat) (l1 : Int32) (M : q_Mem) : Option (Nat × q_Mem) := (q_al M l0 (fun v1 => (if l1 = v1 then none else (q_nA M 0 l1 240 (fun k2 M3 => (q_al M3 l0 (fun v4 => (q_cp M3 l0 (0 : Int32) k2 (0 : Int32) (q_mn v4 l1) (fun M5 => some ((k2 + 1), M5))))))))))
set_option maxRecDepth 100000 in
set_option maxHeartbeats 4000000 in
theorem c_J7_copyOf_59c91 (l : Launch) (G : q_G) (l0 : Nat) (l1 : Int32) (M : q_Mem) {r : Nat} {M' : q_Mem} (h : F_J7_copyOf_59c91 l0 l1 M = some (r, M')) : q_Met l G yJ7_copyOf_59c91 cJ7_copyOf_59c91 3 (Option.some (Jvm.ClassFile.FieldType.array Jvm.ClassFile.FieldType.int)) 2 1 240 [.ref l0, .int l1] M (some (q_rc r)) M' := by
  unfold F_J7_copyOf_59c91 at h
  refine q_enter [some (.ref l0), some (.int l1), none] (by decide) (Nat.le_of_ble_eq_true rfl) rfl (fun K C => ?_)
  refine q_iload_n C dJ7_copyOf_59c91_0 rfl ?_
  refine q_aload_n C dJ7_copyOf_59c91_1 rfl ?_
  refine x_alen C dJ7_copyOf_59c91_2 h (fun v1 h => ?_)
  refine q_icmp_ne (tgt := 14) C dJ7_copyOf_59c91_3 (by decide) h (fun _ h => ?_) (fun _ h => ?_)
  · refine q_aload_n C dJ7_copyOf_59c91_6 rfl ?_
    cases h
  · refine q_iload_n C dJ7_copyOf_59c91_14 rfl ?_
    refine x_newa C dJ7_copyOf_59c91_15 (by simp) wd_103 (by decide) h (by decide) (fun k2 M3 h => ?_)
    refine q_astore_n (L' := [some (.ref l0), some (.int l1), some (.ref k2)]) C dJ7_copyOf_59c91_17 (by decide) rfl rfl ?_
    refine q_aload_n C dJ7_copyOf_59c91_18 rfl ?_
    refine x_iconst (v := (0 : Int32)) C dJ7_copyOf_59c91_19 (by decide) ?_
    refine q_aload_n C dJ7_copyOf_59c91_20 rfl ?_
    refine x_iconst (v := (0 : Int32)) C dJ7_copyOf_59c91_21 (by decide) ?_
    refine q_aload_n C dJ7_copyOf_59c91_22 rfl ?_
    refine x_alen C dJ7_copyOf_59c91_23 h (fun v4 h => ?_)
    refine q_iload_n C dJ7_copyOf_59c91_24 rfl ?_
    refine q_min C dJ7_copyOf_59c91_25 wd_662 wd_473 wd_15 wd_474 (by decide) (Nat.le_of_ble_eq_true rfl) (by decide) ?_
    refine x_copy C dJ7_copyOf_59c91_28 wd_663 wd_626 wd_625 wd_19 (by decide) (Nat.le_of_ble_eq_true rfl) h (fun M5 h => ?_)
    refine q_aload_n C dJ7_copyOf_59c91_31 rfl ?_
    exact q_aret (x := (k2 + 1)) C dJ7_copyOf_59c91_32 rfl (Or.inr ⟨_, rfl⟩) (by decide) (by decide) (Option.some.inj h)
noncomputable def F_X5_written (l0 : Nat) (M : q_Mem) : Option (Nat × q_Mem) := (q_gR M l0 5 1 (fun c1 => q_nn c1 (fun r2 => (q_gI M l0 5 2 (fun v3 => ((F_J7_copyOf_59c91 r2 v3 M).bind (fun x => match x with | (u4, M5) => some (u4, M5))))))))
set_option maxRecDepth 100000 in
set_option maxHeartbeats 4000000 in
theorem c_X5_written (l : Launch) (G : q_G) (l0 : Nat) (M : q_Mem) {r : Nat} {M' : q_Mem} (h : F_X5_written l0 M = some (r, M')) : q_Met l G yX5_written cX5_written 1 (Option.some (Jvm.ClassFile.FieldType.array Jvm.ClassFile.FieldType.int)) 3 1 240 [.ref l0] M (some (q_rc r)) M' := by
  unfold F_X5_written at h
  refine q_enter [some (.ref l0)] (by decide) (Nat.le_of_ble_eq_true rfl) rfl (fun K C => ?_)
  refine q_aload_n C dX5_written_0 rfl ?_
  refine x_getR (ci := 5) (j := 1) C dX5_written_1 lkF_X5_9 rfl h (fun c1 h => ?_)
  refine x_nn h (fun r2 h => ?_)
  refine q_aload_n C dX5_written_4 rfl ?_
  refine x_getI (ci := 5) (j := 2) C dX5_written_5 lkF_X5_15 rfl h (fun v3 h => ?_)
  obtain ⟨⟨u4, M5⟩, e1, h⟩ := q_bind h
  refine x_callS C dX5_written_8 lkM_X5_23 mS_J7_copyOf_59c91 (c_J7_copyOf_59c91 _ _ _ _ _ e1) rfl rfl (Nat.le_of_ble_eq_true rfl) (by decide) (by decide) ?_
  exact q_aret (x := u4) C dX5_written_11 rfl (Or.inr ⟨_, rfl⟩) (by decide) (by decide) (Option.some.inj h)
noncomputable def F_X5_write (l0 : Nat) (l1 : Int32) (M : q_Mem) : Option (Unit × q_Mem) := (q_gI M l0 5 2 (fun v1 => (q_gR M l0 5 1 (fun c2 => q_nn c2 (fun r3 => (q_al M r3 (fun v4 => (if v1 < v4 then (q_gR M l0 5 1 (fun c5 => q_nn c5 (fun r6 => (q_gI M l0 5 2 (fun v7 => (q_tI M r6 v7 l1 (fun M8 => (q_gI M8 l0 5 2 (fun v9 => (q_pI M8 l0 5 2 (v9 + (1 : Int32)) (fun M10 => some ((), M10)))))))))))) else some ((), M)))))))))
set_option maxRecDepth 100000 in
set_option maxHeartbeats 4000000 in
theorem c_X5_write (l : Launch) (G : q_G) (l0 : Nat) (l1 : Int32) (M : q_Mem) {r : Unit} {M' : q_Mem} (h : F_X5_write l0 l1 M = some (r, M')) : q_Met l G yX5_write cX5_write 2 (Option.none : Option Jvm.ClassFile.FieldType) 1 0 0 [.ref l0, .int l1] M none M' := by
  unfold F_X5_write at h
  refine q_enter [some (.ref l0), some (.int l1)] (by decide) (Nat.le_of_ble_eq_true rfl) rfl (fun K C => ?_)
  refine q_aload_n C dX5_write_0 rfl ?_
  refine x_getI (ci := 5) (j := 2) C dX5_write_1 lkF_X5_15 rfl h (fun v1 h => ?_)
  refine q_aload_n C dX5_write_4 rfl ?_
  refine x_getR (ci := 5) (j := 1) C dX5_write_5 lkF_X5_9 rfl h (fun c2 h => ?_)
  refine x_nn h (fun r3 h => ?_)
  refine x_alen C dX5_write_8 h (fun v4 h => ?_)
  refine q_icmp_ge (tgt := 32) C dX5_write_9 (by decide) h (fun _ h => ?_) (fun _ h => ?_)
  · refine q_aload_n C dX5_write_12 rfl ?_
    refine x_getR (ci := 5) (j := 1) C dX5_write_13 lkF_X5_9 rfl h (fun c5 h => ?_)
    refine x_nn h (fun r6 h => ?_)
    refine q_aload_n C dX5_write_16 rfl ?_
    refine x_getI (ci := 5) (j := 2) C dX5_write_17 lkF_X5_15 rfl h (fun v7 h => ?_)
    refine q_iload_n C dX5_write_20 rfl ?_
    refine x_iast C dX5_write_21 h (fun M8 h => ?_)
    refine q_aload_n C dX5_write_22 rfl ?_
    refine q_dup C dX5_write_23 rfl ?_
    refine x_getI (ci := 5) (j := 2) C dX5_write_24 lkF_X5_15 rfl h (fun v9 h => ?_)
    refine x_iconst (v := (1 : Int32)) C dX5_write_27 (by decide) ?_
    refine q_iadd C dX5_write_28 ?_
    refine x_putI (ci := 5) (j := 2) C dX5_write_29 lkF_X5_15 (fun r hr => by cases hr; rfl) rfl h (fun M10 h => ?_)
    exact q_vret C dX5_write_32 rfl (by decide) (by decide) (Option.some.inj h)
  · exact q_vret C dX5_write_32 rfl (by decide) (by decide) (Option.some.inj h)
def Hr_X5_readAtom (n0 : Nat) (rec : (Nat → Nat → Int32 → q_Mem → Option (Int32 × q_Mem))) : Prop := ∀ (l : Launch) (G : q_G), (∀ (a0 : Nat) (a1 : Int32) (M : q_Mem) (r : Int32) (M' : q_Mem), rec 0 a0 a1 M = some (r, M') → q_Met l G yX5_readAtom cX5_readAtom 3 (Option.some Jvm.ClassFile.FieldType.boolean) (n0 + 10) 0 0 [.ref a0, .int a1] M (some (.int r)) M') ∧ (∀ (a0 : Nat) (a1 : Int32) (M : q_Mem) (r : Int32) (M' : q_Mem), rec 1 a0 a1 M = some (r, M') → q_Met l G yX5_readSum cX5_readSum 4 (Option.some Jvm.ClassFile.FieldType.boolean) (n0 + 10) 0 0 [.ref a0, .int a1] M (some (.int r)) M') ∧ (∀ (a0 : Nat) (a1 : Int32) (M : q_Mem) (r : Int32) (M' : q_Mem), rec 2 a0 a1 M = some (r, M') → q_Met l G yX5_readTerm cX5_readTerm 4 (Option.some Jvm.ClassFile.FieldType.boolean) (n0 + 10) 0 0 [.ref a0, .int a1] M (some (.int r)) M')
noncomputable def J_X5_readAtom_84 (rec : (Nat → Nat → Int32 → q_Mem → Option (Int32 × q_Mem))) (l0 : Nat) (M : q_Mem) : Option (Int32 × q_Mem) := (q_gR M l0 5 0 (fun c9 => q_nn c9 (fun r10 => (q_ob M r10 9 ((F_X9_readNumber r10 (4 : Int32) (0 : Int32) (9999 : Int32) M).bind (fun x => match x with | (u11, M12) => (if u11 = 0 then q_rz (0 : Int32) M12 else (q_gR M12 l0 5 0 (fun c13 => q_nn c13 (fun r14 => (q_gI M12 r14 9 3 (fun v15 => (q_ob M12 l0 5 ((F_X5_write l0 v15 M12).bind (fun x => match x with | (_, M17) => q_rz (1 : Int32) M17)))))))))))))))
set_option maxRecDepth 100000 in
set_option maxHeartbeats 4000000 in
theorem jW_X5_readAtom_84 {K : q_K} {n0 : Nat} (C : q_C K yX5_readAtom cX5_readAtom 3 (Option.some Jvm.ClassFile.FieldType.boolean) (n0 + 10 + 1) 3 0) {rec : (Nat → Nat → Int32 → q_Mem → Option (Int32 × q_Mem))} (hr : Hr_X5_readAtom n0 rec) (l0 : Nat) (M : q_Mem) {r : Int32} {M' : q_Mem} (h : J_X5_readAtom_84 rec l0 M = some (r, M')) : q_W K 3 (q_Q K (some (.int r)) M' 3 0) 0 0 M 84 [some (.ref l0), none, none] [] := by
  unfold J_X5_readAtom_84 at h
  refine q_aload_n C dX5_readAtom_84 rfl ?_
  refine x_getR (ci := 5) (j := 0) C dX5_readAtom_85 lkF_X5_19 rfl h (fun c9 h => ?_)
  refine x_nn h (fun r10 h => ?_)
  refine x_iconst (v := (4 : Int32)) C dX5_readAtom_88 (by decide) ?_
  refine x_iconst (v := (0 : Int32)) C dX5_readAtom_89 (by decide) ?_
  refine x_sipush (v := (9999 : Int32)) C dX5_readAtom_90 (by decide) ?_
  obtain ⟨hk, h⟩ := q_obE h
  obtain ⟨⟨u11, M12⟩, e1, h⟩ := q_bind h
  refine x_callV0 C dX5_readAtom_93 lkM_X5_87 mV_X9_readNumber ⟨_, rfl, rfl⟩ hk (c_X9_readNumber _ _ _ _ _ _ _ e1) rfl rfl (Nat.le_of_ble_eq_true rfl) (⟨by omega, by decide⟩) (by decide) ?_
  refine q_if_ne (tgt := 101) C dX5_readAtom_96 (by decide) h (fun _ h => ?_) (fun _ h => ?_)
  · refine x_iconst (v := (0 : Int32)) C dX5_readAtom_99 (by decide) ?_
    exact q_zret C dX5_readAtom_100 rfl (by decide) (by decide) (q_rzE h).1 (q_rzE h).2
  · refine q_aload_n C dX5_readAtom_101 rfl ?_
    refine q_aload_n C dX5_readAtom_102 rfl ?_
    refine x_getR (ci := 5) (j := 0) C dX5_readAtom_103 lkF_X5_19 rfl h (fun c13 h => ?_)
    refine x_nn h (fun r14 h => ?_)
    refine x_getI (ci := 9) (j := 3) C dX5_readAtom_106 lkF_X5_91 rfl h (fun v15 h => ?_)
    obtain ⟨hk, h⟩ := q_obE h
    obtain ⟨⟨_, M17⟩, e1, h⟩ := q_bind h
    refine x_callVv0 C dX5_readAtom_109 lkM_X5_55 mV_X5_write ⟨_, rfl, rfl⟩ hk (c_X5_write _ _ _ _ _ e1) rfl rfl (Nat.le_of_ble_eq_true rfl) (⟨by omega, by decide⟩) (by decide) ?_
    refine x_iconst (v := (1 : Int32)) C dX5_readAtom_112 (by decide) ?_
    exact q_zret C dX5_readAtom_113 rfl (by decide) (by decide) (q_rzE h).1 (q_rzE h).2
noncomputable def F_X5_readAtom (rec : (Nat → Nat → Int32 → q_Mem → Option (Int32 × q_Mem))) (l0 : Nat) (l1 : Int32) (M : q_Mem) : Option (Int32 × q_Mem) := (q_gR M l0 5 0 (fun c1 => q_nn c1 (fun r2 => (q_ob M r2 9 ((F_X9_peekAmong r2 18 M).bind (fun x => match x with | (u3, M4) => (if u3 = (-1 : Int32) then (if l1 < (6 : Int32) then (q_gR M4 l0 5 0 (fun c5 => q_nn c5 (fun r6 => (q_ob M4 r6 9 ((F_X9_take r6 (91 : Int32) M4).bind (fun x => match x with | (u7, M8) => (if u7 = 0 then J_X5_readAtom_84 rec l0 M8 else (q_ob M8 l0 5 ((rec 1 l0 (l1 + (1 : Int32)) M8).bind (fun x => match x with | (u18, M19) => (if u18 = 0 then q_rz (0 : Int32) M19 else (q_gR M19 l0 5 0 (fun c20 => q_nn c20 (fun r21 => (q_ob M19 r21 9 ((F_X9_take r21 (93 : Int32) M19).bind (fun x => match x with | (u22, M23) => (if u22 = 0 then q_rz (0 : Int32) M23 else q_rz (1 : Int32) M23)))))))))))))))))) else J_X5_readAtom_84 rec l0 M4) else (q_gR M4 l0 5 0 (fun c24 => q_nn c24 (fun r25 => (q_gI M4 r25 9 2 (fun v26 => (q_pI M4 r25 9 2 (v26 + (1 : Int32)) (fun M27 => (q_ob M27 l0 5 ((F_X5_write l0 ((-6 : Int32) + u3) M27).bind (fun x => match x with | (_, M29) => q_rz (1 : Int32) M29)))))))))))))))))
set_option maxRecDepth 100000 in
set_option maxHeartbeats 4000000 in
theorem cr_X5_readAtom {l : Launch} {G : q_G} {n0 : Nat} {rec : (Nat → Nat → Int32 → q_Mem → Option (Int32 × q_Mem))} (hr : Hr_X5_readAtom n0 rec) (l0 : Nat) (l1 : Int32) (M : q_Mem) {r : Int32} {M' : q_Mem} (h : F_X5_readAtom rec l0 l1 M = some (r, M')) : q_Met l G yX5_readAtom cX5_readAtom 3 (Option.some Jvm.ClassFile.FieldType.boolean) (n0 + 10 + 1) 3 0 [.ref l0, .int l1] M (some (.int r)) M' := by
  unfold F_X5_readAtom at h
  refine q_enter [some (.ref l0), some (.int l1), none] (by decide) (Nat.le_of_ble_eq_true rfl) rfl (fun K C => ?_)
  refine q_aload_n C dX5_readAtom_0 rfl ?_
  refine x_getR (ci := 5) (j := 0) C dX5_readAtom_1 lkF_X5_19 rfl h (fun c1 h => ?_)
  refine x_nn h (fun r2 h => ?_)
  refine q_ldcS (i := 7) C dX5_readAtom_4 rfl ?_
  obtain ⟨hk, h⟩ := q_obE h
  obtain ⟨⟨u3, M4⟩, e1, h⟩ := q_bind h
  refine x_callV C dX5_readAtom_6 lkM_X5_45 mV_X9_peekAmong ⟨_, rfl, rfl⟩ hk (c_X9_peekAmong _ _ _ _ _ e1) rfl rfl (Nat.le_of_ble_eq_true rfl) (⟨by omega, by decide⟩) (by decide) ?_
  refine q_istore_n (L' := [some (.ref l0), some (.int l1), some (.int u3)]) C dX5_readAtom_9 (by decide) rfl rfl ?_
  refine q_iload_n C dX5_readAtom_10 rfl ?_
  refine x_iconst (v := (-1 : Int32)) C dX5_readAtom_11 (by decide) ?_
  refine q_icmp_eq (tgt := 38) C dX5_readAtom_12 (by decide) h (fun _ h => ?_) (fun _ h => ?_)
  · refine q_iload_n C dX5_readAtom_38 rfl ?_
    refine x_bipush (v := (6 : Int32)) C dX5_readAtom_39 (by decide) ?_
    refine q_icmp_ge (tgt := 84) C dX5_readAtom_41 (by decide) h (fun _ h => ?_) (fun _ h => ?_)
    · refine q_aload_n C dX5_readAtom_44 rfl ?_
      refine x_getR (ci := 5) (j := 0) C dX5_readAtom_45 lkF_X5_19 rfl h (fun c5 h => ?_)
      refine x_nn h (fun r6 h => ?_)
      refine x_bipush (v := (91 : Int32)) C dX5_readAtom_48 (by decide) ?_
      obtain ⟨hk, h⟩ := q_obE h
      obtain ⟨⟨u7, M8⟩, e1, h⟩ := q_bind h
      refine x_callV0 C dX5_readAtom_50 lkM_X5_39 mV_X9_take ⟨_, rfl, rfl⟩ hk (c_X9_take _ _ _ _ _ e1) rfl rfl (Nat.le_of_ble_eq_true rfl) (⟨by omega, by decide⟩) (by decide) ?_
      refine q_if_eq (tgt := 84) C dX5_readAtom_53 (by decide) h (fun _ h => ?_) (fun _ h => ?_)
      · exact q_msk [true, false, false] (jW_X5_readAtom_84 C hr l0 M8 h)
      · refine q_aload_n C dX5_readAtom_56 rfl ?_
        refine q_iload_n C dX5_readAtom_57 rfl ?_
        refine x_iconst (v := (1 : Int32)) C dX5_readAtom_58 (by decide) ?_
        refine q_iadd C dX5_readAtom_59 ?_
        obtain ⟨hk, h⟩ := q_obE h
        obtain ⟨⟨u18, M19⟩, e1, h⟩ := q_bind h
        refine x_callV C dX5_readAtom_60 lkM_X5_49 mV_X5_readSum ⟨_, rfl, rfl⟩ hk ((hr _ _).2.1 _ _ _ _ _ e1) rfl rfl (Nat.le_of_ble_eq_true rfl) (⟨by omega, by decide⟩) (by decide) ?_
        refine q_if_eq (tgt := 82) C dX5_readAtom_63 (by decide) h (fun _ h => ?_) (fun _ h => ?_)
        · refine x_iconst (v := (0 : Int32)) C dX5_readAtom_82 (by decide) ?_
          exact q_zret C dX5_readAtom_83 rfl (by decide) (by decide) (q_rzE h).1 (q_rzE h).2
        · refine q_aload_n C dX5_readAtom_66 rfl ?_
          refine x_getR (ci := 5) (j := 0) C dX5_readAtom_67 lkF_X5_19 rfl h (fun c20 h => ?_)
          refine x_nn h (fun r21 h => ?_)
          refine x_bipush (v := (93 : Int32)) C dX5_readAtom_70 (by decide) ?_
          obtain ⟨hk, h⟩ := q_obE h
          obtain ⟨⟨u22, M23⟩, e1, h⟩ := q_bind h
          refine x_callV0 C dX5_readAtom_72 lkM_X5_39 mV_X9_take ⟨_, rfl, rfl⟩ hk (c_X9_take _ _ _ _ _ e1) rfl rfl (Nat.le_of_ble_eq_true rfl) (⟨by omega, by decide⟩) (by decide) ?_
          refine q_if_eq (tgt := 82) C dX5_readAtom_75 (by decide) h (fun _ h => ?_) (fun _ h => ?_)
          · refine x_iconst (v := (0 : Int32)) C dX5_readAtom_82 (by decide) ?_
            exact q_zret C dX5_readAtom_83 rfl (by decide) (by decide) (q_rzE h).1 (q_rzE h).2
          · refine x_iconst (v := (1 : Int32)) C dX5_readAtom_78 (by decide) ?_
            refine q_goto (tgt := 83) C dX5_readAtom_79 (by decide) ?_
            exact q_zret C dX5_readAtom_83 rfl (by decide) (by decide) (q_rzE h).1 (q_rzE h).2
    · exact q_msk [true, false, false] (jW_X5_readAtom_84 C hr l0 M4 h)
  · refine q_aload_n C dX5_readAtom_15 rfl ?_
    refine x_getR (ci := 5) (j := 0) C dX5_readAtom_16 lkF_X5_19 rfl h (fun c24 h => ?_)
    refine x_nn h (fun r25 h => ?_)
    refine q_dup C dX5_readAtom_19 rfl ?_
    refine x_getI (ci := 9) (j := 2) C dX5_readAtom_20 lkF_X5_72 rfl h (fun v26 h => ?_)
    refine x_iconst (v := (1 : Int32)) C dX5_readAtom_23 (by decide) ?_
    refine q_iadd C dX5_readAtom_24 ?_
    refine x_putI (ci := 9) (j := 2) C dX5_readAtom_25 lkF_X5_72 (fun r hr => by cases hr; rfl) rfl h (fun M27 h => ?_)
    refine q_aload_n C dX5_readAtom_28 rfl ?_
    refine x_bipush (v := (-6 : Int32)) C dX5_readAtom_29 (by decide) ?_
    refine q_iload_n C dX5_readAtom_31 rfl ?_
    refine q_iadd C dX5_readAtom_32 ?_
    obtain ⟨hk, h⟩ := q_obE h
    obtain ⟨⟨_, M29⟩, e1, h⟩ := q_bind h
    refine x_callVv0 C dX5_readAtom_33 lkM_X5_55 mV_X5_write ⟨_, rfl, rfl⟩ hk (c_X5_write _ _ _ _ _ e1) rfl rfl (Nat.le_of_ble_eq_true rfl) (⟨by omega, by decide⟩) (by decide) ?_
    refine x_iconst (v := (1 : Int32)) C dX5_readAtom_36 (by decide) ?_
    exact q_zret C dX5_readAtom_37 rfl (by decide) (by decide) (q_rzE h).1 (q_rzE h).2
noncomputable def B_X5_readSum_12 (rec : (Nat → Nat → Int32 → q_Mem → Option (Int32 × q_Mem))) (l0 : Nat) (l1 : Int32) (l2 : Int32) (M : q_Mem) : Option ((Int32 × q_Mem) ⊕ ((q_Mem) ⊕ ((q_Mem) ⊕ (q_Mem)))) := (if l2 < (240 : Int32) then (q_gR M l0 5 0 (fun c3 => q_nn c3 (fun r4 => (q_ob M r4 9 ((F_X9_peekAmong r4 14 M).bind (fun x => match x with | (u5, M6) => (if u5 = (-1 : Int32) then some (.inr (.inl M6)) else (q_gR M6 l0 5 0 (fun c7 => q_nn c7 (fun r8 => (q_gI M6 r8 9 2 (fun v9 => (q_pI M6 r8 9 2 (v9 + (1 : Int32)) (fun M10 => (q_ob M10 l0 5 ((rec 2 l0 l1 M10).bind (fun x => match x with | (u11, M12) => (if u11 = 0 then some (.inr (.inr (.inl M12))) else (q_ob M12 l0 5 ((F_X5_write l0 ((-7 : Int32) - u5) M12).bind (fun x => match x with | (_, M14) => some (.inl ((l2 + (1 : Int32)), M14))))))))))))))))))))))) else some (.inr (.inr (.inr M))))
set_option maxRecDepth 100000 in
set_option maxHeartbeats 4000000 in
theorem bW_X5_readSum_12 {K : q_K} {Q : State → Prop} {n0 : Nat} (C : q_C K yX5_readSum cX5_readSum 4 (Option.some Jvm.ClassFile.FieldType.boolean) (n0 + 10 + 1) 3 0) {rec : (Nat → Nat → Int32 → q_Mem → Option (Int32 × q_Mem))} (hr : Hr_X5_readAtom n0 rec) (l0 : Nat) (l1 : Int32) (l2 : Int32) (M : q_Mem) {stp : (Int32 × q_Mem) ⊕ ((q_Mem) ⊕ ((q_Mem) ⊕ (q_Mem)))} (h : B_X5_readSum_12 rec l0 l1 l2 M = some stp) (kC : ∀ (l2 : Int32) (M : q_Mem), stp = .inl (l2, M) → q_W K 4 Q 0 0 M 12 [some (.ref l0), some (.int l1), some (.int l2), none] []) (kE0 : ∀ (M : q_Mem), stp = .inr (.inl M) → q_W K 4 Q 0 0 M 34 [none, none, none, none] []) (kE1 : ∀ (M : q_Mem), stp = .inr (.inr (.inl M)) → q_W K 4 Q 0 0 M 57 [none, none, none, none] []) (kE2 : ∀ (M : q_Mem), stp = .inr (.inr (.inr M)) → q_W K 4 Q 0 0 M 73 [none, none, none, none] []) : q_W K 4 Q 0 0 M 12 [some (.ref l0), some (.int l1), some (.int l2), none] [] := by
  unfold B_X5_readSum_12 at h
  refine q_iload_n C dX5_readSum_12 rfl ?_
  refine x_sipush (v := (240 : Int32)) C dX5_readSum_13 (by decide) ?_
  refine q_icmp_ge (tgt := 73) C dX5_readSum_16 (by decide) h (fun _ h => ?_) (fun _ h => ?_)
  · refine q_aload_n C dX5_readSum_19 rfl ?_
    refine x_getR (ci := 5) (j := 0) C dX5_readSum_20 lkF_X5_19 rfl h (fun c3 h => ?_)
    refine x_nn h (fun r4 h => ?_)
    refine q_ldcS (i := 5) C dX5_readSum_23 rfl ?_
    obtain ⟨hk, h⟩ := q_obE h
    obtain ⟨⟨u5, M6⟩, e1, h⟩ := q_bind h
    refine x_callV C dX5_readSum_25 lkM_X5_45 mV_X9_peekAmong ⟨_, rfl, rfl⟩ hk (c_X9_peekAmong _ _ _ _ _ e1) rfl rfl (Nat.le_of_ble_eq_true rfl) (⟨by omega, by decide⟩) (by decide) ?_
    refine q_istore_n (L' := [some (.ref l0), some (.int l1), some (.int l2), some (.int u5)]) C dX5_readSum_28 (by decide) rfl rfl ?_
    refine q_iload_n C dX5_readSum_29 rfl ?_
    refine x_iconst (v := (-1 : Int32)) C dX5_readSum_30 (by decide) ?_
    refine q_icmp_ne (tgt := 36) C dX5_readSum_31 (by decide) h (fun _ h => ?_) (fun _ h => ?_)
    · exact q_msk [false, false, false, false] (kE0 _ (Option.some.inj h).symm)
    · refine q_aload_n C dX5_readSum_36 rfl ?_
      refine x_getR (ci := 5) (j := 0) C dX5_readSum_37 lkF_X5_19 rfl h (fun c7 h => ?_)
      refine x_nn h (fun r8 h => ?_)
      refine q_dup C dX5_readSum_40 rfl ?_
      refine x_getI (ci := 9) (j := 2) C dX5_readSum_41 lkF_X5_72 rfl h (fun v9 h => ?_)
      refine x_iconst (v := (1 : Int32)) C dX5_readSum_44 (by decide) ?_
      refine q_iadd C dX5_readSum_45 ?_
      refine x_putI (ci := 9) (j := 2) C dX5_readSum_46 lkF_X5_72 (fun r hr => by cases hr; rfl) rfl h (fun M10 h => ?_)
      refine q_aload_n C dX5_readSum_49 rfl ?_
      refine q_iload_n C dX5_readSum_50 rfl ?_
      obtain ⟨hk, h⟩ := q_obE h
      obtain ⟨⟨u11, M12⟩, e1, h⟩ := q_bind h
      refine x_callV C dX5_readSum_51 lkM_X5_75 mV_X5_readTerm ⟨_, rfl, rfl⟩ hk ((hr _ _).2.2 _ _ _ _ _ e1) rfl rfl (Nat.le_of_ble_eq_true rfl) (⟨by omega, by decide⟩) (by decide) ?_
      refine q_if_ne (tgt := 59) C dX5_readSum_54 (by decide) h (fun _ h => ?_) (fun _ h => ?_)
      · exact q_msk [false, false, false, false] (kE1 _ (Option.some.inj h).symm)
      · refine q_aload_n C dX5_readSum_59 rfl ?_
        refine x_bipush (v := (-7 : Int32)) C dX5_readSum_60 (by decide) ?_
        refine q_iload_n C dX5_readSum_62 rfl ?_
        refine q_isub C dX5_readSum_63 ?_
        obtain ⟨hk, h⟩ := q_obE h
        obtain ⟨⟨_, M14⟩, e1, h⟩ := q_bind h
        refine x_callVv0 C dX5_readSum_64 lkM_X5_55 mV_X5_write ⟨_, rfl, rfl⟩ hk (c_X5_write _ _ _ _ _ e1) rfl rfl (Nat.le_of_ble_eq_true rfl) (⟨by omega, by decide⟩) (by decide) ?_
        refine x_iinc (w := (1 : Int32)) (L' := [some (.ref l0), some (.int l1), some (.int (l2 + (1 : Int32))), some (.int u5)]) C dX5_readSum_67 rfl (by decide) (by decide) rfl rfl ?_
        refine q_goto (tgt := 12) C dX5_readSum_70 (by decide) ?_
        exact q_msk [true, true, true, false] (kC _ _ (Option.some.inj h).symm)
  · exact q_msk [false, false, false, false] (kE2 _ (Option.some.inj h).symm)
set_option maxRecDepth 100000 in
set_option maxHeartbeats 4000000 in
theorem lW_X5_readSum_12 {K : q_K} {Q : State → Prop} {n0 : Nat} (C : q_C K yX5_readSum cX5_readSum 4 (Option.some Jvm.ClassFile.FieldType.boolean) (n0 + 10 + 1) 3 0) {rec : (Nat → Nat → Int32 → q_Mem → Option (Int32 × q_Mem))} (hr : Hr_X5_readAtom n0 rec) (l0 : Nat) (l1 : Int32) (n : Nat) : ∀ (l2 : Int32) (M : q_Mem) (e : ((q_Mem) ⊕ ((q_Mem) ⊕ (q_Mem)))), q_lp (fun s => B_X5_readSum_12 rec l0 l1 s.1 s.2) n (l2, M) = some e → (∀ (M : q_Mem), e = (.inl M) → q_W K 4 Q 0 0 M 34 [none, none, none, none] []) → (∀ (M : q_Mem), e = (.inr (.inl M)) → q_W K 4 Q 0 0 M 57 [none, none, none, none] []) → (∀ (M : q_Mem), e = (.inr (.inr M)) → q_W K 4 Q 0 0 M 73 [none, none, none, none] []) → q_W K 4 Q 0 0 M 12 [some (.ref l0), some (.int l1), some (.int l2), none] [] := by
  induction n with
  | zero => intro l2 M e h; cases h
  | succ n ih =>
    intro l2 M e h kE0 kE1 kE2
    obtain ⟨stp, e1, e2⟩ := q_bind h
    refine bW_X5_readSum_12 C hr l0 l1 l2 M e1 (fun a0 a1 hs => ?_) (fun b0 hs => ?_) (fun b0 hs => ?_) (fun b0 hs => ?_)
    · subst hs; exact ih _ _ _ e2 kE0 kE1 kE2
    · subst hs; exact kE0 _ (Option.some.inj e2).symm
    · subst hs; exact kE1 _ (Option.some.inj e2).symm
    · subst hs; exact kE2 _ (Option.some.inj e2).symm
noncomputable def F_X5_readSum (rec : (Nat → Nat → Int32 → q_Mem → Option (Int32 × q_Mem))) (l0 : Nat) (l1 : Int32) (M : q_Mem) : Option (Int32 × q_Mem) := (q_ob M l0 5 ((rec 2 l0 l1 M).bind (fun x => match x with | (u1, M2) => (if u1 = 0 then q_rz (0 : Int32) M2 else (q_lp (fun s => B_X5_readSum_12 rec l0 l1 s.1 s.2) q_fu ((0 : Int32), M2)).bind (fun e15 => match e15 with | .inl M16 => q_rz (1 : Int32) M16 | .inr (.inl M17) => q_rz (0 : Int32) M17 | .inr (.inr M18) => q_rz (0 : Int32) M18)))))
set_option maxRecDepth 100000 in
set_option maxHeartbeats 4000000 in
theorem cr_X5_readSum {l : Launch} {G : q_G} {n0 : Nat} {rec : (Nat → Nat → Int32 → q_Mem → Option (Int32 × q_Mem))} (hr : Hr_X5_readAtom n0 rec) (l0 : Nat) (l1 : Int32) (M : q_Mem) {r : Int32} {M' : q_Mem} (h : F_X5_readSum rec l0 l1 M = some (r, M')) : q_Met l G yX5_readSum cX5_readSum 4 (Option.some Jvm.ClassFile.FieldType.boolean) (n0 + 10 + 1) 3 0 [.ref l0, .int l1] M (some (.int r)) M' := by
  unfold F_X5_readSum at h
  refine q_enter [some (.ref l0), some (.int l1), none, none] (by decide) (Nat.le_of_ble_eq_true rfl) rfl (fun K C => ?_)
  refine q_aload_n C dX5_readSum_0 rfl ?_
  refine q_iload_n C dX5_readSum_1 rfl ?_
  obtain ⟨hk, h⟩ := q_obE h
  obtain ⟨⟨u1, M2⟩, e1, h⟩ := q_bind h
  refine x_callV C dX5_readSum_2 lkM_X5_75 mV_X5_readTerm ⟨_, rfl, rfl⟩ hk ((hr _ _).2.2 _ _ _ _ _ e1) rfl rfl (Nat.le_of_ble_eq_true rfl) (⟨by omega, by decide⟩) (by decide) ?_
  refine q_if_ne (tgt := 10) C dX5_readSum_5 (by decide) h (fun _ h => ?_) (fun _ h => ?_)
  · refine x_iconst (v := (0 : Int32)) C dX5_readSum_8 (by decide) ?_
    exact q_zret C dX5_readSum_9 rfl (by decide) (by decide) (q_rzE h).1 (q_rzE h).2
  · refine x_iconst (v := (0 : Int32)) C dX5_readSum_10 (by decide) ?_
    refine q_istore_n (L' := [some (.ref l0), some (.int l1), some (.int (0 : Int32)), none]) C dX5_readSum_11 (by decide) rfl rfl ?_
    obtain ⟨e15, he, h⟩ := q_bind h
    refine q_msk [true, true, true, false] (lW_X5_readSum_12 C hr l0 l1 q_fu _ _ _ he (fun M16 hs => ?_) (fun M17 hs => ?_) (fun M18 hs => ?_))
    · have hs := hs.symm
      subst hs
      refine x_iconst (v := (1 : Int32)) C dX5_readSum_34 (by decide) ?_
      exact q_zret C dX5_readSum_35 rfl (by decide) (by decide) (q_rzE h).1 (q_rzE h).2
    · have hs := hs.symm
      subst hs
      refine x_iconst (v := (0 : Int32)) C dX5_readSum_57 (by decide) ?_
      exact q_zret C dX5_readSum_58 rfl (by decide) (by decide) (q_rzE h).1 (q_rzE h).2
    · have hs := hs.symm
      subst hs
      refine x_iconst (v := (0 : Int32)) C dX5_readSum_73 (by decide) ?_
      exact q_zret C dX5_readSum_74 rfl (by decide) (by decide) (q_rzE h).1 (q_rzE h).2
noncomputable def B_X5_readTerm_12 (rec : (Nat → Nat → Int32 → q_Mem → Option (Int32 × q_Mem))) (l0 : Nat) (l1 : Int32) (l2 : Int32) (M : q_Mem) : Option ((Int32 × q_Mem) ⊕ ((q_Mem) ⊕ ((q_Mem) ⊕ (q_Mem)))) := (if l2 < (240 : Int32) then (q_gR M l0 5 0 (fun c3 => q_nn c3 (fun r4 => (q_ob M r4 9 ((F_X9_peekAmong r4 16 M).bind (fun x => match x with | (u5, M6) => (if u5 = (-1 : Int32) then some (.inr (.inl M6)) else (q_gR M6 l0 5 0 (fun c7 => q_nn c7 (fun r8 => (q_gI M6 r8 9 2 (fun v9 => (q_pI M6 r8 9 2 (v9 + (1 : Int32)) (fun M10 => (q_ob M10 l0 5 ((rec 0 l0 l1 M10).bind (fun x => match x with | (u11, M12) => (if u11 = 0 then some (.inr (.inr (.inl M12))) else (q_ob M12 l0 5 ((F_X5_write l0 ((-9 : Int32) - u5) M12).bind (fun x => match x with | (_, M14) => some (.inl ((l2 + (1 : Int32)), M14))))))))))))))))))))))) else some (.inr (.inr (.inr M))))
set_option maxRecDepth 100000 in
set_option maxHeartbeats 4000000 in
theorem bW_X5_readTerm_12 {K : q_K} {Q : State → Prop} {n0 : Nat} (C : q_C K yX5_readTerm cX5_readTerm 4 (Option.some Jvm.ClassFile.FieldType.boolean) (n0 + 10 + 1) 3 0) {rec : (Nat → Nat → Int32 → q_Mem → Option (Int32 × q_Mem))} (hr : Hr_X5_readAtom n0 rec) (l0 : Nat) (l1 : Int32) (l2 : Int32) (M : q_Mem) {stp : (Int32 × q_Mem) ⊕ ((q_Mem) ⊕ ((q_Mem) ⊕ (q_Mem)))} (h : B_X5_readTerm_12 rec l0 l1 l2 M = some stp) (kC : ∀ (l2 : Int32) (M : q_Mem), stp = .inl (l2, M) → q_W K 4 Q 0 0 M 12 [some (.ref l0), some (.int l1), some (.int l2), none] []) (kE0 : ∀ (M : q_Mem), stp = .inr (.inl M) → q_W K 4 Q 0 0 M 34 [none, none, none, none] []) (kE1 : ∀ (M : q_Mem), stp = .inr (.inr (.inl M)) → q_W K 4 Q 0 0 M 57 [none, none, none, none] []) (kE2 : ∀ (M : q_Mem), stp = .inr (.inr (.inr M)) → q_W K 4 Q 0 0 M 73 [none, none, none, none] []) : q_W K 4 Q 0 0 M 12 [some (.ref l0), some (.int l1), some (.int l2), none] [] := by
  unfold B_X5_readTerm_12 at h
  refine q_iload_n C dX5_readTerm_12 rfl ?_
  refine x_sipush (v := (240 : Int32)) C dX5_readTerm_13 (by decide) ?_
  refine q_icmp_ge (tgt := 73) C dX5_readTerm_16 (by decide) h (fun _ h => ?_) (fun _ h => ?_)
  · refine q_aload_n C dX5_readTerm_19 rfl ?_
    refine x_getR (ci := 5) (j := 0) C dX5_readTerm_20 lkF_X5_19 rfl h (fun c3 h => ?_)
    refine x_nn h (fun r4 h => ?_)
    refine q_ldcS (i := 6) C dX5_readTerm_23 rfl ?_
    obtain ⟨hk, h⟩ := q_obE h
    obtain ⟨⟨u5, M6⟩, e1, h⟩ := q_bind h
    refine x_callV C dX5_readTerm_25 lkM_X5_45 mV_X9_peekAmong ⟨_, rfl, rfl⟩ hk (c_X9_peekAmong _ _ _ _ _ e1) rfl rfl (Nat.le_of_ble_eq_true rfl) (⟨by omega, by decide⟩) (by decide) ?_
    refine q_istore_n (L' := [some (.ref l0), some (.int l1), some (.int l2), some (.int u5)]) C dX5_readTerm_28 (by decide) rfl rfl ?_
    refine q_iload_n C dX5_readTerm_29 rfl ?_
    refine x_iconst (v := (-1 : Int32)) C dX5_readTerm_30 (by decide) ?_
    refine q_icmp_ne (tgt := 36) C dX5_readTerm_31 (by decide) h (fun _ h => ?_) (fun _ h => ?_)
    · exact q_msk [false, false, false, false] (kE0 _ (Option.some.inj h).symm)
    · refine q_aload_n C dX5_readTerm_36 rfl ?_
      refine x_getR (ci := 5) (j := 0) C dX5_readTerm_37 lkF_X5_19 rfl h (fun c7 h => ?_)
      refine x_nn h (fun r8 h => ?_)
      refine q_dup C dX5_readTerm_40 rfl ?_
      refine x_getI (ci := 9) (j := 2) C dX5_readTerm_41 lkF_X5_72 rfl h (fun v9 h => ?_)
      refine x_iconst (v := (1 : Int32)) C dX5_readTerm_44 (by decide) ?_
      refine q_iadd C dX5_readTerm_45 ?_
      refine x_putI (ci := 9) (j := 2) C dX5_readTerm_46 lkF_X5_72 (fun r hr => by cases hr; rfl) rfl h (fun M10 h => ?_)
      refine q_aload_n C dX5_readTerm_49 rfl ?_
      refine q_iload_n C dX5_readTerm_50 rfl ?_
      obtain ⟨hk, h⟩ := q_obE h
      obtain ⟨⟨u11, M12⟩, e1, h⟩ := q_bind h
      refine x_callV C dX5_readTerm_51 lkM_X5_80 mV_X5_readAtom ⟨_, rfl, rfl⟩ hk ((hr _ _).1 _ _ _ _ _ e1) rfl rfl (Nat.le_of_ble_eq_true rfl) (⟨by omega, by decide⟩) (by decide) ?_
      refine q_if_ne (tgt := 59) C dX5_readTerm_54 (by decide) h (fun _ h => ?_) (fun _ h => ?_)
      · exact q_msk [false, false, false, false] (kE1 _ (Option.some.inj h).symm)
      · refine q_aload_n C dX5_readTerm_59 rfl ?_
        refine x_bipush (v := (-9 : Int32)) C dX5_readTerm_60 (by decide) ?_
        refine q_iload_n C dX5_readTerm_62 rfl ?_
        refine q_isub C dX5_readTerm_63 ?_
        obtain ⟨hk, h⟩ := q_obE h
        obtain ⟨⟨_, M14⟩, e1, h⟩ := q_bind h
        refine x_callVv0 C dX5_readTerm_64 lkM_X5_55 mV_X5_write ⟨_, rfl, rfl⟩ hk (c_X5_write _ _ _ _ _ e1) rfl rfl (Nat.le_of_ble_eq_true rfl) (⟨by omega, by decide⟩) (by decide) ?_
        refine x_iinc (w := (1 : Int32)) (L' := [some (.ref l0), some (.int l1), some (.int (l2 + (1 : Int32))), some (.int u5)]) C dX5_readTerm_67 rfl (by decide) (by decide) rfl rfl ?_
        refine q_goto (tgt := 12) C dX5_readTerm_70 (by decide) ?_
        exact q_msk [true, true, true, false] (kC _ _ (Option.some.inj h).symm)
  · exact q_msk [false, false, false, false] (kE2 _ (Option.some.inj h).symm)
set_option maxRecDepth 100000 in
set_option maxHeartbeats 4000000 in
theorem lW_X5_readTerm_12 {K : q_K} {Q : State → Prop} {n0 : Nat} (C : q_C K yX5_readTerm cX5_readTerm 4 (Option.some Jvm.ClassFile.FieldType.boolean) (n0 + 10 + 1) 3 0) {rec : (Nat → Nat → Int32 → q_Mem → Option (Int32 × q_Mem))} (hr : Hr_X5_readAtom n0 rec) (l0 : Nat) (l1 : Int32) (n : Nat) : ∀ (l2 : Int32) (M : q_Mem) (e : ((q_Mem) ⊕ ((q_Mem) ⊕ (q_Mem)))), q_lp (fun s => B_X5_readTerm_12 rec l0 l1 s.1 s.2) n (l2, M) = some e → (∀ (M : q_Mem), e = (.inl M) → q_W K 4 Q 0 0 M 34 [none, none, none, none] []) → (∀ (M : q_Mem), e = (.inr (.inl M)) → q_W K 4 Q 0 0 M 57 [none, none, none, none] []) → (∀ (M : q_Mem), e = (.inr (.inr M)) → q_W K 4 Q 0 0 M 73 [none, none, none, none] []) → q_W K 4 Q 0 0 M 12 [some (.ref l0), some (.int l1), some (.int l2), none] [] := by
  induction n with
  | zero => intro l2 M e h; cases h
  | succ n ih =>
    intro l2 M e h kE0 kE1 kE2
    obtain ⟨stp, e1, e2⟩ := q_bind h
    refine bW_X5_readTerm_12 C hr l0 l1 l2 M e1 (fun a0 a1 hs => ?_) (fun b0 hs => ?_) (fun b0 hs => ?_) (fun b0 hs => ?_)
    · subst hs; exact ih _ _ _ e2 kE0 kE1 kE2
    · subst hs; exact kE0 _ (Option.some.inj e2).symm
    · subst hs; exact kE1 _ (Option.some.inj e2).symm
    · subst hs; exact kE2 _ (Option.some.inj e2).symm
noncomputable def F_X5_readTerm (rec : (Nat → Nat → Int32 → q_Mem → Option (Int32 × q_Mem))) (l0 : Nat) (l1 : Int32) (M : q_Mem) : Option (Int32 × q_Mem) := (q_ob M l0 5 ((rec 0 l0 l1 M).bind (fun x => match x with | (u1, M2) => (if u1 = 0 then q_rz (0 : Int32) M2 else (q_lp (fun s => B_X5_readTerm_12 rec l0 l1 s.1 s.2) q_fu ((0 : Int32), M2)).bind (fun e15 => match e15 with | .inl M16 => q_rz (1 : Int32) M16 | .inr (.inl M17) => q_rz (0 : Int32) M17 | .inr (.inr M18) => q_rz (0 : Int32) M18)))))
set_option maxRecDepth 100000 in
set_option maxHeartbeats 4000000 in
theorem cr_X5_readTerm {l : Launch} {G : q_G} {n0 : Nat} {rec : (Nat → Nat → Int32 → q_Mem → Option (Int32 × q_Mem))} (hr : Hr_X5_readAtom n0 rec) (l0 : Nat) (l1 : Int32) (M : q_Mem) {r : Int32} {M' : q_Mem} (h : F_X5_readTerm rec l0 l1 M = some (r, M')) : q_Met l G yX5_readTerm cX5_readTerm 4 (Option.some Jvm.ClassFile.FieldType.boolean) (n0 + 10 + 1) 3 0 [.ref l0, .int l1] M (some (.int r)) M' := by
  unfold F_X5_readTerm at h
  refine q_enter [some (.ref l0), some (.int l1), none, none] (by decide) (Nat.le_of_ble_eq_true rfl) rfl (fun K C => ?_)
  refine q_aload_n C dX5_readTerm_0 rfl ?_
  refine q_iload_n C dX5_readTerm_1 rfl ?_
  obtain ⟨hk, h⟩ := q_obE h
  obtain ⟨⟨u1, M2⟩, e1, h⟩ := q_bind h
  refine x_callV C dX5_readTerm_2 lkM_X5_80 mV_X5_readAtom ⟨_, rfl, rfl⟩ hk ((hr _ _).1 _ _ _ _ _ e1) rfl rfl (Nat.le_of_ble_eq_true rfl) (⟨by omega, by decide⟩) (by decide) ?_
  refine q_if_ne (tgt := 10) C dX5_readTerm_5 (by decide) h (fun _ h => ?_) (fun _ h => ?_)
  · refine x_iconst (v := (0 : Int32)) C dX5_readTerm_8 (by decide) ?_
    exact q_zret C dX5_readTerm_9 rfl (by decide) (by decide) (q_rzE h).1 (q_rzE h).2
  · refine x_iconst (v := (0 : Int32)) C dX5_readTerm_10 (by decide) ?_
    refine q_istore_n (L' := [some (.ref l0), some (.int l1), some (.int (0 : Int32)), none]) C dX5_readTerm_11 (by decide) rfl rfl ?_
    obtain ⟨e15, he, h⟩ := q_bind h
    refine q_msk [true, true, true, false] (lW_X5_readTerm_12 C hr l0 l1 q_fu _ _ _ he (fun M16 hs => ?_) (fun M17 hs => ?_) (fun M18 hs => ?_))
    · have hs := hs.symm
      subst hs
      refine x_iconst (v := (1 : Int32)) C dX5_readTerm_34 (by decide) ?_
      exact q_zret C dX5_readTerm_35 rfl (by decide) (by decide) (q_rzE h).1 (q_rzE h).2
    · have hs := hs.symm
      subst hs
      refine x_iconst (v := (0 : Int32)) C dX5_readTerm_57 (by decide) ?_
      exact q_zret C dX5_readTerm_58 rfl (by decide) (by decide) (q_rzE h).1 (q_rzE h).2
    · have hs := hs.symm
      subst hs
      refine x_iconst (v := (0 : Int32)) C dX5_readTerm_73 (by decide) ?_
      exact q_zret C dX5_readTerm_74 rfl (by decide) (by decide) (q_rzE h).1 (q_rzE h).2
noncomputable def R_X5_readAtom : Nat → Nat → Nat → Int32 → q_Mem → Option (Int32 × q_Mem)
  | 0 => fun _ _ _ _ => none
  | n + 1 => fun tag a0 b0 M => match tag with | 0 => F_X5_readAtom (R_X5_readAtom n) a0 b0 M | 1 => F_X5_readSum (R_X5_readAtom n) a0 b0 M | _ => F_X5_readTerm (R_X5_readAtom n) a0 b0 M
set_option maxRecDepth 100000 in
theorem Rok_X5_readAtom (n : Nat) : Hr_X5_readAtom n (R_X5_readAtom n) := by
  induction n with
  | zero => exact fun l G => ⟨fun a0 a1 M r M' h => by cases h, fun a0 a1 M r M' h => by cases h, fun a0 a1 M r M' h => by cases h⟩
  | succ n ih => exact fun l G => ⟨fun a0 a1 M r M' h => cr_X5_readAtom ih a0 a1 M h, fun a0 a1 M r M' h => cr_X5_readSum ih a0 a1 M h, fun a0 a1 M r M' h => cr_X5_readTerm ih a0 a1 M h⟩
theorem c_X5_readAtom (l : Launch) (G : q_G) (a0 : Nat) (a1 : Int32) (M : q_Mem) {r : Int32} {M' : q_Mem} (h : R_X5_readAtom 60 0 a0 a1 M = some (r, M')) : q_Met l G yX5_readAtom cX5_readAtom 3 (Option.some Jvm.ClassFile.FieldType.boolean) 70 0 0 [.ref a0, .int a1] M (some (.int r)) M' := (Rok_X5_readAtom 60 l G).1 a0 a1 M r M' h
theorem c_X5_readSum (l : Launch) (G : q_G) (a0 : Nat) (a1 : Int32) (M : q_Mem) {r : Int32} {M' : q_Mem} (h : R_X5_readAtom 60 1 a0 a1 M = some (r, M')) : q_Met l G yX5_readSum cX5_readSum 4 (Option.some Jvm.ClassFile.FieldType.boolean) 70 0 0 [.ref a0, .int a1] M (some (.int r)) M' := (Rok_X5_readAtom 60 l G).2.1 a0 a1 M r M' h
theorem c_X5_readTerm (l : Launch) (G : q_G) (a0 : Nat) (a1 : Int32) (M : q_Mem) {r : Int32} {M' : q_Mem} (h : R_X5_readAtom 60 2 a0 a1 M = some (r, M')) : q_Met l G yX5_readTerm cX5_readTerm 4 (Option.some Jvm.ClassFile.FieldType.boolean) 70 0 0 [.ref a0, .int a1] M (some (.int r)) M' := (Rok_X5_readAtom 60 l G).2.2 a0 a1 M r M' h
def Hr_X5_readCondition (n0 : Nat) (rec : (Nat → Nat → Int32 → Int32 → q_Mem → Option (Int32 × q_Mem))) : Prop := ∀ (l : Launch) (G : q_G), (∀ (a0 : Nat) (a1 : Int32) (a2 : Int32) (M : q_Mem) (r : Int32) (M' : q_Mem), rec 0 a0 a1 a2 M = some (r, M') → q_Met l G yX5_readCondition cX5_readCondition 4 (Option.some Jvm.ClassFile.FieldType.boolean) (n0 + 71) 0 0 [.ref a0, .int a1, .int a2] M (some (.int r)) M') ∧ (∀ (a0 : Nat) (a1 : Int32) (M : q_Mem) (r : Int32) (M' : q_Mem), rec 1 a0 a1 0 M = some (r, M') → q_Met l G yX5_readNested cX5_readNested 2 (Option.some Jvm.ClassFile.FieldType.boolean) (n0 + 71) 0 0 [.ref a0, .int a1] M (some (.int r)) M') ∧ (∀ (a0 : Nat) (a1 : Int32) (a2 : Int32) (M : q_Mem) (r : Int32) (M' : q_Mem), rec 2 a0 a1 a2 M = some (r, M') → q_Met l G yX5_readTruth cX5_readTruth 4 (Option.some Jvm.ClassFile.FieldType.boolean) (n0 + 71) 0 0 [.ref a0, .int a1, .int a2] M (some (.int r)) M') ∧ (∀ (a0 : Nat) (a1 : Int32) (a2 : Int32) (M : q_Mem) (r : Int32) (M' : q_Mem), rec 3 a0 a1 a2 M = some (r, M') → q_Met l G yX5_readUnit cX5_readUnit 4 (Option.some Jvm.ClassFile.FieldType.boolean) (n0 + 71) 0 0 [.ref a0, .int a1, .int a2] M (some (.int r)) M')
noncomputable def B_X5_readCondition_13 (rec : (Nat → Nat → Int32 → Int32 → q_Mem → Option (Int32 × q_Mem))) (l0 : Nat) (l1 : Int32) (l3 : Int32) (M : q_Mem) : Option ((Int32 × q_Mem) ⊕ ((q_Mem) ⊕ (q_Mem))) := (if l3 < (240 : Int32) then (q_gR M l0 5 0 (fun c3 => q_nn c3 (fun r4 => (q_ob M r4 9 ((F_X9_take r4 (124 : Int32) M).bind (fun x => match x with | (u5, M6) => (if u5 = 0 then some (.inr (.inr M6)) else (q_ob M6 l0 5 ((rec 2 l0 l1 (0 : Int32) M6).bind (fun x => match x with | (u7, M8) => (if u7 = 0 then some (.inr (.inl M8)) else (q_ob M8 l0 5 ((F_X5_write l0 (-15 : Int32) M8).bind (fun x => match x with | (_, M10) => some (.inl ((l3 + (1 : Int32)), M10)))))))))))))))) else some (.inr (.inr M)))
set_option maxRecDepth 100000 in
set_option maxHeartbeats 4000000 in
theorem bW_X5_readCondition_13 {K : q_K} {Q : State → Prop} {n0 : Nat} (C : q_C K yX5_readCondition cX5_readCondition 4 (Option.some Jvm.ClassFile.FieldType.boolean) (n0 + 71 + 1) 0 0) {rec : (Nat → Nat → Int32 → Int32 → q_Mem → Option (Int32 × q_Mem))} (hr : Hr_X5_readCondition n0 rec) (l0 : Nat) (l1 : Int32) (l3 : Int32) (M : q_Mem) {stp : (Int32 × q_Mem) ⊕ ((q_Mem) ⊕ (q_Mem))} (h : B_X5_readCondition_13 rec l0 l1 l3 M = some stp) (kC : ∀ (l3 : Int32) (M : q_Mem), stp = .inl (l3, M) → q_W K 4 Q 0 0 M 13 [some (.ref l0), some (.int l1), none, some (.int l3)] []) (kE0 : ∀ (M : q_Mem), stp = .inr (.inl M) → q_W K 4 Q 0 0 M 41 [none, none, none, none] []) (kE1 : ∀ (M : q_Mem), stp = .inr (.inr M) → q_W K 4 Q 0 0 M 55 [none, none, none, none] []) : q_W K 4 Q 0 0 M 13 [some (.ref l0), some (.int l1), none, some (.int l3)] [] := by
  unfold B_X5_readCondition_13 at h
  refine q_iload_n C dX5_readCondition_13 rfl ?_
  refine x_sipush (v := (240 : Int32)) C dX5_readCondition_14 (by decide) ?_
  refine q_icmp_ge (tgt := 55) C dX5_readCondition_17 (by decide) h (fun _ h => ?_) (fun _ h => ?_)
  · refine q_aload_n C dX5_readCondition_20 rfl ?_
    refine x_getR (ci := 5) (j := 0) C dX5_readCondition_21 lkF_X5_19 rfl h (fun c3 h => ?_)
    refine x_nn h (fun r4 h => ?_)
    refine x_bipush (v := (124 : Int32)) C dX5_readCondition_24 (by decide) ?_
    obtain ⟨hk, h⟩ := q_obE h
    obtain ⟨⟨u5, M6⟩, e1, h⟩ := q_bind h
    refine x_callV0 C dX5_readCondition_26 lkM_X5_39 mV_X9_take ⟨_, rfl, rfl⟩ hk (c_X9_take _ _ _ _ _ e1) rfl rfl (Nat.le_of_ble_eq_true rfl) (⟨by omega, by decide⟩) (by decide) ?_
    refine q_if_eq (tgt := 55) C dX5_readCondition_29 (by decide) h (fun _ h => ?_) (fun _ h => ?_)
    · exact q_msk [false, false, false, false] (kE1 _ (Option.some.inj h).symm)
    · refine q_aload_n C dX5_readCondition_32 rfl ?_
      refine q_iload_n C dX5_readCondition_33 rfl ?_
      refine x_iconst (v := (0 : Int32)) C dX5_readCondition_34 (by decide) ?_
      obtain ⟨hk, h⟩ := q_obE h
      obtain ⟨⟨u7, M8⟩, e1, h⟩ := q_bind h
      refine x_callV0 C dX5_readCondition_35 lkM_X5_63 mV_X5_readTruth ⟨_, rfl, rfl⟩ hk ((hr _ _).2.2.1 _ _ _ _ _ _ e1) rfl rfl (Nat.le_of_ble_eq_true rfl) (⟨by omega, by decide⟩) (by decide) ?_
      refine q_if_ne (tgt := 43) C dX5_readCondition_38 (by decide) h (fun _ h => ?_) (fun _ h => ?_)
      · exact q_msk [false, false, false, false] (kE0 _ (Option.some.inj h).symm)
      · refine q_aload_n C dX5_readCondition_43 rfl ?_
        refine x_bipush (v := (-15 : Int32)) C dX5_readCondition_44 (by decide) ?_
        obtain ⟨hk, h⟩ := q_obE h
        obtain ⟨⟨_, M10⟩, e1, h⟩ := q_bind h
        refine x_callVv0 C dX5_readCondition_46 lkM_X5_55 mV_X5_write ⟨_, rfl, rfl⟩ hk (c_X5_write _ _ _ _ _ e1) rfl rfl (Nat.le_of_ble_eq_true rfl) (⟨by omega, by decide⟩) (by decide) ?_
        refine x_iinc (w := (1 : Int32)) (L' := [some (.ref l0), some (.int l1), none, some (.int (l3 + (1 : Int32)))]) C dX5_readCondition_49 rfl (by decide) (by decide) rfl rfl ?_
        refine q_goto (tgt := 13) C dX5_readCondition_52 (by decide) ?_
        exact q_msk [true, true, false, true] (kC _ _ (Option.some.inj h).symm)
  · exact q_msk [false, false, false, false] (kE1 _ (Option.some.inj h).symm)
set_option maxRecDepth 100000 in
set_option maxHeartbeats 4000000 in
theorem lW_X5_readCondition_13 {K : q_K} {Q : State → Prop} {n0 : Nat} (C : q_C K yX5_readCondition cX5_readCondition 4 (Option.some Jvm.ClassFile.FieldType.boolean) (n0 + 71 + 1) 0 0) {rec : (Nat → Nat → Int32 → Int32 → q_Mem → Option (Int32 × q_Mem))} (hr : Hr_X5_readCondition n0 rec) (l0 : Nat) (l1 : Int32) (n : Nat) : ∀ (l3 : Int32) (M : q_Mem) (e : ((q_Mem) ⊕ (q_Mem))), q_lp (fun s => B_X5_readCondition_13 rec l0 l1 s.1 s.2) n (l3, M) = some e → (∀ (M : q_Mem), e = (.inl M) → q_W K 4 Q 0 0 M 41 [none, none, none, none] []) → (∀ (M : q_Mem), e = (.inr M) → q_W K 4 Q 0 0 M 55 [none, none, none, none] []) → q_W K 4 Q 0 0 M 13 [some (.ref l0), some (.int l1), none, some (.int l3)] [] := by
  induction n with
  | zero => intro l3 M e h; cases h
  | succ n ih =>
    intro l3 M e h kE0 kE1
    obtain ⟨stp, e1, e2⟩ := q_bind h
    refine bW_X5_readCondition_13 C hr l0 l1 l3 M e1 (fun a0 a1 hs => ?_) (fun b0 hs => ?_) (fun b0 hs => ?_)
    · subst hs; exact ih _ _ _ e2 kE0 kE1
    · subst hs; exact kE0 _ (Option.some.inj e2).symm
    · subst hs; exact kE1 _ (Option.some.inj e2).symm
noncomputable def F_X5_readCondition (rec : (Nat → Nat → Int32 → Int32 → q_Mem → Option (Int32 × q_Mem))) (l0 : Nat) (l1 : Int32) (l2 : Int32) (M : q_Mem) : Option (Int32 × q_Mem) := (q_ob M l0 5 ((rec 2 l0 l1 l2 M).bind (fun x => match x with | (u1, M2) => (if u1 = 0 then q_rz (0 : Int32) M2 else (q_lp (fun s => B_X5_readCondition_13 rec l0 l1 s.1 s.2) q_fu ((0 : Int32), M2)).bind (fun e11 => match e11 with | .inl M12 => q_rz (0 : Int32) M12 | .inr M13 => q_rz (1 : Int32) M13)))))
set_option maxRecDepth 100000 in
set_option maxHeartbeats 4000000 in
theorem cr_X5_readCondition {l : Launch} {G : q_G} {n0 : Nat} {rec : (Nat → Nat → Int32 → Int32 → q_Mem → Option (Int32 × q_Mem))} (hr : Hr_X5_readCondition n0 rec) (l0 : Nat) (l1 : Int32) (l2 : Int32) (M : q_Mem) {r : Int32} {M' : q_Mem} (h : F_X5_readCondition rec l0 l1 l2 M = some (r, M')) : q_Met l G yX5_readCondition cX5_readCondition 4 (Option.some Jvm.ClassFile.FieldType.boolean) (n0 + 71 + 1) 0 0 [.ref l0, .int l1, .int l2] M (some (.int r)) M' := by
  unfold F_X5_readCondition at h
  refine q_enter [some (.ref l0), some (.int l1), some (.int l2), none] (by decide) (Nat.le_of_ble_eq_true rfl) rfl (fun K C => ?_)
  refine q_aload_n C dX5_readCondition_0 rfl ?_
  refine q_iload_n C dX5_readCondition_1 rfl ?_
  refine q_iload_n C dX5_readCondition_2 rfl ?_
  obtain ⟨hk, h⟩ := q_obE h
  obtain ⟨⟨u1, M2⟩, e1, h⟩ := q_bind h
  refine x_callV0 C dX5_readCondition_3 lkM_X5_63 mV_X5_readTruth ⟨_, rfl, rfl⟩ hk ((hr _ _).2.2.1 _ _ _ _ _ _ e1) rfl rfl (Nat.le_of_ble_eq_true rfl) (⟨by omega, by decide⟩) (by decide) ?_
  refine q_if_ne (tgt := 11) C dX5_readCondition_6 (by decide) h (fun _ h => ?_) (fun _ h => ?_)
  · refine x_iconst (v := (0 : Int32)) C dX5_readCondition_9 (by decide) ?_
    exact q_zret C dX5_readCondition_10 rfl (by decide) (by decide) (q_rzE h).1 (q_rzE h).2
  · refine x_iconst (v := (0 : Int32)) C dX5_readCondition_11 (by decide) ?_
    refine q_istore_n (L' := [some (.ref l0), some (.int l1), some (.int l2), some (.int (0 : Int32))]) C dX5_readCondition_12 (by decide) rfl rfl ?_
    obtain ⟨e11, he, h⟩ := q_bind h
    refine q_msk [true, true, false, true] (lW_X5_readCondition_13 C hr l0 l1 q_fu _ _ _ he (fun M12 hs => ?_) (fun M13 hs => ?_))
    · have hs := hs.symm
      subst hs
      refine x_iconst (v := (0 : Int32)) C dX5_readCondition_41 (by decide) ?_
      exact q_zret C dX5_readCondition_42 rfl (by decide) (by decide) (q_rzE h).1 (q_rzE h).2
    · have hs := hs.symm
      subst hs
      refine x_iconst (v := (1 : Int32)) C dX5_readCondition_55 (by decide) ?_
      exact q_zret C dX5_readCondition_56 rfl (by decide) (by decide) (q_rzE h).1 (q_rzE h).2
noncomputable def F_X5_readNested (rec : (Nat → Nat → Int32 → Int32 → q_Mem → Option (Int32 × q_Mem))) (l0 : Nat) (l1 : Int32) (M : q_Mem) : Option (Int32 × q_Mem) := (q_gR M l0 5 0 (fun c1 => q_nn c1 (fun r2 => (q_ob M r2 9 ((F_X9_take r2 (40 : Int32) M).bind (fun x => match x with | (u3, M4) => (if u3 = 0 then (q_gR M4 l0 5 0 (fun c5 => q_nn c5 (fun r6 => (q_ob M4 r6 9 ((F_X9_take r6 (33 : Int32) M4).bind (fun x => match x with | (u7, M8) => (if u7 = 0 then q_rz (0 : Int32) M8 else (q_ob M8 l0 5 ((rec 3 l0 l1 (0 : Int32) M8).bind (fun x => match x with | (u9, M10) => (if u9 = 0 then q_rz (0 : Int32) M10 else (q_ob M10 l0 5 ((F_X5_write l0 (-16 : Int32) M10).bind (fun x => match x with | (_, M12) => q_rz (1 : Int32) M12)))))))))))))) else (q_ob M4 l0 5 ((rec 0 l0 l1 (0 : Int32) M4).bind (fun x => match x with | (u13, M14) => (if u13 = 0 then q_rz (0 : Int32) M14 else (q_gR M14 l0 5 0 (fun c15 => q_nn c15 (fun r16 => (q_ob M14 r16 9 ((F_X9_take r16 (41 : Int32) M14).bind (fun x => match x with | (u17, M18) => (if u17 = 0 then q_rz (0 : Int32) M18 else q_rz (1 : Int32) M18))))))))))))))))))
set_option maxRecDepth 100000 in
set_option maxHeartbeats 4000000 in
theorem cr_X5_readNested {l : Launch} {G : q_G} {n0 : Nat} {rec : (Nat → Nat → Int32 → Int32 → q_Mem → Option (Int32 × q_Mem))} (hr : Hr_X5_readCondition n0 rec) (l0 : Nat) (l1 : Int32) (M : q_Mem) {r : Int32} {M' : q_Mem} (h : F_X5_readNested rec l0 l1 M = some (r, M')) : q_Met l G yX5_readNested cX5_readNested 2 (Option.some Jvm.ClassFile.FieldType.boolean) (n0 + 71 + 1) 0 0 [.ref l0, .int l1] M (some (.int r)) M' := by
  unfold F_X5_readNested at h
  refine q_enter [some (.ref l0), some (.int l1)] (by decide) (Nat.le_of_ble_eq_true rfl) rfl (fun K C => ?_)
  refine q_aload_n C dX5_readNested_0 rfl ?_
  refine x_getR (ci := 5) (j := 0) C dX5_readNested_1 lkF_X5_19 rfl h (fun c1 h => ?_)
  refine x_nn h (fun r2 h => ?_)
  refine x_bipush (v := (40 : Int32)) C dX5_readNested_4 (by decide) ?_
  obtain ⟨hk, h⟩ := q_obE h
  obtain ⟨⟨u3, M4⟩, e1, h⟩ := q_bind h
  refine x_callV0 C dX5_readNested_6 lkM_X5_39 mV_X9_take ⟨_, rfl, rfl⟩ hk (c_X9_take _ _ _ _ _ e1) rfl rfl (Nat.le_of_ble_eq_true rfl) (⟨by omega, by decide⟩) (by decide) ?_
  refine q_if_eq (tgt := 39) C dX5_readNested_9 (by decide) h (fun _ h => ?_) (fun _ h => ?_)
  · refine q_aload_n C dX5_readNested_39 rfl ?_
    refine x_getR (ci := 5) (j := 0) C dX5_readNested_40 lkF_X5_19 rfl h (fun c5 h => ?_)
    refine x_nn h (fun r6 h => ?_)
    refine x_bipush (v := (33 : Int32)) C dX5_readNested_43 (by decide) ?_
    obtain ⟨hk, h⟩ := q_obE h
    obtain ⟨⟨u7, M8⟩, e1, h⟩ := q_bind h
    refine x_callV0 C dX5_readNested_45 lkM_X5_39 mV_X9_take ⟨_, rfl, rfl⟩ hk (c_X9_take _ _ _ _ _ e1) rfl rfl (Nat.le_of_ble_eq_true rfl) (⟨by omega, by decide⟩) (by decide) ?_
    refine q_if_eq (tgt := 60) C dX5_readNested_48 (by decide) h (fun _ h => ?_) (fun _ h => ?_)
    · refine x_iconst (v := (0 : Int32)) C dX5_readNested_60 (by decide) ?_
      exact q_zret C dX5_readNested_61 rfl (by decide) (by decide) (q_rzE h).1 (q_rzE h).2
    · refine q_aload_n C dX5_readNested_51 rfl ?_
      refine q_iload_n C dX5_readNested_52 rfl ?_
      refine x_iconst (v := (0 : Int32)) C dX5_readNested_53 (by decide) ?_
      obtain ⟨hk, h⟩ := q_obE h
      obtain ⟨⟨u9, M10⟩, e1, h⟩ := q_bind h
      refine x_callV C dX5_readNested_54 lkM_X5_66 mV_X5_readUnit ⟨_, rfl, rfl⟩ hk ((hr _ _).2.2.2 _ _ _ _ _ _ e1) rfl rfl (Nat.le_of_ble_eq_true rfl) (⟨by omega, by decide⟩) (by decide) ?_
      refine q_if_ne (tgt := 62) C dX5_readNested_57 (by decide) h (fun _ h => ?_) (fun _ h => ?_)
      · refine x_iconst (v := (0 : Int32)) C dX5_readNested_60 (by decide) ?_
        exact q_zret C dX5_readNested_61 rfl (by decide) (by decide) (q_rzE h).1 (q_rzE h).2
      · refine q_aload_n C dX5_readNested_62 rfl ?_
        refine x_bipush (v := (-16 : Int32)) C dX5_readNested_63 (by decide) ?_
        obtain ⟨hk, h⟩ := q_obE h
        obtain ⟨⟨_, M12⟩, e1, h⟩ := q_bind h
        refine x_callVv0 C dX5_readNested_65 lkM_X5_55 mV_X5_write ⟨_, rfl, rfl⟩ hk (c_X5_write _ _ _ _ _ e1) rfl rfl (Nat.le_of_ble_eq_true rfl) (⟨by omega, by decide⟩) (by decide) ?_
        refine x_iconst (v := (1 : Int32)) C dX5_readNested_68 (by decide) ?_
        exact q_zret C dX5_readNested_69 rfl (by decide) (by decide) (q_rzE h).1 (q_rzE h).2
  · refine q_aload_n C dX5_readNested_12 rfl ?_
    refine q_iload_n C dX5_readNested_13 rfl ?_
    refine x_iconst (v := (0 : Int32)) C dX5_readNested_14 (by decide) ?_
    obtain ⟨hk, h⟩ := q_obE h
    obtain ⟨⟨u13, M14⟩, e1, h⟩ := q_bind h
    refine x_callV0 C dX5_readNested_15 lkM_X5_59 mV_X5_readCondition ⟨_, rfl, rfl⟩ hk ((hr _ _).1 _ _ _ _ _ _ e1) rfl rfl (Nat.le_of_ble_eq_true rfl) (⟨by omega, by decide⟩) (by decide) ?_
    refine q_if_eq (tgt := 37) C dX5_readNested_18 (by decide) h (fun _ h => ?_) (fun _ h => ?_)
    · refine x_iconst (v := (0 : Int32)) C dX5_readNested_37 (by decide) ?_
      exact q_zret C dX5_readNested_38 rfl (by decide) (by decide) (q_rzE h).1 (q_rzE h).2
    · refine q_aload_n C dX5_readNested_21 rfl ?_
      refine x_getR (ci := 5) (j := 0) C dX5_readNested_22 lkF_X5_19 rfl h (fun c15 h => ?_)
      refine x_nn h (fun r16 h => ?_)
      refine x_bipush (v := (41 : Int32)) C dX5_readNested_25 (by decide) ?_
      obtain ⟨hk, h⟩ := q_obE h
      obtain ⟨⟨u17, M18⟩, e1, h⟩ := q_bind h
      refine x_callV0 C dX5_readNested_27 lkM_X5_39 mV_X9_take ⟨_, rfl, rfl⟩ hk (c_X9_take _ _ _ _ _ e1) rfl rfl (Nat.le_of_ble_eq_true rfl) (⟨by omega, by decide⟩) (by decide) ?_
      refine q_if_eq (tgt := 37) C dX5_readNested_30 (by decide) h (fun _ h => ?_) (fun _ h => ?_)
      · refine x_iconst (v := (0 : Int32)) C dX5_readNested_37 (by decide) ?_
        exact q_zret C dX5_readNested_38 rfl (by decide) (by decide) (q_rzE h).1 (q_rzE h).2
      · refine x_iconst (v := (1 : Int32)) C dX5_readNested_33 (by decide) ?_
        refine q_goto (tgt := 38) C dX5_readNested_34 (by decide) ?_
        exact q_zret C dX5_readNested_38 rfl (by decide) (by decide) (q_rzE h).1 (q_rzE h).2
noncomputable def B_X5_readTruth_13 (rec : (Nat → Nat → Int32 → Int32 → q_Mem → Option (Int32 × q_Mem))) (l0 : Nat) (l1 : Int32) (l3 : Int32) (M : q_Mem) : Option ((Int32 × q_Mem) ⊕ ((q_Mem) ⊕ (q_Mem))) := (if l3 < (240 : Int32) then (q_gR M l0 5 0 (fun c3 => q_nn c3 (fun r4 => (q_ob M r4 9 ((F_X9_take r4 (38 : Int32) M).bind (fun x => match x with | (u5, M6) => (if u5 = 0 then some (.inr (.inr M6)) else (q_ob M6 l0 5 ((rec 3 l0 l1 (0 : Int32) M6).bind (fun x => match x with | (u7, M8) => (if u7 = 0 then some (.inr (.inl M8)) else (q_ob M8 l0 5 ((F_X5_write l0 (-14 : Int32) M8).bind (fun x => match x with | (_, M10) => some (.inl ((l3 + (1 : Int32)), M10)))))))))))))))) else some (.inr (.inr M)))
set_option maxRecDepth 100000 in
set_option maxHeartbeats 4000000 in
theorem bW_X5_readTruth_13 {K : q_K} {Q : State → Prop} {n0 : Nat} (C : q_C K yX5_readTruth cX5_readTruth 4 (Option.some Jvm.ClassFile.FieldType.boolean) (n0 + 71 + 1) 0 0) {rec : (Nat → Nat → Int32 → Int32 → q_Mem → Option (Int32 × q_Mem))} (hr : Hr_X5_readCondition n0 rec) (l0 : Nat) (l1 : Int32) (l3 : Int32) (M : q_Mem) {stp : (Int32 × q_Mem) ⊕ ((q_Mem) ⊕ (q_Mem))} (h : B_X5_readTruth_13 rec l0 l1 l3 M = some stp) (kC : ∀ (l3 : Int32) (M : q_Mem), stp = .inl (l3, M) → q_W K 4 Q 0 0 M 13 [some (.ref l0), some (.int l1), none, some (.int l3)] []) (kE0 : ∀ (M : q_Mem), stp = .inr (.inl M) → q_W K 4 Q 0 0 M 41 [none, none, none, none] []) (kE1 : ∀ (M : q_Mem), stp = .inr (.inr M) → q_W K 4 Q 0 0 M 55 [none, none, none, none] []) : q_W K 4 Q 0 0 M 13 [some (.ref l0), some (.int l1), none, some (.int l3)] [] := by
  unfold B_X5_readTruth_13 at h
  refine q_iload_n C dX5_readTruth_13 rfl ?_
  refine x_sipush (v := (240 : Int32)) C dX5_readTruth_14 (by decide) ?_
  refine q_icmp_ge (tgt := 55) C dX5_readTruth_17 (by decide) h (fun _ h => ?_) (fun _ h => ?_)
  · refine q_aload_n C dX5_readTruth_20 rfl ?_
    refine x_getR (ci := 5) (j := 0) C dX5_readTruth_21 lkF_X5_19 rfl h (fun c3 h => ?_)
    refine x_nn h (fun r4 h => ?_)
    refine x_bipush (v := (38 : Int32)) C dX5_readTruth_24 (by decide) ?_
    obtain ⟨hk, h⟩ := q_obE h
    obtain ⟨⟨u5, M6⟩, e1, h⟩ := q_bind h
    refine x_callV0 C dX5_readTruth_26 lkM_X5_39 mV_X9_take ⟨_, rfl, rfl⟩ hk (c_X9_take _ _ _ _ _ e1) rfl rfl (Nat.le_of_ble_eq_true rfl) (⟨by omega, by decide⟩) (by decide) ?_
    refine q_if_eq (tgt := 55) C dX5_readTruth_29 (by decide) h (fun _ h => ?_) (fun _ h => ?_)
    · exact q_msk [false, false, false, false] (kE1 _ (Option.some.inj h).symm)
    · refine q_aload_n C dX5_readTruth_32 rfl ?_
      refine q_iload_n C dX5_readTruth_33 rfl ?_
      refine x_iconst (v := (0 : Int32)) C dX5_readTruth_34 (by decide) ?_
      obtain ⟨hk, h⟩ := q_obE h
      obtain ⟨⟨u7, M8⟩, e1, h⟩ := q_bind h
      refine x_callV C dX5_readTruth_35 lkM_X5_66 mV_X5_readUnit ⟨_, rfl, rfl⟩ hk ((hr _ _).2.2.2 _ _ _ _ _ _ e1) rfl rfl (Nat.le_of_ble_eq_true rfl) (⟨by omega, by decide⟩) (by decide) ?_
      refine q_if_ne (tgt := 43) C dX5_readTruth_38 (by decide) h (fun _ h => ?_) (fun _ h => ?_)
      · exact q_msk [false, false, false, false] (kE0 _ (Option.some.inj h).symm)
      · refine q_aload_n C dX5_readTruth_43 rfl ?_
        refine x_bipush (v := (-14 : Int32)) C dX5_readTruth_44 (by decide) ?_
        obtain ⟨hk, h⟩ := q_obE h
        obtain ⟨⟨_, M10⟩, e1, h⟩ := q_bind h
        refine x_callVv0 C dX5_readTruth_46 lkM_X5_55 mV_X5_write ⟨_, rfl, rfl⟩ hk (c_X5_write _ _ _ _ _ e1) rfl rfl (Nat.le_of_ble_eq_true rfl) (⟨by omega, by decide⟩) (by decide) ?_
        refine x_iinc (w := (1 : Int32)) (L' := [some (.ref l0), some (.int l1), none, some (.int (l3 + (1 : Int32)))]) C dX5_readTruth_49 rfl (by decide) (by decide) rfl rfl ?_
        refine q_goto (tgt := 13) C dX5_readTruth_52 (by decide) ?_
        exact q_msk [true, true, false, true] (kC _ _ (Option.some.inj h).symm)
  · exact q_msk [false, false, false, false] (kE1 _ (Option.some.inj h).symm)
set_option maxRecDepth 100000 in
set_option maxHeartbeats 4000000 in
theorem lW_X5_readTruth_13 {K : q_K} {Q : State → Prop} {n0 : Nat} (C : q_C K yX5_readTruth cX5_readTruth 4 (Option.some Jvm.ClassFile.FieldType.boolean) (n0 + 71 + 1) 0 0) {rec : (Nat → Nat → Int32 → Int32 → q_Mem → Option (Int32 × q_Mem))} (hr : Hr_X5_readCondition n0 rec) (l0 : Nat) (l1 : Int32) (n : Nat) : ∀ (l3 : Int32) (M : q_Mem) (e : ((q_Mem) ⊕ (q_Mem))), q_lp (fun s => B_X5_readTruth_13 rec l0 l1 s.1 s.2) n (l3, M) = some e → (∀ (M : q_Mem), e = (.inl M) → q_W K 4 Q 0 0 M 41 [none, none, none, none] []) → (∀ (M : q_Mem), e = (.inr M) → q_W K 4 Q 0 0 M 55 [none, none, none, none] []) → q_W K 4 Q 0 0 M 13 [some (.ref l0), some (.int l1), none, some (.int l3)] [] := by
  induction n with
  | zero => intro l3 M e h; cases h
  | succ n ih =>
    intro l3 M e h kE0 kE1
    obtain ⟨stp, e1, e2⟩ := q_bind h
    refine bW_X5_readTruth_13 C hr l0 l1 l3 M e1 (fun a0 a1 hs => ?_) (fun b0 hs => ?_) (fun b0 hs => ?_)
    · subst hs; exact ih _ _ _ e2 kE0 kE1
    · subst hs; exact kE0 _ (Option.some.inj e2).symm
    · subst hs; exact kE1 _ (Option.some.inj e2).symm
noncomputable def F_X5_readTruth (rec : (Nat → Nat → Int32 → Int32 → q_Mem → Option (Int32 × q_Mem))) (l0 : Nat) (l1 : Int32) (l2 : Int32) (M : q_Mem) : Option (Int32 × q_Mem) := (q_ob M l0 5 ((rec 3 l0 l1 l2 M).bind (fun x => match x with | (u1, M2) => (if u1 = 0 then q_rz (0 : Int32) M2 else (q_lp (fun s => B_X5_readTruth_13 rec l0 l1 s.1 s.2) q_fu ((0 : Int32), M2)).bind (fun e11 => match e11 with | .inl M12 => q_rz (0 : Int32) M12 | .inr M13 => q_rz (1 : Int32) M13)))))
set_option maxRecDepth 100000 in
set_option maxHeartbeats 4000000 in
theorem cr_X5_readTruth {l : Launch} {G : q_G} {n0 : Nat} {rec : (Nat → Nat → Int32 → Int32 → q_Mem → Option (Int32 × q_Mem))} (hr : Hr_X5_readCondition n0 rec) (l0 : Nat) (l1 : Int32) (l2 : Int32) (M : q_Mem) {r : Int32} {M' : q_Mem} (h : F_X5_readTruth rec l0 l1 l2 M = some (r, M')) : q_Met l G yX5_readTruth cX5_readTruth 4 (Option.some Jvm.ClassFile.FieldType.boolean) (n0 + 71 + 1) 0 0 [.ref l0, .int l1, .int l2] M (some (.int r)) M' := by
  unfold F_X5_readTruth at h
  refine q_enter [some (.ref l0), some (.int l1), some (.int l2), none] (by decide) (Nat.le_of_ble_eq_true rfl) rfl (fun K C => ?_)
  refine q_aload_n C dX5_readTruth_0 rfl ?_
  refine q_iload_n C dX5_readTruth_1 rfl ?_
  refine q_iload_n C dX5_readTruth_2 rfl ?_
  obtain ⟨hk, h⟩ := q_obE h
  obtain ⟨⟨u1, M2⟩, e1, h⟩ := q_bind h
  refine x_callV C dX5_readTruth_3 lkM_X5_66 mV_X5_readUnit ⟨_, rfl, rfl⟩ hk ((hr _ _).2.2.2 _ _ _ _ _ _ e1) rfl rfl (Nat.le_of_ble_eq_true rfl) (⟨by omega, by decide⟩) (by decide) ?_
  refine q_if_ne (tgt := 11) C dX5_readTruth_6 (by decide) h (fun _ h => ?_) (fun _ h => ?_)
  · refine x_iconst (v := (0 : Int32)) C dX5_readTruth_9 (by decide) ?_
    exact q_zret C dX5_readTruth_10 rfl (by decide) (by decide) (q_rzE h).1 (q_rzE h).2
  · refine x_iconst (v := (0 : Int32)) C dX5_readTruth_11 (by decide) ?_
    refine q_istore_n (L' := [some (.ref l0), some (.int l1), some (.int l2), some (.int (0 : Int32))]) C dX5_readTruth_12 (by decide) rfl rfl ?_
    obtain ⟨e11, he, h⟩ := q_bind h
    refine q_msk [true, true, false, true] (lW_X5_readTruth_13 C hr l0 l1 q_fu _ _ _ he (fun M12 hs => ?_) (fun M13 hs => ?_))
    · have hs := hs.symm
      subst hs
      refine x_iconst (v := (0 : Int32)) C dX5_readTruth_41 (by decide) ?_
      exact q_zret C dX5_readTruth_42 rfl (by decide) (by decide) (q_rzE h).1 (q_rzE h).2
    · have hs := hs.symm
      subst hs
      refine x_iconst (v := (1 : Int32)) C dX5_readTruth_55 (by decide) ?_
      exact q_zret C dX5_readTruth_56 rfl (by decide) (by decide) (q_rzE h).1 (q_rzE h).2
noncomputable def J_X5_readUnit_53 (rec : (Nat → Nat → Int32 → Int32 → q_Mem → Option (Int32 × q_Mem))) (l0 : Nat) (l1 : Int32) (M : q_Mem) : Option (Int32 × q_Mem) := (q_gR M l0 5 0 (fun c7 => q_nn c7 (fun r8 => (q_ob M r8 9 ((F_X9_peekAmong r8 12 M).bind (fun x => match x with | (u9, M10) => (if u9 = (-1 : Int32) then q_rz (0 : Int32) M10 else (q_gR M10 l0 5 0 (fun c11 => q_nn c11 (fun r12 => (q_gI M10 r12 9 2 (fun v13 => (q_pI M10 r12 9 2 (v13 + (1 : Int32)) (fun M14 => (q_ob M14 l0 5 ((R_X5_readAtom 60 1 l0 l1 M14).bind (fun x => match x with | (u15, M16) => (if u15 = 0 then q_rz (0 : Int32) M16 else (q_ob M16 l0 5 ((F_X5_write l0 ((-11 : Int32) - u9) M16).bind (fun x => match x with | (_, M18) => q_rz (1 : Int32) M18)))))))))))))))))))))
set_option maxRecDepth 100000 in
set_option maxHeartbeats 4000000 in
theorem jW_X5_readUnit_53 {K : q_K} {n0 : Nat} (C : q_C K yX5_readUnit cX5_readUnit 4 (Option.some Jvm.ClassFile.FieldType.boolean) (n0 + 71 + 1) 12 0) {rec : (Nat → Nat → Int32 → Int32 → q_Mem → Option (Int32 × q_Mem))} (hr : Hr_X5_readCondition n0 rec) (l0 : Nat) (l1 : Int32) (M : q_Mem) {r : Int32} {M' : q_Mem} (h : J_X5_readUnit_53 rec l0 l1 M = some (r, M')) : q_W K 4 (q_Q K (some (.int r)) M' 12 0) 0 0 M 53 [some (.ref l0), some (.int l1), none, none] [] := by
  unfold J_X5_readUnit_53 at h
  refine q_aload_n C dX5_readUnit_53 rfl ?_
  refine x_getR (ci := 5) (j := 0) C dX5_readUnit_54 lkF_X5_19 rfl h (fun c7 h => ?_)
  refine x_nn h (fun r8 h => ?_)
  refine q_ldcS (i := 4) C dX5_readUnit_57 rfl ?_
  obtain ⟨hk, h⟩ := q_obE h
  obtain ⟨⟨u9, M10⟩, e1, h⟩ := q_bind h
  refine x_callV C dX5_readUnit_59 lkM_X5_45 mV_X9_peekAmong ⟨_, rfl, rfl⟩ hk (c_X9_peekAmong _ _ _ _ _ e1) rfl rfl (Nat.le_of_ble_eq_true rfl) (⟨by omega, by decide⟩) (by decide) ?_
  refine q_istore_n (L' := [some (.ref l0), some (.int l1), none, some (.int u9)]) C dX5_readUnit_62 (by decide) rfl rfl ?_
  refine q_iload_n C dX5_readUnit_63 rfl ?_
  refine x_iconst (v := (-1 : Int32)) C dX5_readUnit_64 (by decide) ?_
  refine q_icmp_ne (tgt := 70) C dX5_readUnit_65 (by decide) h (fun _ h => ?_) (fun _ h => ?_)
  · refine x_iconst (v := (0 : Int32)) C dX5_readUnit_68 (by decide) ?_
    exact q_zret C dX5_readUnit_69 rfl (by decide) (by decide) (q_rzE h).1 (q_rzE h).2
  · refine q_aload_n C dX5_readUnit_70 rfl ?_
    refine x_getR (ci := 5) (j := 0) C dX5_readUnit_71 lkF_X5_19 rfl h (fun c11 h => ?_)
    refine x_nn h (fun r12 h => ?_)
    refine q_dup C dX5_readUnit_74 rfl ?_
    refine x_getI (ci := 9) (j := 2) C dX5_readUnit_75 lkF_X5_72 rfl h (fun v13 h => ?_)
    refine x_iconst (v := (1 : Int32)) C dX5_readUnit_78 (by decide) ?_
    refine q_iadd C dX5_readUnit_79 ?_
    refine x_putI (ci := 9) (j := 2) C dX5_readUnit_80 lkF_X5_72 (fun r hr => by cases hr; rfl) rfl h (fun M14 h => ?_)
    refine q_aload_n C dX5_readUnit_83 rfl ?_
    refine q_iload_n C dX5_readUnit_84 rfl ?_
    obtain ⟨hk, h⟩ := q_obE h
    obtain ⟨⟨u15, M16⟩, e1, h⟩ := q_bind h
    refine x_callV C dX5_readUnit_85 lkM_X5_49 mV_X5_readSum ⟨_, rfl, rfl⟩ hk (c_X5_readSum _ _ _ _ _ e1) rfl rfl (Nat.le_of_ble_eq_true rfl) (⟨by omega, by decide⟩) (by decide) ?_
    refine q_if_ne (tgt := 93) C dX5_readUnit_88 (by decide) h (fun _ h => ?_) (fun _ h => ?_)
    · refine x_iconst (v := (0 : Int32)) C dX5_readUnit_91 (by decide) ?_
      exact q_zret C dX5_readUnit_92 rfl (by decide) (by decide) (q_rzE h).1 (q_rzE h).2
    · refine q_aload_n C dX5_readUnit_93 rfl ?_
      refine x_bipush (v := (-11 : Int32)) C dX5_readUnit_94 (by decide) ?_
      refine q_iload_n C dX5_readUnit_96 rfl ?_
      refine q_isub C dX5_readUnit_97 ?_
      obtain ⟨hk, h⟩ := q_obE h
      obtain ⟨⟨_, M18⟩, e1, h⟩ := q_bind h
      refine x_callVv0 C dX5_readUnit_98 lkM_X5_55 mV_X5_write ⟨_, rfl, rfl⟩ hk (c_X5_write _ _ _ _ _ e1) rfl rfl (Nat.le_of_ble_eq_true rfl) (⟨by omega, by decide⟩) (by decide) ?_
      refine x_iconst (v := (1 : Int32)) C dX5_readUnit_101 (by decide) ?_
      exact q_zret C dX5_readUnit_102 rfl (by decide) (by decide) (q_rzE h).1 (q_rzE h).2
noncomputable def J_X5_readUnit_39 (rec : (Nat → Nat → Int32 → Int32 → q_Mem → Option (Int32 × q_Mem))) (l0 : Nat) (l1 : Int32) (l2 : Int32) (M : q_Mem) : Option (Int32 × q_Mem) := (if l2 = 0 then (q_ob M l0 5 ((R_X5_readAtom 60 1 l0 l1 M).bind (fun x => match x with | (u5, M6) => (if u5 = 0 then q_rz (0 : Int32) M6 else J_X5_readUnit_53 rec l0 l1 M6)))) else J_X5_readUnit_53 rec l0 l1 M)
set_option maxRecDepth 100000 in
set_option maxHeartbeats 4000000 in
theorem jW_X5_readUnit_39 {K : q_K} {n0 : Nat} (C : q_C K yX5_readUnit cX5_readUnit 4 (Option.some Jvm.ClassFile.FieldType.boolean) (n0 + 71 + 1) 12 0) {rec : (Nat → Nat → Int32 → Int32 → q_Mem → Option (Int32 × q_Mem))} (hr : Hr_X5_readCondition n0 rec) (l0 : Nat) (l1 : Int32) (l2 : Int32) (M : q_Mem) {r : Int32} {M' : q_Mem} (h : J_X5_readUnit_39 rec l0 l1 l2 M = some (r, M')) : q_W K 4 (q_Q K (some (.int r)) M' 12 0) 0 0 M 39 [some (.ref l0), some (.int l1), some (.int l2), none] [] := by
  unfold J_X5_readUnit_39 at h
  refine q_iload_n C dX5_readUnit_39 rfl ?_
  refine q_if_ne (tgt := 53) C dX5_readUnit_40 (by decide) h (fun _ h => ?_) (fun _ h => ?_)
  · refine q_aload_n C dX5_readUnit_43 rfl ?_
    refine q_iload_n C dX5_readUnit_44 rfl ?_
    obtain ⟨hk, h⟩ := q_obE h
    obtain ⟨⟨u5, M6⟩, e1, h⟩ := q_bind h
    refine x_callV C dX5_readUnit_45 lkM_X5_49 mV_X5_readSum ⟨_, rfl, rfl⟩ hk (c_X5_readSum _ _ _ _ _ e1) rfl rfl (Nat.le_of_ble_eq_true rfl) (⟨by omega, by decide⟩) (by decide) ?_
    refine q_if_ne (tgt := 53) C dX5_readUnit_48 (by decide) h (fun _ h => ?_) (fun _ h => ?_)
    · refine x_iconst (v := (0 : Int32)) C dX5_readUnit_51 (by decide) ?_
      exact q_zret C dX5_readUnit_52 rfl (by decide) (by decide) (q_rzE h).1 (q_rzE h).2
    · exact q_msk [true, true, false, false] (jW_X5_readUnit_53 C hr l0 l1 M6 h)
  · exact q_msk [true, true, false, false] (jW_X5_readUnit_53 C hr l0 l1 M h)
noncomputable def F_X5_readUnit (rec : (Nat → Nat → Int32 → Int32 → q_Mem → Option (Int32 × q_Mem))) (l0 : Nat) (l1 : Int32) (l2 : Int32) (M : q_Mem) : Option (Int32 × q_Mem) := (if l2 = 0 then (q_gR M l0 5 0 (fun c1 => q_nn c1 (fun r2 => (q_ob M r2 9 ((F_X9_peekAmong r2 10 M).bind (fun x => match x with | (u3, M4) => (if u3 = (-1 : Int32) then J_X5_readUnit_39 rec l0 l1 l2 M4 else (if l1 < (6 : Int32) then (q_ob M4 l0 5 ((rec 1 l0 (l1 + (1 : Int32)) 0 M4).bind (fun x => match x with | (u19, M20) => (if u19 = 0 then q_rz (0 : Int32) M20 else q_rz (1 : Int32) M20)))) else q_rz (0 : Int32) M4)))))))) else J_X5_readUnit_39 rec l0 l1 l2 M)
set_option maxRecDepth 100000 in
set_option maxHeartbeats 4000000 in
theorem cr_X5_readUnit {l : Launch} {G : q_G} {n0 : Nat} {rec : (Nat → Nat → Int32 → Int32 → q_Mem → Option (Int32 × q_Mem))} (hr : Hr_X5_readCondition n0 rec) (l0 : Nat) (l1 : Int32) (l2 : Int32) (M : q_Mem) {r : Int32} {M' : q_Mem} (h : F_X5_readUnit rec l0 l1 l2 M = some (r, M')) : q_Met l G yX5_readUnit cX5_readUnit 4 (Option.some Jvm.ClassFile.FieldType.boolean) (n0 + 71 + 1) 12 0 [.ref l0, .int l1, .int l2] M (some (.int r)) M' := by
  unfold F_X5_readUnit at h
  refine q_enter [some (.ref l0), some (.int l1), some (.int l2), none] (by decide) (Nat.le_of_ble_eq_true rfl) rfl (fun K C => ?_)
  refine q_iload_n C dX5_readUnit_0 rfl ?_
  refine q_if_ne (tgt := 39) C dX5_readUnit_1 (by decide) h (fun _ h => ?_) (fun _ h => ?_)
  · refine q_aload_n C dX5_readUnit_4 rfl ?_
    refine x_getR (ci := 5) (j := 0) C dX5_readUnit_5 lkF_X5_19 rfl h (fun c1 h => ?_)
    refine x_nn h (fun r2 h => ?_)
    refine q_ldcS (i := 3) C dX5_readUnit_8 rfl ?_
    obtain ⟨hk, h⟩ := q_obE h
    obtain ⟨⟨u3, M4⟩, e1, h⟩ := q_bind h
    refine x_callV C dX5_readUnit_10 lkM_X5_45 mV_X9_peekAmong ⟨_, rfl, rfl⟩ hk (c_X9_peekAmong _ _ _ _ _ e1) rfl rfl (Nat.le_of_ble_eq_true rfl) (⟨by omega, by decide⟩) (by decide) ?_
    refine x_iconst (v := (-1 : Int32)) C dX5_readUnit_13 (by decide) ?_
    refine q_icmp_eq (tgt := 39) C dX5_readUnit_14 (by decide) h (fun _ h => ?_) (fun _ h => ?_)
    · exact q_msk [true, true, true, false] (jW_X5_readUnit_39 C hr l0 l1 l2 M4 h)
    · refine q_iload_n C dX5_readUnit_17 rfl ?_
      refine x_bipush (v := (6 : Int32)) C dX5_readUnit_18 (by decide) ?_
      refine q_icmp_ge (tgt := 37) C dX5_readUnit_20 (by decide) h (fun _ h => ?_) (fun _ h => ?_)
      · refine q_aload_n C dX5_readUnit_23 rfl ?_
        refine q_iload_n C dX5_readUnit_24 rfl ?_
        refine x_iconst (v := (1 : Int32)) C dX5_readUnit_25 (by decide) ?_
        refine q_iadd C dX5_readUnit_26 ?_
        obtain ⟨hk, h⟩ := q_obE h
        obtain ⟨⟨u19, M20⟩, e1, h⟩ := q_bind h
        refine x_callV0 C dX5_readUnit_27 lkM_X5_69 mV_X5_readNested ⟨_, rfl, rfl⟩ hk ((hr _ _).2.1 _ _ _ _ _ e1) rfl rfl (Nat.le_of_ble_eq_true rfl) (⟨by omega, by decide⟩) (by decide) ?_
        refine q_if_eq (tgt := 37) C dX5_readUnit_30 (by decide) h (fun _ h => ?_) (fun _ h => ?_)
        · refine x_iconst (v := (0 : Int32)) C dX5_readUnit_37 (by decide) ?_
          exact q_zret C dX5_readUnit_38 rfl (by decide) (by decide) (q_rzE h).1 (q_rzE h).2
        · refine x_iconst (v := (1 : Int32)) C dX5_readUnit_33 (by decide) ?_
          refine q_goto (tgt := 38) C dX5_readUnit_34 (by decide) ?_
          exact q_zret C dX5_readUnit_38 rfl (by decide) (by decide) (q_rzE h).1 (q_rzE h).2
      · refine x_iconst (v := (0 : Int32)) C dX5_readUnit_37 (by decide) ?_
        exact q_zret C dX5_readUnit_38 rfl (by decide) (by decide) (q_rzE h).1 (q_rzE h).2
  · exact q_msk [true, true, true, false] (jW_X5_readUnit_39 C hr l0 l1 l2 M h)
noncomputable def R_X5_readCondition : Nat → Nat → Nat → Int32 → Int32 → q_Mem → Option (Int32 × q_Mem)
  | 0 => fun _ _ _ _ _ => none
  | n + 1 => fun tag a0 b0 b1 M => match tag with | 0 => F_X5_readCondition (R_X5_readCondition n) a0 b0 b1 M | 1 => F_X5_readNested (R_X5_readCondition n) a0 b0 M | 2 => F_X5_readTruth (R_X5_readCondition n) a0 b0 b1 M | _ => F_X5_readUnit (R_X5_readCondition n) a0 b0 b1 M
set_option maxRecDepth 100000 in
theorem Rok_X5_readCondition (n : Nat) : Hr_X5_readCondition n (R_X5_readCondition n) := by
  induction n with
  | zero => exact fun l G => ⟨fun a0 a1 a2 M r M' h => by cases h, fun a0 a1 M r M' h => by cases h, fun a0 a1 a2 M r M' h => by cases h, fun a0 a1 a2 M r M' h => by cases h⟩
  | succ n ih => exact fun l G => ⟨fun a0 a1 a2 M r M' h => cr_X5_readCondition ih a0 a1 a2 M h, fun a0 a1 M r M' h => cr_X5_readNested ih a0 a1 M h, fun a0 a1 a2 M r M' h => cr_X5_readTruth ih a0 a1 a2 M h, fun a0 a1 a2 M r M' h => cr_X5_readUnit ih a0 a1 a2 M h⟩
theorem c_X5_readCondition (l : Launch) (G : q_G) (a0 : Nat) (a1 : Int32) (a2 : Int32) (M : q_Mem) {r : Int32} {M' : q_Mem} (h : R_X5_readCondition 60 0 a0 a1 a2 M = some (r, M')) : q_Met l G yX5_readCondition cX5_readCondition 4 (Option.some Jvm.ClassFile.FieldType.boolean) 131 0 0 [.ref a0, .int a1, .int a2] M (some (.int r)) M' := (Rok_X5_readCondition 60 l G).1 a0 a1 a2 M r M' h
theorem c_X5_readNested (l : Launch) (G : q_G) (a0 : Nat) (a1 : Int32) (M : q_Mem) {r : Int32} {M' : q_Mem} (h : R_X5_readCondition 60 1 a0 a1 0 M = some (r, M')) : q_Met l G yX5_readNested cX5_readNested 2 (Option.some Jvm.ClassFile.FieldType.boolean) 131 0 0 [.ref a0, .int a1] M (some (.int r)) M' := (Rok_X5_readCondition 60 l G).2.1 a0 a1 M r M' h
theorem c_X5_readTruth (l : Launch) (G : q_G) (a0 : Nat) (a1 : Int32) (a2 : Int32) (M : q_Mem) {r : Int32} {M' : q_Mem} (h : R_X5_readCondition 60 2 a0 a1 a2 M = some (r, M')) : q_Met l G yX5_readTruth cX5_readTruth 4 (Option.some Jvm.ClassFile.FieldType.boolean) 131 0 0 [.ref a0, .int a1, .int a2] M (some (.int r)) M' := (Rok_X5_readCondition 60 l G).2.2.1 a0 a1 a2 M r M' h
theorem c_X5_readUnit (l : Launch) (G : q_G) (a0 : Nat) (a1 : Int32) (a2 : Int32) (M : q_Mem) {r : Int32} {M' : q_Mem} (h : R_X5_readCondition 60 3 a0 a1 a2 M = some (r, M')) : q_Met l G yX5_readUnit cX5_readUnit 4 (Option.some Jvm.ClassFile.FieldType.boolean) 131 0 0 [.ref a0, .int a1, .int a2] M (some (.int r)) M' := (Rok_X5_readCondition 60 l G).2.2.2 a0 a1 a2 M r M' h
noncomputable def J_X5_readClause_84 (l0 : Nat) (l1 : Int32) (M : q_Mem) : Option (Int32 × q_Mem) := (q_ob M l0 5 ((R_X5_readCondition 60 0 l0 (0 : Int32) l1 M).bind (fun x => match x with | (u13, M14) => (if u13 = 0 then q_rz (0 : Int32) M14 else (q_gR M14 l0 5 0 (fun c15 => q_nn c15 (fun r16 => (q_ob M14 r16 9 ((F_X9_take r16 (63 : Int32) M14).bind (fun x => match x with | (u17, M18) => (if u17 = 0 then q_rz (0 : Int32) M18 else (q_ob M18 l0 5 ((F_X5_write l0 (-17 : Int32) M18).bind (fun x => match x with | (_, M20) => (q_gI M20 l0 5 2 (fun v21 => (q_ob M20 l0 5 ((F_X5_write l0 (0 : Int32) M20).bind (fun x => match x with | (_, M23) => (q_ob M23 l0 5 ((R_X5_readAtom 60 1 l0 (0 : Int32) M23).bind (fun x => match x with | (u24, M25) => (if u24 = 0 then q_rz (0 : Int32) M25 else (q_ob M25 l0 5 ((F_X5_write l0 (-18 : Int32) M25).bind (fun x => match x with | (_, M27) => (q_gR M27 l0 5 1 (fun c28 => q_nn c28 (fun r29 => (q_al M27 r29 (fun v30 => (if v21 < v30 then (q_gR M27 l0 5 1 (fun c31 => q_nn c31 (fun r32 => (q_gI M27 l0 5 2 (fun v33 => (q_tI M27 r32 v21 v33 (fun M34 => q_rz (1 : Int32) M34))))))) else q_rz (1 : Int32) M27))))))))))))))))))))))))))))))))
set_option maxRecDepth 100000 in
set_option maxHeartbeats 4000000 in
theorem jW_X5_readClause_84 {K : q_K} (C : q_C K yX5_readClause cX5_readClause 3 (Option.some Jvm.ClassFile.FieldType.boolean) 132 12 0) (l0 : Nat) (l1 : Int32) (M : q_Mem) {r : Int32} {M' : q_Mem} (h : J_X5_readClause_84 l0 l1 M = some (r, M')) : q_W K 3 (q_Q K (some (.int r)) M' 12 0) 0 0 M 84 [some (.ref l0), some (.int l1), none] [] := by
  unfold J_X5_readClause_84 at h
  refine q_aload_n C dX5_readClause_84 rfl ?_
  refine x_iconst (v := (0 : Int32)) C dX5_readClause_85 (by decide) ?_
  refine q_iload_n C dX5_readClause_86 rfl ?_
  obtain ⟨hk, h⟩ := q_obE h
  obtain ⟨⟨u13, M14⟩, e1, h⟩ := q_bind h
  refine x_callV0 C dX5_readClause_87 lkM_X5_59 mV_X5_readCondition ⟨_, rfl, rfl⟩ hk (c_X5_readCondition _ _ _ _ _ _ e1) rfl rfl (Nat.le_of_ble_eq_true rfl) (by decide) (by decide) ?_
  refine q_if_eq (tgt := 105) C dX5_readClause_90 (by decide) h (fun _ h => ?_) (fun _ h => ?_)
  · refine x_iconst (v := (0 : Int32)) C dX5_readClause_105 (by decide) ?_
    exact q_zret C dX5_readClause_106 rfl (by decide) (by decide) (q_rzE h).1 (q_rzE h).2
  · refine q_aload_n C dX5_readClause_93 rfl ?_
    refine x_getR (ci := 5) (j := 0) C dX5_readClause_94 lkF_X5_19 rfl h (fun c15 h => ?_)
    refine x_nn h (fun r16 h => ?_)
    refine x_bipush (v := (63 : Int32)) C dX5_readClause_97 (by decide) ?_
    obtain ⟨hk, h⟩ := q_obE h
    obtain ⟨⟨u17, M18⟩, e1, h⟩ := q_bind h
    refine x_callV0 C dX5_readClause_99 lkM_X5_39 mV_X9_take ⟨_, rfl, rfl⟩ hk (c_X9_take _ _ _ _ _ e1) rfl rfl (Nat.le_of_ble_eq_true rfl) (by decide) (by decide) ?_
    refine q_if_ne (tgt := 107) C dX5_readClause_102 (by decide) h (fun _ h => ?_) (fun _ h => ?_)
    · refine x_iconst (v := (0 : Int32)) C dX5_readClause_105 (by decide) ?_
      exact q_zret C dX5_readClause_106 rfl (by decide) (by decide) (q_rzE h).1 (q_rzE h).2
    · refine q_aload_n C dX5_readClause_107 rfl ?_
      refine x_bipush (v := (-17 : Int32)) C dX5_readClause_108 (by decide) ?_
      obtain ⟨hk, h⟩ := q_obE h
      obtain ⟨⟨_, M20⟩, e1, h⟩ := q_bind h
      refine x_callVv0 C dX5_readClause_110 lkM_X5_55 mV_X5_write ⟨_, rfl, rfl⟩ hk (c_X5_write _ _ _ _ _ e1) rfl rfl (Nat.le_of_ble_eq_true rfl) (by decide) (by decide) ?_
      refine q_aload_n C dX5_readClause_113 rfl ?_
      refine x_getI (ci := 5) (j := 2) C dX5_readClause_114 lkF_X5_15 rfl h (fun v21 h => ?_)
      refine q_istore_n (L' := [some (.ref l0), some (.int l1), some (.int v21)]) C dX5_readClause_117 (by decide) rfl rfl ?_
      refine q_aload_n C dX5_readClause_118 rfl ?_
      refine x_iconst (v := (0 : Int32)) C dX5_readClause_119 (by decide) ?_
      obtain ⟨hk, h⟩ := q_obE h
      obtain ⟨⟨_, M23⟩, e1, h⟩ := q_bind h
      refine x_callVv0 C dX5_readClause_120 lkM_X5_55 mV_X5_write ⟨_, rfl, rfl⟩ hk (c_X5_write _ _ _ _ _ e1) rfl rfl (Nat.le_of_ble_eq_true rfl) (by decide) (by decide) ?_
      refine q_aload_n C dX5_readClause_123 rfl ?_
      refine x_iconst (v := (0 : Int32)) C dX5_readClause_124 (by decide) ?_
      obtain ⟨hk, h⟩ := q_obE h
      obtain ⟨⟨u24, M25⟩, e1, h⟩ := q_bind h
      refine x_callV C dX5_readClause_125 lkM_X5_49 mV_X5_readSum ⟨_, rfl, rfl⟩ hk (c_X5_readSum _ _ _ _ _ e1) rfl rfl (Nat.le_of_ble_eq_true rfl) (by decide) (by decide) ?_
      refine q_if_ne (tgt := 133) C dX5_readClause_128 (by decide) h (fun _ h => ?_) (fun _ h => ?_)
      · refine x_iconst (v := (0 : Int32)) C dX5_readClause_131 (by decide) ?_
        exact q_zret C dX5_readClause_132 rfl (by decide) (by decide) (q_rzE h).1 (q_rzE h).2
      · refine q_aload_n C dX5_readClause_133 rfl ?_
        refine x_bipush (v := (-18 : Int32)) C dX5_readClause_134 (by decide) ?_
        obtain ⟨hk, h⟩ := q_obE h
        obtain ⟨⟨_, M27⟩, e1, h⟩ := q_bind h
        refine x_callVv0 C dX5_readClause_136 lkM_X5_55 mV_X5_write ⟨_, rfl, rfl⟩ hk (c_X5_write _ _ _ _ _ e1) rfl rfl (Nat.le_of_ble_eq_true rfl) (by decide) (by decide) ?_
        refine q_iload_n C dX5_readClause_139 rfl ?_
        refine q_aload_n C dX5_readClause_140 rfl ?_
        refine x_getR (ci := 5) (j := 1) C dX5_readClause_141 lkF_X5_9 rfl h (fun c28 h => ?_)
        refine x_nn h (fun r29 h => ?_)
        refine x_alen C dX5_readClause_144 h (fun v30 h => ?_)
        refine q_icmp_ge (tgt := 158) C dX5_readClause_145 (by decide) h (fun _ h => ?_) (fun _ h => ?_)
        · refine q_aload_n C dX5_readClause_148 rfl ?_
          refine x_getR (ci := 5) (j := 1) C dX5_readClause_149 lkF_X5_9 rfl h (fun c31 h => ?_)
          refine x_nn h (fun r32 h => ?_)
          refine q_iload_n C dX5_readClause_152 rfl ?_
          refine q_aload_n C dX5_readClause_153 rfl ?_
          refine x_getI (ci := 5) (j := 2) C dX5_readClause_154 lkF_X5_15 rfl h (fun v33 h => ?_)
          refine x_iast C dX5_readClause_157 h (fun M34 h => ?_)
          refine x_iconst (v := (1 : Int32)) C dX5_readClause_158 (by decide) ?_
          exact q_zret C dX5_readClause_159 rfl (by decide) (by decide) (q_rzE h).1 (q_rzE h).2
        · refine x_iconst (v := (1 : Int32)) C dX5_readClause_158 (by decide) ?_
          exact q_zret C dX5_readClause_159 rfl (by decide) (by decide) (q_rzE h).1 (q_rzE h).2
noncomputable def J_X5_readClause_59 (l0 : Nat) (l1 : Int32) (M : q_Mem) : Option (Int32 × q_Mem) := (if l1 = 0 then J_X5_readClause_84 l0 l1 M else (q_gR M l0 5 0 (fun c35 => q_nn c35 (fun r36 => (q_ob M r36 9 ((F_X9_peekAmong r36 12 M).bind (fun x => match x with | (u37, M38) => (if u37 = (-1 : Int32) then (q_ob M38 l0 5 ((F_X5_write l0 (-18 : Int32) M38).bind (fun x => match x with | (_, M40) => q_rz (1 : Int32) M40))) else J_X5_readClause_84 l0 l1 M38))))))))
set_option maxRecDepth 100000 in
set_option maxHeartbeats 4000000 in
theorem jW_X5_readClause_59 {K : q_K} (C : q_C K yX5_readClause cX5_readClause 3 (Option.some Jvm.ClassFile.FieldType.boolean) 132 12 0) (l0 : Nat) (l1 : Int32) (M : q_Mem) {r : Int32} {M' : q_Mem} (h : J_X5_readClause_59 l0 l1 M = some (r, M')) : q_W K 3 (q_Q K (some (.int r)) M' 12 0) 0 0 M 59 [some (.ref l0), some (.int l1), none] [] := by
  unfold J_X5_readClause_59 at h
  refine q_iload_n C dX5_readClause_59 rfl ?_
  refine q_if_eq (tgt := 84) C dX5_readClause_60 (by decide) h (fun _ h => ?_) (fun _ h => ?_)
  · exact q_msk [true, true, false] (jW_X5_readClause_84 C l0 l1 M h)
  · refine q_aload_n C dX5_readClause_63 rfl ?_
    refine x_getR (ci := 5) (j := 0) C dX5_readClause_64 lkF_X5_19 rfl h (fun c35 h => ?_)
    refine x_nn h (fun r36 h => ?_)
    refine q_ldcS (i := 4) C dX5_readClause_67 rfl ?_
    obtain ⟨hk, h⟩ := q_obE h
    obtain ⟨⟨u37, M38⟩, e1, h⟩ := q_bind h
    refine x_callV C dX5_readClause_69 lkM_X5_45 mV_X9_peekAmong ⟨_, rfl, rfl⟩ hk (c_X9_peekAmong _ _ _ _ _ e1) rfl rfl (Nat.le_of_ble_eq_true rfl) (by decide) (by decide) ?_
    refine x_iconst (v := (-1 : Int32)) C dX5_readClause_72 (by decide) ?_
    refine q_icmp_ne (tgt := 84) C dX5_readClause_73 (by decide) h (fun _ h => ?_) (fun _ h => ?_)
    · refine q_aload_n C dX5_readClause_76 rfl ?_
      refine x_bipush (v := (-18 : Int32)) C dX5_readClause_77 (by decide) ?_
      obtain ⟨hk, h⟩ := q_obE h
      obtain ⟨⟨_, M40⟩, e1, h⟩ := q_bind h
      refine x_callVv0 C dX5_readClause_79 lkM_X5_55 mV_X5_write ⟨_, rfl, rfl⟩ hk (c_X5_write _ _ _ _ _ e1) rfl rfl (Nat.le_of_ble_eq_true rfl) (by decide) (by decide) ?_
      refine x_iconst (v := (1 : Int32)) C dX5_readClause_82 (by decide) ?_
      exact q_zret C dX5_readClause_83 rfl (by decide) (by decide) (q_rzE h).1 (q_rzE h).2
    · exact q_msk [true, true, false] (jW_X5_readClause_84 C l0 l1 M38 h)
noncomputable def J_X5_readClause_44 (l0 : Nat) (s0 : Int32) (M : q_Mem) : Option (Int32 × q_Mem) := (if s0 = 0 then J_X5_readClause_59 l0 s0 M else (q_ob M l0 5 ((R_X5_readAtom 60 1 l0 (0 : Int32) M).bind (fun x => match x with | (u41, M42) => (if u41 = 0 then q_rz (0 : Int32) M42 else J_X5_readClause_59 l0 s0 M42)))))
set_option maxRecDepth 100000 in
set_option maxHeartbeats 4000000 in
theorem jW_X5_readClause_44 {K : q_K} (C : q_C K yX5_readClause cX5_readClause 3 (Option.some Jvm.ClassFile.FieldType.boolean) 132 12 0) (l0 : Nat) (s0 : Int32) (M : q_Mem) {r : Int32} {M' : q_Mem} (h : J_X5_readClause_44 l0 s0 M = some (r, M')) : q_W K 3 (q_Q K (some (.int r)) M' 12 0) 0 0 M 44 [some (.ref l0), none, none] [.int s0] := by
  unfold J_X5_readClause_44 at h
  refine q_istore_n (L' := [some (.ref l0), some (.int s0), none]) C dX5_readClause_44 (by decide) rfl rfl ?_
  refine q_iload_n C dX5_readClause_45 rfl ?_
  refine q_if_eq (tgt := 59) C dX5_readClause_46 (by decide) h (fun _ h => ?_) (fun _ h => ?_)
  · exact q_msk [true, true, false] (jW_X5_readClause_59 C l0 s0 M h)
  · refine q_aload_n C dX5_readClause_49 rfl ?_
    refine x_iconst (v := (0 : Int32)) C dX5_readClause_50 (by decide) ?_
    obtain ⟨hk, h⟩ := q_obE h
    obtain ⟨⟨u41, M42⟩, e1, h⟩ := q_bind h
    refine x_callV C dX5_readClause_51 lkM_X5_49 mV_X5_readSum ⟨_, rfl, rfl⟩ hk (c_X5_readSum _ _ _ _ _ e1) rfl rfl (Nat.le_of_ble_eq_true rfl) (by decide) (by decide) ?_
    refine q_if_ne (tgt := 59) C dX5_readClause_54 (by decide) h (fun _ h => ?_) (fun _ h => ?_)
    · refine x_iconst (v := (0 : Int32)) C dX5_readClause_57 (by decide) ?_
      exact q_zret C dX5_readClause_58 rfl (by decide) (by decide) (q_rzE h).1 (q_rzE h).2
    · exact q_msk [true, true, false] (jW_X5_readClause_59 C l0 s0 M42 h)
noncomputable def F_X5_readClause (l0 : Nat) (M : q_Mem) : Option (Int32 × q_Mem) := (q_gR M l0 5 0 (fun c1 => q_nn c1 (fun r2 => (q_ob M r2 9 ((F_X9_take r2 (121 : Int32) M).bind (fun x => match x with | (u3, M4) => (if u3 = 0 then q_rz (0 : Int32) M4 else (q_gR M4 l0 5 0 (fun c5 => q_nn c5 (fun r6 => (q_ob M4 r6 9 ((F_X9_take r6 (58 : Int32) M4).bind (fun x => match x with | (u7, M8) => (if u7 = 0 then q_rz (0 : Int32) M8 else (q_gR M8 l0 5 0 (fun c9 => q_nn c9 (fun r10 => (q_ob M8 r10 9 ((F_X9_peekAmong r10 10 M8).bind (fun x => match x with | (u11, M12) => (if u11 = (-1 : Int32) then J_X5_readClause_44 l0 (1 : Int32) M12 else J_X5_readClause_44 l0 (0 : Int32) M12)))))))))))))))))))))
set_option maxRecDepth 100000 in
set_option maxHeartbeats 4000000 in
theorem c_X5_readClause (l : Launch) (G : q_G) (l0 : Nat) (M : q_Mem) {r : Int32} {M' : q_Mem} (h : F_X5_readClause l0 M = some (r, M')) : q_Met l G yX5_readClause cX5_readClause 3 (Option.some Jvm.ClassFile.FieldType.boolean) 132 12 0 [.ref l0] M (some (.int r)) M' := by
  unfold F_X5_readClause at h
  refine q_enter [some (.ref l0), none, none] (by decide) (Nat.le_of_ble_eq_true rfl) rfl (fun K C => ?_)
  refine q_aload_n C dX5_readClause_0 rfl ?_
  refine x_getR (ci := 5) (j := 0) C dX5_readClause_1 lkF_X5_19 rfl h (fun c1 h => ?_)
  refine x_nn h (fun r2 h => ?_)
  refine x_bipush (v := (121 : Int32)) C dX5_readClause_4 (by decide) ?_
  obtain ⟨hk, h⟩ := q_obE h
  obtain ⟨⟨u3, M4⟩, e1, h⟩ := q_bind h
  refine x_callV0 C dX5_readClause_6 lkM_X5_39 mV_X9_take ⟨_, rfl, rfl⟩ hk (c_X9_take _ _ _ _ _ e1) rfl rfl (Nat.le_of_ble_eq_true rfl) (by decide) (by decide) ?_
  refine q_if_eq (tgt := 24) C dX5_readClause_9 (by decide) h (fun _ h => ?_) (fun _ h => ?_)
  · refine x_iconst (v := (0 : Int32)) C dX5_readClause_24 (by decide) ?_
    exact q_zret C dX5_readClause_25 rfl (by decide) (by decide) (q_rzE h).1 (q_rzE h).2
  · refine q_aload_n C dX5_readClause_12 rfl ?_
    refine x_getR (ci := 5) (j := 0) C dX5_readClause_13 lkF_X5_19 rfl h (fun c5 h => ?_)
    refine x_nn h (fun r6 h => ?_)
    refine x_bipush (v := (58 : Int32)) C dX5_readClause_16 (by decide) ?_
    obtain ⟨hk, h⟩ := q_obE h
    obtain ⟨⟨u7, M8⟩, e1, h⟩ := q_bind h
    refine x_callV0 C dX5_readClause_18 lkM_X5_39 mV_X9_take ⟨_, rfl, rfl⟩ hk (c_X9_take _ _ _ _ _ e1) rfl rfl (Nat.le_of_ble_eq_true rfl) (by decide) (by decide) ?_
    refine q_if_ne (tgt := 26) C dX5_readClause_21 (by decide) h (fun _ h => ?_) (fun _ h => ?_)
    · refine x_iconst (v := (0 : Int32)) C dX5_readClause_24 (by decide) ?_
      exact q_zret C dX5_readClause_25 rfl (by decide) (by decide) (q_rzE h).1 (q_rzE h).2
    · refine q_aload_n C dX5_readClause_26 rfl ?_
      refine x_getR (ci := 5) (j := 0) C dX5_readClause_27 lkF_X5_19 rfl h (fun c9 h => ?_)
      refine x_nn h (fun r10 h => ?_)
      refine q_ldcS (i := 3) C dX5_readClause_30 rfl ?_
      obtain ⟨hk, h⟩ := q_obE h
      obtain ⟨⟨u11, M12⟩, e1, h⟩ := q_bind h
      refine x_callV C dX5_readClause_32 lkM_X5_45 mV_X9_peekAmong ⟨_, rfl, rfl⟩ hk (c_X9_peekAmong _ _ _ _ _ e1) rfl rfl (Nat.le_of_ble_eq_true rfl) (by decide) (by decide) ?_
      refine x_iconst (v := (-1 : Int32)) C dX5_readClause_35 (by decide) ?_
      refine q_icmp_ne (tgt := 43) C dX5_readClause_36 (by decide) h (fun _ h => ?_) (fun _ h => ?_)
      · refine x_iconst (v := (1 : Int32)) C dX5_readClause_39 (by decide) ?_
        refine q_goto (tgt := 44) C dX5_readClause_40 (by decide) ?_
        exact q_msk [true, false, false] (jW_X5_readClause_44 C l0 (1 : Int32) M12 h)
      · refine x_iconst (v := (0 : Int32)) C dX5_readClause_43 (by decide) ?_
        exact q_msk [true, false, false] (jW_X5_readClause_44 C l0 (0 : Int32) M12 h)
noncomputable def B_X5_readLaw_7 (l0 : Nat) (l1 : Int32) (M : q_Mem) : Option ((Int32 × q_Mem) ⊕ ((q_Mem) ⊕ ((q_Mem) ⊕ ((q_Mem) ⊕ (q_Mem))))) := (if (240 : Int32) < l1 then some (.inr (.inr (.inr (.inr M)))) else (q_ob M l0 5 ((F_X5_readClause l0 M).bind (fun x => match x with | (u2, M3) => (if u2 = 0 then some (.inr (.inl M3)) else (q_gR M3 l0 5 0 (fun c4 => q_nn c4 (fun r5 => (q_ob M3 r5 9 ((F_X9_peek r5 M3).bind (fun x => match x with | (u6, M7) => (if u6 = (-1 : Int32) then some (.inr (.inr (.inl M7))) else (q_gR M7 l0 5 0 (fun c8 => q_nn c8 (fun r9 => (q_ob M7 r9 9 ((F_X9_take r9 (59 : Int32) M7).bind (fun x => match x with | (u10, M11) => (if u10 = 0 then some (.inr (.inr (.inr (.inl M11)))) else some (.inl ((l1 + (1 : Int32)), M11)))))))))))))))))))))
set_option maxRecDepth 100000 in
set_option maxHeartbeats 4000000 in
theorem bW_X5_readLaw_7 {K : q_K} {Q : State → Prop} (C : q_C K yX5_readLaw cX5_readLaw 2 (Option.some Jvm.ClassFile.FieldType.boolean) 133 12 0) (l0 : Nat) (l1 : Int32) (M : q_Mem) {stp : (Int32 × q_Mem) ⊕ ((q_Mem) ⊕ ((q_Mem) ⊕ ((q_Mem) ⊕ (q_Mem))))} (h : B_X5_readLaw_7 l0 l1 M = some stp) (kC : ∀ (l1 : Int32) (M : q_Mem), stp = .inl (l1, M) → q_W K 2 Q 0 0 M 7 [some (.ref l0), some (.int l1)] []) (kE0 : ∀ (M : q_Mem), stp = .inr (.inl M) → q_W K 2 Q 0 0 M 21 [none, none] []) (kE1 : ∀ (M : q_Mem), stp = .inr (.inr (.inl M)) → q_W K 2 Q 0 0 M 34 [none, none] []) (kE2 : ∀ (M : q_Mem), stp = .inr (.inr (.inr (.inl M))) → q_W K 2 Q 0 0 M 48 [none, none] []) (kE3 : ∀ (M : q_Mem), stp = .inr (.inr (.inr (.inr M))) → q_W K 2 Q 0 0 M 56 [none, none] []) : q_W K 2 Q 0 0 M 7 [some (.ref l0), some (.int l1)] [] := by
  unfold B_X5_readLaw_7 at h
  refine q_iload_n C dX5_readLaw_7 rfl ?_
  refine x_sipush (v := (240 : Int32)) C dX5_readLaw_8 (by decide) ?_
  refine q_icmp_gt (tgt := 56) C dX5_readLaw_11 (by decide) h (fun _ h => ?_) (fun _ h => ?_)
  · exact q_msk [false, false] (kE3 _ (Option.some.inj h).symm)
  · refine q_aload_n C dX5_readLaw_14 rfl ?_
    obtain ⟨hk, h⟩ := q_obE h
    obtain ⟨⟨u2, M3⟩, e1, h⟩ := q_bind h
    refine x_callV C dX5_readLaw_15 lkM_X5_29 mV_X5_readClause ⟨_, rfl, rfl⟩ hk (c_X5_readClause _ _ _ _ e1) rfl rfl (Nat.le_of_ble_eq_true rfl) (by decide) (by decide) ?_
    refine q_if_ne (tgt := 23) C dX5_readLaw_18 (by decide) h (fun _ h => ?_) (fun _ h => ?_)
    · exact q_msk [false, false] (kE0 _ (Option.some.inj h).symm)
    · refine q_aload_n C dX5_readLaw_23 rfl ?_
      refine x_getR (ci := 5) (j := 0) C dX5_readLaw_24 lkF_X5_19 rfl h (fun c4 h => ?_)
      refine x_nn h (fun r5 h => ?_)
      obtain ⟨hk, h⟩ := q_obE h
      obtain ⟨⟨u6, M7⟩, e1, h⟩ := q_bind h
      refine x_callV0 C dX5_readLaw_27 lkM_X5_33 mV_X9_peek ⟨_, rfl, rfl⟩ hk (c_X9_peek _ _ _ _ e1) rfl rfl (Nat.le_of_ble_eq_true rfl) (by decide) (by decide) ?_
      refine x_iconst (v := (-1 : Int32)) C dX5_readLaw_30 (by decide) ?_
      refine q_icmp_ne (tgt := 36) C dX5_readLaw_31 (by decide) h (fun _ h => ?_) (fun _ h => ?_)
      · exact q_msk [false, false] (kE1 _ (Option.some.inj h).symm)
      · refine q_aload_n C dX5_readLaw_36 rfl ?_
        refine x_getR (ci := 5) (j := 0) C dX5_readLaw_37 lkF_X5_19 rfl h (fun c8 h => ?_)
        refine x_nn h (fun r9 h => ?_)
        refine x_bipush (v := (59 : Int32)) C dX5_readLaw_40 (by decide) ?_
        obtain ⟨hk, h⟩ := q_obE h
        obtain ⟨⟨u10, M11⟩, e1, h⟩ := q_bind h
        refine x_callV0 C dX5_readLaw_42 lkM_X5_39 mV_X9_take ⟨_, rfl, rfl⟩ hk (c_X9_take _ _ _ _ _ e1) rfl rfl (Nat.le_of_ble_eq_true rfl) (by decide) (by decide) ?_
        refine q_if_ne (tgt := 50) C dX5_readLaw_45 (by decide) h (fun _ h => ?_) (fun _ h => ?_)
        · exact q_msk [false, false] (kE2 _ (Option.some.inj h).symm)
        · refine x_iinc (w := (1 : Int32)) (L' := [some (.ref l0), some (.int (l1 + (1 : Int32)))]) C dX5_readLaw_50 rfl (by decide) (by decide) rfl rfl ?_
          refine q_goto (tgt := 7) C dX5_readLaw_53 (by decide) ?_
          exact q_msk [true, true] (kC _ _ (Option.some.inj h).symm)
set_option maxRecDepth 100000 in
set_option maxHeartbeats 4000000 in
theorem lW_X5_readLaw_7 {K : q_K} {Q : State → Prop} (C : q_C K yX5_readLaw cX5_readLaw 2 (Option.some Jvm.ClassFile.FieldType.boolean) 133 12 0) (l0 : Nat) (n : Nat) : ∀ (l1 : Int32) (M : q_Mem) (e : ((q_Mem) ⊕ ((q_Mem) ⊕ ((q_Mem) ⊕ (q_Mem))))), q_lp (fun s => B_X5_readLaw_7 l0 s.1 s.2) n (l1, M) = some e → (∀ (M : q_Mem), e = (.inl M) → q_W K 2 Q 0 0 M 21 [none, none] []) → (∀ (M : q_Mem), e = (.inr (.inl M)) → q_W K 2 Q 0 0 M 34 [none, none] []) → (∀ (M : q_Mem), e = (.inr (.inr (.inl M))) → q_W K 2 Q 0 0 M 48 [none, none] []) → (∀ (M : q_Mem), e = (.inr (.inr (.inr M))) → q_W K 2 Q 0 0 M 56 [none, none] []) → q_W K 2 Q 0 0 M 7 [some (.ref l0), some (.int l1)] [] := by
  induction n with
  | zero => intro l1 M e h; cases h
  | succ n ih =>
    intro l1 M e h kE0 kE1 kE2 kE3
    obtain ⟨stp, e1, e2⟩ := q_bind h
    refine bW_X5_readLaw_7 C l0 l1 M e1 (fun a0 a1 hs => ?_) (fun b0 hs => ?_) (fun b0 hs => ?_) (fun b0 hs => ?_) (fun b0 hs => ?_)
    · subst hs; exact ih _ _ _ e2 kE0 kE1 kE2 kE3
    · subst hs; exact kE0 _ (Option.some.inj e2).symm
    · subst hs; exact kE1 _ (Option.some.inj e2).symm
    · subst hs; exact kE2 _ (Option.some.inj e2).symm
    · subst hs; exact kE3 _ (Option.some.inj e2).symm
noncomputable def F_X5_readLaw (l0 : Nat) (M : q_Mem) : Option (Int32 × q_Mem) := (q_pI M l0 5 2 (0 : Int32) (fun M1 => (q_lp (fun s => B_X5_readLaw_7 l0 s.1 s.2) q_fu ((0 : Int32), M1)).bind (fun e12 => match e12 with | .inl M13 => q_rz (0 : Int32) M13 | .inr (.inl M14) => q_rz (1 : Int32) M14 | .inr (.inr (.inl M15)) => q_rz (0 : Int32) M15 | .inr (.inr (.inr M16)) => q_rz (0 : Int32) M16)))
set_option maxRecDepth 100000 in
set_option maxHeartbeats 4000000 in
theorem c_X5_readLaw (l : Launch) (G : q_G) (l0 : Nat) (M : q_Mem) {r : Int32} {M' : q_Mem} (h : F_X5_readLaw l0 M = some (r, M')) : q_Met l G yX5_readLaw cX5_readLaw 2 (Option.some Jvm.ClassFile.FieldType.boolean) 133 12 0 [.ref l0] M (some (.int r)) M' := by
  unfold F_X5_readLaw at h
  refine q_enter [some (.ref l0), none] (by decide) (Nat.le_of_ble_eq_true rfl) rfl (fun K C => ?_)
  refine q_aload_n C dX5_readLaw_0 rfl ?_
  refine x_iconst (v := (0 : Int32)) C dX5_readLaw_1 (by decide) ?_
  refine x_putI (ci := 5) (j := 2) C dX5_readLaw_2 lkF_X5_15 (fun r hr => by cases hr; rfl) rfl h (fun M1 h => ?_)
  refine x_iconst (v := (0 : Int32)) C dX5_readLaw_5 (by decide) ?_
  refine q_istore_n (L' := [some (.ref l0), some (.int (0 : Int32))]) C dX5_readLaw_6 (by decide) rfl rfl ?_
  obtain ⟨e12, he, h⟩ := q_bind h
  refine q_msk [true, true] (lW_X5_readLaw_7 C l0 q_fu _ _ _ he (fun M13 hs => ?_) (fun M14 hs => ?_) (fun M15 hs => ?_) (fun M16 hs => ?_))
  · have hs := hs.symm
    subst hs
    refine x_iconst (v := (0 : Int32)) C dX5_readLaw_21 (by decide) ?_
    exact q_zret C dX5_readLaw_22 rfl (by decide) (by decide) (q_rzE h).1 (q_rzE h).2
  · have hs := hs.symm
    subst hs
    refine x_iconst (v := (1 : Int32)) C dX5_readLaw_34 (by decide) ?_
    exact q_zret C dX5_readLaw_35 rfl (by decide) (by decide) (q_rzE h).1 (q_rzE h).2
  · have hs := hs.symm
    subst hs
    refine x_iconst (v := (0 : Int32)) C dX5_readLaw_48 (by decide) ?_
    exact q_zret C dX5_readLaw_49 rfl (by decide) (by decide) (q_rzE h).1 (q_rzE h).2
  · have hs := hs.symm
    subst hs
    refine x_iconst (v := (0 : Int32)) C dX5_readLaw_56 (by decide) ?_
    exact q_zret C dX5_readLaw_57 rfl (by decide) (by decide) (q_rzE h).1 (q_rzE h).2
noncomputable def F_X6_init (l0 : Nat) (M : q_Mem) : Option (Unit × q_Mem) := (q_nA M 0 (1240 : Int32) 1240 (fun k1 M2 => (q_pR M2 l0 6 0 (k1 + 1) (fun M3 => (q_nA M3 0 (384 : Int32) 384 (fun k4 M5 => (q_pR M5 l0 6 1 (k4 + 1) (fun M6 => (q_nA M6 0 (384 : Int32) 384 (fun k7 M8 => (q_pR M8 l0 6 2 (k7 + 1) (fun M9 => (q_nO M9 8 (fun k10 M11 => ((F_X8_init k10 M11).bind (fun x => match x with | (_, M13) => (q_pR M13 l0 6 3 (k10 + 1) (fun M14 => (q_pZ M14 l0 6 4 (0 : Int32) (fun M15 => (q_pI M15 l0 6 5 (0 : Int32) (fun M16 => (q_pI M16 l0 6 6 (0 : Int32) (fun M17 => some ((), M17)))))))))))))))))))))))))
set_option maxRecDepth 100000 in
set_option maxHeartbeats 4000000 in
theorem c_X6_init (l : Launch) (G : q_G) (l0 : Nat) (M : q_Mem) {r : Unit} {M' : q_Mem} (h : F_X6_init l0 M = some (r, M')) : q_Met l G yX6_init cX6_init 1 (Option.none : Option Jvm.ClassFile.FieldType) 3 5 2040 [.ref l0] M none M' := by
  unfold F_X6_init at h
  refine q_enter [some (.ref l0)] (by decide) (Nat.le_of_ble_eq_true rfl) rfl (fun K C => ?_)
  refine q_aload_n C dX6_init_0 rfl ?_
  refine q_objI C dX6_init_1 wd_144 wd_33 wd_34 (by decide) (Nat.le_of_ble_eq_true rfl) ?_
  refine q_aload_n C dX6_init_4 rfl ?_
  refine x_sipush (v := (1240 : Int32)) C dX6_init_5 (by decide) ?_
  refine x_newa C dX6_init_8 (by simp) wd_103 (by decide) h (by decide) (fun k1 M2 h => ?_)
  refine x_putR (ci := 6) (j := 0) (k1 + 1) C dX6_init_10 lkF_X6_9 (fun r hr => by cases hr; exact Or.inr ⟨rfl, rfl, wd_147⟩) (Or.inr ⟨_, rfl⟩) rfl h (fun M3 h => ?_)
  refine q_aload_n C dX6_init_13 rfl ?_
  refine x_sipush (v := (384 : Int32)) C dX6_init_14 (by decide) ?_
  refine x_newa C dX6_init_17 (by simp) wd_103 (by decide) h (by decide) (fun k4 M5 h => ?_)
  refine x_putR (ci := 6) (j := 1) (k4 + 1) C dX6_init_19 lkF_X6_15 (fun r hr => by cases hr; exact Or.inr ⟨rfl, rfl, wd_148⟩) (Or.inr ⟨_, rfl⟩) rfl h (fun M6 h => ?_)
  refine q_aload_n C dX6_init_22 rfl ?_
  refine x_sipush (v := (384 : Int32)) C dX6_init_23 (by decide) ?_
  refine x_newa C dX6_init_26 (by simp) wd_103 (by decide) h (by decide) (fun k7 M8 h => ?_)
  refine x_putR (ci := 6) (j := 2) (k7 + 1) C dX6_init_28 lkF_X6_18 (fun r hr => by cases hr; exact Or.inr ⟨rfl, rfl, wd_149⟩) (Or.inr ⟨_, rfl⟩) rfl h (fun M9 h => ?_)
  refine q_aload_n C dX6_init_31 rfl ?_
  refine x_new (ci := 8) C dX6_init_32 rfl clok_8 wd_145 wd_125 wd_5 df_8 h (by decide) (fun k10 M11 h => ?_)
  refine q_dup C dX6_init_35 rfl ?_
  obtain ⟨⟨_, M13⟩, e1, h⟩ := q_bind h
  refine x_callI C dX6_init_36 lkM_X6_23 mI_X8_init (c_X8_init _ _ _ _ e1) rfl rfl (Nat.le_of_ble_eq_true rfl) (by decide) (by decide) ?_
  refine x_putR (ci := 6) (j := 3) (k10 + 1) C dX6_init_39 lkF_X6_24 (fun r hr => by cases hr; exact Or.inr ⟨rfl, rfl, wd_150⟩) (Or.inl ⟨_, rfl⟩) rfl h (fun M14 h => ?_)
  refine q_aload_n C dX6_init_42 rfl ?_
  refine x_iconst (v := (0 : Int32)) C dX6_init_43 (by decide) ?_
  refine x_putZ (ci := 6) (j := 4) C dX6_init_44 lkF_X6_28 (fun r hr => by cases hr; rfl) rfl h (fun M15 h => ?_)
  refine q_aload_n C dX6_init_47 rfl ?_
  refine x_iconst (v := (0 : Int32)) C dX6_init_48 (by decide) ?_
  refine x_putI (ci := 6) (j := 5) C dX6_init_49 lkF_X6_32 (fun r hr => by cases hr; rfl) rfl h (fun M16 h => ?_)
  refine q_aload_n C dX6_init_52 rfl ?_
  refine x_iconst (v := (0 : Int32)) C dX6_init_53 (by decide) ?_
  refine x_putI (ci := 6) (j := 6) C dX6_init_54 lkF_X6_36 (fun r hr => by cases hr; rfl) rfl h (fun M17 h => ?_)
  exact q_vret C dX6_init_57 rfl (by decide) (by decide) (Option.some.inj h)
noncomputable def F_X6_forget (l0 : Nat) (M : q_Mem) : Option (Unit × q_Mem) := (q_pI M l0 6 6 (0 : Int32) (fun M1 => (q_pZ M1 l0 6 4 (0 : Int32) (fun M2 => some ((), M2)))))
set_option maxRecDepth 100000 in
set_option maxHeartbeats 4000000 in
theorem c_X6_forget (l : Launch) (G : q_G) (l0 : Nat) (M : q_Mem) {r : Unit} {M' : q_Mem} (h : F_X6_forget l0 M = some (r, M')) : q_Met l G yX6_forget cX6_forget 1 (Option.none : Option Jvm.ClassFile.FieldType) 1 0 0 [.ref l0] M none M' := by
  unfold F_X6_forget at h
  refine q_enter [some (.ref l0)] (by decide) (Nat.le_of_ble_eq_true rfl) rfl (fun K C => ?_)
  refine q_aload_n C dX6_forget_0 rfl ?_
  refine x_iconst (v := (0 : Int32)) C dX6_forget_1 (by decide) ?_
  refine x_putI (ci := 6) (j := 6) C dX6_forget_2 lkF_X6_36 (fun r hr => by cases hr; rfl) rfl h (fun M1 h => ?_)
  refine q_aload_n C dX6_forget_5 rfl ?_
  refine x_iconst (v := (0 : Int32)) C dX6_forget_6 (by decide) ?_
  refine x_putZ (ci := 6) (j := 4) C dX6_forget_7 lkF_X6_28 (fun r hr => by cases hr; rfl) rfl h (fun M2 h => ?_)
  exact q_vret C dX6_forget_10 rfl (by decide) (by decide) (Option.some.inj h)
noncomputable def J_X6_keepAct_43 (l0 : Nat) (s0 : Nat) (s1 : Int32) (M : q_Mem) : Option (Unit × q_Mem) := (q_pI M s0 6 5 s1 (fun M9 => (q_gI M9 l0 6 6 (fun v10 => (q_pI M9 l0 6 6 (q_mn (v10 + (1 : Int32)) (40 : Int32)) (fun M11 => some ((), M11)))))))
set_option maxRecDepth 100000 in
set_option maxHeartbeats 4000000 in
theorem jW_X6_keepAct_43 {K : q_K} (C : q_C K yX6_keepAct cX6_keepAct 2 (Option.none : Option Jvm.ClassFile.FieldType) 2 0 0) (l0 : Nat) (s0 : Nat) (s1 : Int32) (M : q_Mem) {r : Unit} {M' : q_Mem} (h : J_X6_keepAct_43 l0 s0 s1 M = some (r, M')) : q_W K 2 (q_Q K none M' 0 0) 0 0 M 43 [some (.ref l0), none] [.int s1, .ref s0] := by
  unfold J_X6_keepAct_43 at h
  refine x_putI (ci := 6) (j := 5) C dX6_keepAct_43 lkF_X6_32 (fun r hr => by cases hr; rfl) rfl h (fun M9 h => ?_)
  refine q_aload_n C dX6_keepAct_46 rfl ?_
  refine q_aload_n C dX6_keepAct_47 rfl ?_
  refine x_getI (ci := 6) (j := 6) C dX6_keepAct_48 lkF_X6_36 rfl h (fun v10 h => ?_)
  refine x_iconst (v := (1 : Int32)) C dX6_keepAct_51 (by decide) ?_
  refine q_iadd C dX6_keepAct_52 ?_
  refine x_bipush (v := (40 : Int32)) C dX6_keepAct_53 (by decide) ?_
  refine q_min C dX6_keepAct_55 wd_803 wd_473 wd_15 wd_474 (by decide) (Nat.le_of_ble_eq_true rfl) (by decide) ?_
  refine x_putI (ci := 6) (j := 6) C dX6_keepAct_58 lkF_X6_36 (fun r hr => by cases hr; rfl) rfl h (fun M11 h => ?_)
  exact q_vret C dX6_keepAct_61 rfl (by decide) (by decide) (Option.some.inj h)
noncomputable def F_X6_keepAct (l0 : Nat) (l1 : Nat) (M : q_Mem) : Option (Unit × q_Mem) := (q_gR M l1 8 0 (fun c1 => q_nn c1 (fun r2 => (q_gR M l0 6 0 (fun c3 => q_nn c3 (fun r4 => (q_gI M l0 6 5 (fun v5 => (q_cp M r2 (0 : Int32) r4 (v5 * (31 : Int32)) (31 : Int32) (fun M6 => (q_gI M6 l0 6 5 (fun v7 => (if (v7 + (1 : Int32)) < (40 : Int32) then (q_gI M6 l0 6 5 (fun v8 => J_X6_keepAct_43 l0 l0 (v8 + (1 : Int32)) M6)) else J_X6_keepAct_43 l0 l0 (0 : Int32) M6)))))))))))))
set_option maxRecDepth 100000 in
set_option maxHeartbeats 4000000 in
theorem c_X6_keepAct (l : Launch) (G : q_G) (l0 : Nat) (l1 : Nat) (M : q_Mem) {r : Unit} {M' : q_Mem} (h : F_X6_keepAct l0 l1 M = some (r, M')) : q_Met l G yX6_keepAct cX6_keepAct 2 (Option.none : Option Jvm.ClassFile.FieldType) 2 0 0 [.ref l0, .ref l1] M none M' := by
  unfold F_X6_keepAct at h
  refine q_enter [some (.ref l0), some (.ref l1)] (by decide) (Nat.le_of_ble_eq_true rfl) rfl (fun K C => ?_)
  refine q_aload_n C dX6_keepAct_0 rfl ?_
  refine x_getR (ci := 8) (j := 0) C dX6_keepAct_1 lkF_X6_39 rfl h (fun c1 h => ?_)
  refine x_nn h (fun r2 h => ?_)
  refine x_iconst (v := (0 : Int32)) C dX6_keepAct_4 (by decide) ?_
  refine q_aload_n C dX6_keepAct_5 rfl ?_
  refine x_getR (ci := 6) (j := 0) C dX6_keepAct_6 lkF_X6_9 rfl h (fun c3 h => ?_)
  refine x_nn h (fun r4 h => ?_)
  refine q_aload_n C dX6_keepAct_9 rfl ?_
  refine x_getI (ci := 6) (j := 5) C dX6_keepAct_10 lkF_X6_32 rfl h (fun v5 h => ?_)
  refine x_bipush (v := (31 : Int32)) C dX6_keepAct_13 (by decide) ?_
  refine q_imul C dX6_keepAct_15 ?_
  refine x_bipush (v := (31 : Int32)) C dX6_keepAct_16 (by decide) ?_
  refine x_copy C dX6_keepAct_18 wd_802 wd_626 wd_625 wd_19 (by decide) (Nat.le_of_ble_eq_true rfl) h (fun M6 h => ?_)
  refine q_aload_n C dX6_keepAct_21 rfl ?_
  refine q_aload_n C dX6_keepAct_22 rfl ?_
  refine x_getI (ci := 6) (j := 5) C dX6_keepAct_23 lkF_X6_32 rfl h (fun v7 h => ?_)
  refine x_iconst (v := (1 : Int32)) C dX6_keepAct_26 (by decide) ?_
  refine q_iadd C dX6_keepAct_27 ?_
  refine x_bipush (v := (40 : Int32)) C dX6_keepAct_28 (by decide) ?_
  refine q_icmp_ge (tgt := 42) C dX6_keepAct_30 (by decide) h (fun _ h => ?_) (fun _ h => ?_)
  · refine q_aload_n C dX6_keepAct_33 rfl ?_
    refine x_getI (ci := 6) (j := 5) C dX6_keepAct_34 lkF_X6_32 rfl h (fun v8 h => ?_)
    refine x_iconst (v := (1 : Int32)) C dX6_keepAct_37 (by decide) ?_
    refine q_iadd C dX6_keepAct_38 ?_
    refine q_goto (tgt := 43) C dX6_keepAct_39 (by decide) ?_
    exact q_msk [true, false] (jW_X6_keepAct_43 C l0 l0 (v8 + (1 : Int32)) M6 h)
  · refine x_iconst (v := (0 : Int32)) C dX6_keepAct_42 (by decide) ?_
    exact q_msk [true, false] (jW_X6_keepAct_43 C l0 l0 (0 : Int32) M6 h)
noncomputable def J_X6_undoAct_28 (l0 : Nat) (l1 : Nat) (s0 : Nat) (s1 : Int32) (M : q_Mem) : Option (Int32 × q_Mem) := (q_pI M s0 6 5 s1 (fun M4 => (q_gI M4 l0 6 6 (fun v5 => (q_pI M4 l0 6 6 (v5 - (1 : Int32)) (fun M6 => (q_gR M6 l0 6 0 (fun c7 => q_nn c7 (fun r8 => (q_gI M6 l0 6 5 (fun v9 => (q_gR M6 l1 8 0 (fun c10 => q_nn c10 (fun r11 => (q_cp M6 r8 (v9 * (31 : Int32)) r11 (0 : Int32) (31 : Int32) (fun M12 => q_rz (1 : Int32) M12))))))))))))))))
set_option maxRecDepth 100000 in
set_option maxHeartbeats 4000000 in
theorem jW_X6_undoAct_28 {K : q_K} (C : q_C K yX6_undoAct cX6_undoAct 2 (Option.some Jvm.ClassFile.FieldType.boolean) 2 0 0) (l0 : Nat) (l1 : Nat) (s0 : Nat) (s1 : Int32) (M : q_Mem) {r : Int32} {M' : q_Mem} (h : J_X6_undoAct_28 l0 l1 s0 s1 M = some (r, M')) : q_W K 2 (q_Q K (some (.int r)) M' 0 0) 0 0 M 28 [some (.ref l0), some (.ref l1)] [.int s1, .ref s0] := by
  unfold J_X6_undoAct_28 at h
  refine x_putI (ci := 6) (j := 5) C dX6_undoAct_28 lkF_X6_32 (fun r hr => by cases hr; rfl) rfl h (fun M4 h => ?_)
  refine q_aload_n C dX6_undoAct_31 rfl ?_
  refine q_dup C dX6_undoAct_32 rfl ?_
  refine x_getI (ci := 6) (j := 6) C dX6_undoAct_33 lkF_X6_36 rfl h (fun v5 h => ?_)
  refine x_iconst (v := (1 : Int32)) C dX6_undoAct_36 (by decide) ?_
  refine q_isub C dX6_undoAct_37 ?_
  refine x_putI (ci := 6) (j := 6) C dX6_undoAct_38 lkF_X6_36 (fun r hr => by cases hr; rfl) rfl h (fun M6 h => ?_)
  refine q_aload_n C dX6_undoAct_41 rfl ?_
  refine x_getR (ci := 6) (j := 0) C dX6_undoAct_42 lkF_X6_9 rfl h (fun c7 h => ?_)
  refine x_nn h (fun r8 h => ?_)
  refine q_aload_n C dX6_undoAct_45 rfl ?_
  refine x_getI (ci := 6) (j := 5) C dX6_undoAct_46 lkF_X6_32 rfl h (fun v9 h => ?_)
  refine x_bipush (v := (31 : Int32)) C dX6_undoAct_49 (by decide) ?_
  refine q_imul C dX6_undoAct_51 ?_
  refine q_aload_n C dX6_undoAct_52 rfl ?_
  refine x_getR (ci := 8) (j := 0) C dX6_undoAct_53 lkF_X6_39 rfl h (fun c10 h => ?_)
  refine x_nn h (fun r11 h => ?_)
  refine x_iconst (v := (0 : Int32)) C dX6_undoAct_56 (by decide) ?_
  refine x_bipush (v := (31 : Int32)) C dX6_undoAct_57 (by decide) ?_
  refine x_copy C dX6_undoAct_59 wd_802 wd_626 wd_625 wd_19 (by decide) (Nat.le_of_ble_eq_true rfl) h (fun M12 h => ?_)
  refine x_iconst (v := (1 : Int32)) C dX6_undoAct_62 (by decide) ?_
  exact q_zret C dX6_undoAct_63 rfl (by decide) (by decide) (q_rzE h).1 (q_rzE h).2
noncomputable def F_X6_undoAct (l0 : Nat) (l1 : Nat) (M : q_Mem) : Option (Int32 × q_Mem) := (q_gI M l0 6 6 (fun v1 => (if v1 = 0 then q_rz (0 : Int32) M else (q_gI M l0 6 5 (fun v2 => (if 0 < v2 then (q_gI M l0 6 5 (fun v3 => J_X6_undoAct_28 l0 l1 l0 (v3 - (1 : Int32)) M)) else J_X6_undoAct_28 l0 l1 l0 (39 : Int32) M))))))
set_option maxRecDepth 100000 in
set_option maxHeartbeats 4000000 in
theorem c_X6_undoAct (l : Launch) (G : q_G) (l0 : Nat) (l1 : Nat) (M : q_Mem) {r : Int32} {M' : q_Mem} (h : F_X6_undoAct l0 l1 M = some (r, M')) : q_Met l G yX6_undoAct cX6_undoAct 2 (Option.some Jvm.ClassFile.FieldType.boolean) 2 0 0 [.ref l0, .ref l1] M (some (.int r)) M' := by
  unfold F_X6_undoAct at h
  refine q_enter [some (.ref l0), some (.ref l1)] (by decide) (Nat.le_of_ble_eq_true rfl) rfl (fun K C => ?_)
  refine q_aload_n C dX6_undoAct_0 rfl ?_
  refine x_getI (ci := 6) (j := 6) C dX6_undoAct_1 lkF_X6_36 rfl h (fun v1 h => ?_)
  refine q_if_ne (tgt := 9) C dX6_undoAct_4 (by decide) h (fun _ h => ?_) (fun _ h => ?_)
  · refine x_iconst (v := (0 : Int32)) C dX6_undoAct_7 (by decide) ?_
    exact q_zret C dX6_undoAct_8 rfl (by decide) (by decide) (q_rzE h).1 (q_rzE h).2
  · refine q_aload_n C dX6_undoAct_9 rfl ?_
    refine q_aload_n C dX6_undoAct_10 rfl ?_
    refine x_getI (ci := 6) (j := 5) C dX6_undoAct_11 lkF_X6_32 rfl h (fun v2 h => ?_)
    refine q_if_le (tgt := 26) C dX6_undoAct_14 (by decide) h (fun _ h => ?_) (fun _ h => ?_)
    · refine q_aload_n C dX6_undoAct_17 rfl ?_
      refine x_getI (ci := 6) (j := 5) C dX6_undoAct_18 lkF_X6_32 rfl h (fun v3 h => ?_)
      refine x_iconst (v := (1 : Int32)) C dX6_undoAct_21 (by decide) ?_
      refine q_isub C dX6_undoAct_22 ?_
      refine q_goto (tgt := 28) C dX6_undoAct_23 (by decide) ?_
      exact q_msk [true, true] (jW_X6_undoAct_28 C l0 l1 l0 (v3 - (1 : Int32)) M h)
    · refine x_bipush (v := (39 : Int32)) C dX6_undoAct_26 (by decide) ?_
      exact q_msk [true, true] (jW_X6_undoAct_28 C l0 l1 l0 (39 : Int32) M h)
noncomputable def F_X6_logLength (l0 : Int32) (M : q_Mem) : Option (Int32) := some (q_mn l0 (60 : Int32))
set_option maxRecDepth 100000 in
set_option maxHeartbeats 4000000 in
theorem c_X6_logLength (l : Launch) (G : q_G) (l0 : Int32) (M : q_Mem) {r : Int32} (h : F_X6_logLength l0 M = some r) : q_Met l G yX6_logLength cX6_logLength 1 (Option.some Jvm.ClassFile.FieldType.int) 2 0 0 [.int l0] M (some (.int r)) M := by
  unfold F_X6_logLength at h
  refine q_enter [some (.int l0)] (by decide) (Nat.le_of_ble_eq_true rfl) rfl (fun K C => ?_)
  refine q_iload_n C dX6_logLength_0 rfl ?_
  refine x_bipush (v := (60 : Int32)) C dX6_logLength_1 (by decide) ?_
  refine q_min C dX6_logLength_3 wd_803 wd_473 wd_15 wd_474 (by decide) (Nat.le_of_ble_eq_true rfl) (by decide) ?_
  exact q_iret (res := (r, M)) C dX6_logLength_6 rfl (by decide) (by decide) (congrArg (fun z => (z, M)) (Option.some.inj h))
noncomputable def F_X6_logRow (l0 : Int32) (M : q_Mem) : Option (Int32) := some ((l0 &&& (127 : Int32)) * (3 : Int32))
set_option maxRecDepth 100000 in
set_option maxHeartbeats 4000000 in
theorem c_X6_logRow (l : Launch) (G : q_G) (l0 : Int32) (M : q_Mem) {r : Int32} (h : F_X6_logRow l0 M = some r) : q_Met l G yX6_logRow cX6_logRow 1 (Option.some Jvm.ClassFile.FieldType.int) 1 0 0 [.int l0] M (some (.int r)) M := by
  unfold F_X6_logRow at h
  refine q_enter [some (.int l0)] (by decide) (Nat.le_of_ble_eq_true rfl) rfl (fun K C => ?_)
  refine q_iload_n C dX6_logRow_0 rfl ?_
  refine x_bipush (v := (127 : Int32)) C dX6_logRow_1 (by decide) ?_
  refine q_iand C dX6_logRow_3 ?_
  refine x_iconst (v := (3 : Int32)) C dX6_logRow_4 (by decide) ?_
  refine q_imul C dX6_logRow_5 ?_
  exact q_iret (res := (r, M)) C dX6_logRow_6 rfl (by decide) (by decide) (congrArg (fun z => (z, M)) (Option.some.inj h))
noncomputable def F_X6_writeLog (l0 : Nat) (l1 : Nat) (l2 : Nat) (M : q_Mem) : Option (Unit × q_Mem) := (q_gR M l1 8 0 (fun c1 => q_nn c1 (fun r2 => (q_lI M 0 r2 (0 : Int32) (fun v3 => ((F_X6_logRow (v3 - (1 : Int32)) M).bind (fun u4 => (q_gR M l0 6 1 (fun c5 => q_nn c5 (fun r6 => (q_gI M l2 1 7 (fun v7 => (q_tI M r6 u4 v7 (fun M8 => (q_gR M8 l0 6 1 (fun c9 => q_nn c9 (fun r10 => (q_gI M8 l2 1 10 (fun v11 => (q_tI M8 r10 (u4 + (1 : Int32)) v11 (fun M12 => (q_gR M12 l0 6 1 (fun c13 => q_nn c13 (fun r14 => (q_ob M12 l1 8 ((F_X8_joyOfAll l1 M12).bind (fun u15 => (q_tI M12 r14 (u4 + (2 : Int32)) u15 (fun M16 => some ((), M16))))))))))))))))))))))))))))))
set_option maxRecDepth 100000 in
set_option maxHeartbeats 4000000 in
theorem c_X6_writeLog (l : Launch) (G : q_G) (l0 : Nat) (l1 : Nat) (l2 : Nat) (M : q_Mem) {r : Unit} {M' : q_Mem} (h : F_X6_writeLog l0 l1 l2 M = some (r, M')) : q_Met l G yX6_writeLog cX6_writeLog 4 (Option.none : Option Jvm.ClassFile.FieldType) 2 0 0 [.ref l0, .ref l1, .ref l2] M none M' := by
  unfold F_X6_writeLog at h
  refine q_enter [some (.ref l0), some (.ref l1), some (.ref l2), none] (by decide) (Nat.le_of_ble_eq_true rfl) rfl (fun K C => ?_)
  refine q_aload_n C dX6_writeLog_0 rfl ?_
  refine x_getR (ci := 8) (j := 0) C dX6_writeLog_1 lkF_X6_39 rfl h (fun c1 h => ?_)
  refine x_nn h (fun r2 h => ?_)
  refine x_iconst (v := (0 : Int32)) C dX6_writeLog_4 (by decide) ?_
  refine x_iald C dX6_writeLog_5 h (fun v3 h => ?_)
  refine x_iconst (v := (1 : Int32)) C dX6_writeLog_6 (by decide) ?_
  refine q_isub C dX6_writeLog_7 ?_
  obtain ⟨u4, e1, h⟩ := q_bind h
  refine x_callS0 C dX6_writeLog_8 lkM_X6_54 mS_X6_logRow (c_X6_logRow _ _ _ _ e1) rfl rfl (Nat.le_of_ble_eq_true rfl) (by decide) (by decide) ?_
  refine q_istore_n (L' := [some (.ref l0), some (.ref l1), some (.ref l2), some (.int u4)]) C dX6_writeLog_11 (by decide) rfl rfl ?_
  refine q_aload_n C dX6_writeLog_12 rfl ?_
  refine x_getR (ci := 6) (j := 1) C dX6_writeLog_13 lkF_X6_15 rfl h (fun c5 h => ?_)
  refine x_nn h (fun r6 h => ?_)
  refine q_iload_n C dX6_writeLog_16 rfl ?_
  refine q_aload_n C dX6_writeLog_17 rfl ?_
  refine x_getI (ci := 1) (j := 7) C dX6_writeLog_18 lkF_X6_58 rfl h (fun v7 h => ?_)
  refine x_iast C dX6_writeLog_21 h (fun M8 h => ?_)
  refine q_aload_n C dX6_writeLog_22 rfl ?_
  refine x_getR (ci := 6) (j := 1) C dX6_writeLog_23 lkF_X6_15 rfl h (fun c9 h => ?_)
  refine x_nn h (fun r10 h => ?_)
  refine q_iload_n C dX6_writeLog_26 rfl ?_
  refine x_iconst (v := (1 : Int32)) C dX6_writeLog_27 (by decide) ?_
  refine q_iadd C dX6_writeLog_28 ?_
  refine q_aload_n C dX6_writeLog_29 rfl ?_
  refine x_getI (ci := 1) (j := 10) C dX6_writeLog_30 lkF_X6_63 rfl h (fun v11 h => ?_)
  refine x_iast C dX6_writeLog_33 h (fun M12 h => ?_)
  refine q_aload_n C dX6_writeLog_34 rfl ?_
  refine x_getR (ci := 6) (j := 1) C dX6_writeLog_35 lkF_X6_15 rfl h (fun c13 h => ?_)
  refine x_nn h (fun r14 h => ?_)
  refine q_iload_n C dX6_writeLog_38 rfl ?_
  refine x_iconst (v := (2 : Int32)) C dX6_writeLog_39 (by decide) ?_
  refine q_iadd C dX6_writeLog_40 ?_
  refine q_aload_n C dX6_writeLog_41 rfl ?_
  obtain ⟨hk, h⟩ := q_obE h
  obtain ⟨u15, e1, h⟩ := q_bind h
  refine x_callV0 C dX6_writeLog_42 lkM_X6_66 mV_X8_joyOfAll ⟨_, rfl, rfl⟩ hk (c_X8_joyOfAll _ _ _ _ e1) rfl rfl (Nat.le_of_ble_eq_true rfl) (by decide) (by decide) ?_
  refine x_iast C dX6_writeLog_45 h (fun M16 h => ?_)
  exact q_vret C dX6_writeLog_46 rfl (by decide) (by decide) (Option.some.inj h)
noncomputable def F_X6_ofLog (l0 : Nat) (l1 : Int32) (l2 : Int32) (M : q_Mem) : Option (Int32) := ((F_X6_logRow l1 M).bind (fun u1 => (if (u1 + l2) < 0 then some (-1000000 : Int32) else (q_gR M l0 6 1 (fun c2 => q_nn c2 (fun r3 => (q_al M r3 (fun v4 => (if (u1 + l2) < v4 then (q_gR M l0 6 1 (fun c5 => q_nn c5 (fun r6 => (q_lI M 0 r6 (u1 + l2) (fun v7 => some v7))))) else some (-1000000 : Int32))))))))))
set_option maxRecDepth 100000 in
set_option maxHeartbeats 4000000 in
theorem c_X6_ofLog (l : Launch) (G : q_G) (l0 : Nat) (l1 : Int32) (l2 : Int32) (M : q_Mem) {r : Int32} (h : F_X6_ofLog l0 l1 l2 M = some r) : q_Met l G yX6_ofLog cX6_ofLog 4 (Option.some Jvm.ClassFile.FieldType.int) 2 0 0 [.ref l0, .int l1, .int l2] M (some (.int r)) M := by
  unfold F_X6_ofLog at h
  refine q_enter [some (.ref l0), some (.int l1), some (.int l2), none] (by decide) (Nat.le_of_ble_eq_true rfl) rfl (fun K C => ?_)
  refine q_iload_n C dX6_ofLog_0 rfl ?_
  obtain ⟨u1, e1, h⟩ := q_bind h
  refine x_callS0 C dX6_ofLog_1 lkM_X6_54 mS_X6_logRow (c_X6_logRow _ _ _ _ e1) rfl rfl (Nat.le_of_ble_eq_true rfl) (by decide) (by decide) ?_
  refine q_iload_n C dX6_ofLog_4 rfl ?_
  refine q_iadd C dX6_ofLog_5 ?_
  refine q_istore_n (L' := [some (.ref l0), some (.int l1), some (.int l2), some (.int (u1 + l2))]) C dX6_ofLog_6 (by decide) rfl rfl ?_
  refine q_iload_n C dX6_ofLog_7 rfl ?_
  refine q_if_lt (tgt := 29) C dX6_ofLog_8 (by decide) h (fun _ h => ?_) (fun _ h => ?_)
  · refine q_ldc (v := (-1000000 : Int32)) C dX6_ofLog_29 wd_871 ?_
    exact q_iret (res := (r, M)) C dX6_ofLog_31 rfl (by decide) (by decide) (congrArg (fun z => (z, M)) (Option.some.inj h))
  · refine q_iload_n C dX6_ofLog_11 rfl ?_
    refine q_aload_n C dX6_ofLog_12 rfl ?_
    refine x_getR (ci := 6) (j := 1) C dX6_ofLog_13 lkF_X6_15 rfl h (fun c2 h => ?_)
    refine x_nn h (fun r3 h => ?_)
    refine x_alen C dX6_ofLog_16 h (fun v4 h => ?_)
    refine q_icmp_ge (tgt := 29) C dX6_ofLog_17 (by decide) h (fun _ h => ?_) (fun _ h => ?_)
    · refine q_aload_n C dX6_ofLog_20 rfl ?_
      refine x_getR (ci := 6) (j := 1) C dX6_ofLog_21 lkF_X6_15 rfl h (fun c5 h => ?_)
      refine x_nn h (fun r6 h => ?_)
      refine q_iload_n C dX6_ofLog_24 rfl ?_
      refine x_iald C dX6_ofLog_25 h (fun v7 h => ?_)
      refine q_goto (tgt := 31) C dX6_ofLog_26 (by decide) ?_
      exact q_iret (res := (r, M)) C dX6_ofLog_31 rfl (by decide) (by decide) (congrArg (fun z => (z, M)) (Option.some.inj h))
    · refine q_ldc (v := (-1000000 : Int32)) C dX6_ofLog_29 wd_871 ?_
      exact q_iret (res := (r, M)) C dX6_ofLog_31 rfl (by decide) (by decide) (congrArg (fun z => (z, M)) (Option.some.inj h))
noncomputable def F_X6_takePicture (l0 : Nat) (l1 : Nat) (M : q_Mem) : Option (Unit × q_Mem) := (q_gR M l0 6 3 (fun c1 => q_nn c1 (fun r2 => (q_ob M r2 8 ((F_X8_copyFrom r2 l1 M).bind (fun x => match x with | (_, M4) => (q_gR M4 l0 6 1 (fun c5 => q_nn c5 (fun r6 => (q_gR M4 l0 6 2 (fun c7 => q_nn c7 (fun r8 => (q_gR M4 l0 6 1 (fun c9 => q_nn c9 (fun r10 => (q_al M4 r10 (fun v11 => (q_cp M4 r6 (0 : Int32) r8 (0 : Int32) v11 (fun M12 => (q_pZ M12 l0 6 4 (1 : Int32) (fun M13 => some ((), M13))))))))))))))))))))))
set_option maxRecDepth 100000 in
set_option maxHeartbeats 4000000 in
theorem c_X6_takePicture (l : Launch) (G : q_G) (l0 : Nat) (l1 : Nat) (M : q_Mem) {r : Unit} {M' : q_Mem} (h : F_X6_takePicture l0 l1 M = some (r, M')) : q_Met l G yX6_takePicture cX6_takePicture 2 (Option.none : Option Jvm.ClassFile.FieldType) 3 0 0 [.ref l0, .ref l1] M none M' := by
  unfold F_X6_takePicture at h
  refine q_enter [some (.ref l0), some (.ref l1)] (by decide) (Nat.le_of_ble_eq_true rfl) rfl (fun K C => ?_)
  refine q_aload_n C dX6_takePicture_0 rfl ?_
  refine x_getR (ci := 6) (j := 3) C dX6_takePicture_1 lkF_X6_24 rfl h (fun c1 h => ?_)
  refine x_nn h (fun r2 h => ?_)
  refine q_aload_n C dX6_takePicture_4 rfl ?_
  obtain ⟨hk, h⟩ := q_obE h
  obtain ⟨⟨_, M4⟩, e1, h⟩ := q_bind h
  refine x_callVv0 C dX6_takePicture_5 lkM_X6_71 mV_X8_copyFrom ⟨_, rfl, rfl⟩ hk (c_X8_copyFrom _ _ _ _ _ e1) rfl rfl (Nat.le_of_ble_eq_true rfl) (by decide) (by decide) ?_
  refine q_aload_n C dX6_takePicture_8 rfl ?_
  refine x_getR (ci := 6) (j := 1) C dX6_takePicture_9 lkF_X6_15 rfl h (fun c5 h => ?_)
  refine x_nn h (fun r6 h => ?_)
  refine x_iconst (v := (0 : Int32)) C dX6_takePicture_12 (by decide) ?_
  refine q_aload_n C dX6_takePicture_13 rfl ?_
  refine x_getR (ci := 6) (j := 2) C dX6_takePicture_14 lkF_X6_18 rfl h (fun c7 h => ?_)
  refine x_nn h (fun r8 h => ?_)
  refine x_iconst (v := (0 : Int32)) C dX6_takePicture_17 (by decide) ?_
  refine q_aload_n C dX6_takePicture_18 rfl ?_
  refine x_getR (ci := 6) (j := 1) C dX6_takePicture_19 lkF_X6_15 rfl h (fun c9 h => ?_)
  refine x_nn h (fun r10 h => ?_)
  refine x_alen C dX6_takePicture_22 h (fun v11 h => ?_)
  refine x_copy C dX6_takePicture_23 wd_802 wd_626 wd_625 wd_19 (by decide) (Nat.le_of_ble_eq_true rfl) h (fun M12 h => ?_)
  refine q_aload_n C dX6_takePicture_26 rfl ?_
  refine x_iconst (v := (1 : Int32)) C dX6_takePicture_27 (by decide) ?_
  refine x_putZ (ci := 6) (j := 4) C dX6_takePicture_28 lkF_X6_28 (fun r hr => by cases hr; rfl) rfl h (fun M13 h => ?_)
  exact q_vret C dX6_takePicture_31 rfl (by decide) (by decide) (Option.some.inj h)
noncomputable def F_X6_showPicture (l0 : Nat) (l1 : Nat) (M : q_Mem) : Option (Int32 × q_Mem) := (q_gI M l0 6 4 (fun v1 => (if v1 = 0 then q_rz (0 : Int32) M else (q_gR M l0 6 3 (fun c2 => q_nn c2 (fun r3 => (q_ob M l1 8 ((F_X8_copyFrom l1 r3 M).bind (fun x => match x with | (_, M5) => (q_gR M5 l0 6 2 (fun c6 => q_nn c6 (fun r7 => (q_gR M5 l0 6 1 (fun c8 => q_nn c8 (fun r9 => (q_gR M5 l0 6 1 (fun c10 => q_nn c10 (fun r11 => (q_al M5 r11 (fun v12 => (q_cp M5 r7 (0 : Int32) r9 (0 : Int32) v12 (fun M13 => (q_pI M13 l0 6 6 (0 : Int32) (fun M14 => q_rz (1 : Int32) M14))))))))))))))))))))))))
set_option maxRecDepth 100000 in
set_option maxHeartbeats 4000000 in
theorem c_X6_showPicture (l : Launch) (G : q_G) (l0 : Nat) (l1 : Nat) (M : q_Mem) {r : Int32} {M' : q_Mem} (h : F_X6_showPicture l0 l1 M = some (r, M')) : q_Met l G yX6_showPicture cX6_showPicture 2 (Option.some Jvm.ClassFile.FieldType.boolean) 3 0 0 [.ref l0, .ref l1] M (some (.int r)) M' := by
  unfold F_X6_showPicture at h
  refine q_enter [some (.ref l0), some (.ref l1)] (by decide) (Nat.le_of_ble_eq_true rfl) rfl (fun K C => ?_)
  refine q_aload_n C dX6_showPicture_0 rfl ?_
  refine x_getI (ci := 6) (j := 4) C dX6_showPicture_1 lkF_X6_28 rfl h (fun v1 h => ?_)
  refine q_if_ne (tgt := 9) C dX6_showPicture_4 (by decide) h (fun _ h => ?_) (fun _ h => ?_)
  · refine x_iconst (v := (0 : Int32)) C dX6_showPicture_7 (by decide) ?_
    exact q_zret C dX6_showPicture_8 rfl (by decide) (by decide) (q_rzE h).1 (q_rzE h).2
  · refine q_aload_n C dX6_showPicture_9 rfl ?_
    refine q_aload_n C dX6_showPicture_10 rfl ?_
    refine x_getR (ci := 6) (j := 3) C dX6_showPicture_11 lkF_X6_24 rfl h (fun c2 h => ?_)
    refine x_nn h (fun r3 h => ?_)
    obtain ⟨hk, h⟩ := q_obE h
    obtain ⟨⟨_, M5⟩, e1, h⟩ := q_bind h
    refine x_callVv0 C dX6_showPicture_14 lkM_X6_71 mV_X8_copyFrom ⟨_, rfl, rfl⟩ hk (c_X8_copyFrom _ _ _ _ _ e1) rfl rfl (Nat.le_of_ble_eq_true rfl) (by decide) (by decide) ?_
    refine q_aload_n C dX6_showPicture_17 rfl ?_
    refine x_getR (ci := 6) (j := 2) C dX6_showPicture_18 lkF_X6_18 rfl h (fun c6 h => ?_)
    refine x_nn h (fun r7 h => ?_)
    refine x_iconst (v := (0 : Int32)) C dX6_showPicture_21 (by decide) ?_
    refine q_aload_n C dX6_showPicture_22 rfl ?_
    refine x_getR (ci := 6) (j := 1) C dX6_showPicture_23 lkF_X6_15 rfl h (fun c8 h => ?_)
    refine x_nn h (fun r9 h => ?_)
    refine x_iconst (v := (0 : Int32)) C dX6_showPicture_26 (by decide) ?_
    refine q_aload_n C dX6_showPicture_27 rfl ?_
    refine x_getR (ci := 6) (j := 1) C dX6_showPicture_28 lkF_X6_15 rfl h (fun c10 h => ?_)
    refine x_nn h (fun r11 h => ?_)
    refine x_alen C dX6_showPicture_31 h (fun v12 h => ?_)
    refine x_copy C dX6_showPicture_32 wd_802 wd_626 wd_625 wd_19 (by decide) (Nat.le_of_ble_eq_true rfl) h (fun M13 h => ?_)
    refine q_aload_n C dX6_showPicture_35 rfl ?_
    refine x_iconst (v := (0 : Int32)) C dX6_showPicture_36 (by decide) ?_
    refine x_putI (ci := 6) (j := 6) C dX6_showPicture_37 lkF_X6_36 (fun r hr => by cases hr; rfl) rfl h (fun M14 h => ?_)
    refine x_iconst (v := (1 : Int32)) C dX6_showPicture_40 (by decide) ?_
    exact q_zret C dX6_showPicture_41 rfl (by decide) (by decide) (q_rzE h).1 (q_rzE h).2
noncomputable def F_X7_init (l0 : Nat) (l1 : Nat) (l2 : Nat) (M : q_Mem) : Option (Unit × q_Mem) := (q_nA M 0 (50 : Int32) 50 (fun k1 M2 => (q_pR M2 l0 7 2 (k1 + 1) (fun M3 => (q_pI M3 l0 7 3 (0 : Int32) (fun M4 => (q_pR M4 l0 7 0 (l1 + 1) (fun M5 => (q_pR M5 l0 7 1 (l2 + 1) (fun M6 => some ((), M6)))))))))))
set_option maxRecDepth 100000 in
set_option maxHeartbeats 4000000 in
theorem c_X7_init (l : Launch) (G : q_G) (l0 : Nat) (l1 : Nat) (l2 : Nat) (M : q_Mem) {r : Unit} {M' : q_Mem} (h : F_X7_init l0 l1 l2 M = some (r, M')) : q_Met l G yX7_init cX7_init 3 (Option.none : Option Jvm.ClassFile.FieldType) 2 1 50 [.ref l0, .ref l1, .ref l2] M none M' := by
  unfold F_X7_init at h
  refine q_enter [some (.ref l0), some (.ref l1), some (.ref l2)] (by decide) (Nat.le_of_ble_eq_true rfl) rfl (fun K C => ?_)
  refine q_aload_n C dX7_init_0 rfl ?_
  refine q_objI C dX7_init_1 wd_298 wd_33 wd_34 (by decide) (Nat.le_of_ble_eq_true rfl) ?_
  refine q_aload_n C dX7_init_4 rfl ?_
  refine x_bipush (v := (50 : Int32)) C dX7_init_5 (by decide) ?_
  refine x_newa C dX7_init_7 (by simp) wd_103 (by decide) h (by decide) (fun k1 M2 h => ?_)
  refine x_putR (ci := 7) (j := 2) (k1 + 1) C dX7_init_9 lkF_X7_11 (fun r hr => by cases hr; exact Or.inr ⟨rfl, rfl, wd_301⟩) (Or.inr ⟨_, rfl⟩) rfl h (fun M3 h => ?_)
  refine q_aload_n C dX7_init_12 rfl ?_
  refine x_iconst (v := (0 : Int32)) C dX7_init_13 (by decide) ?_
  refine x_putI (ci := 7) (j := 3) C dX7_init_14 lkF_X7_15 (fun r hr => by cases hr; rfl) rfl h (fun M4 h => ?_)
  refine q_aload_n C dX7_init_17 rfl ?_
  refine q_aload_n C dX7_init_18 rfl ?_
  refine x_putR (ci := 7) (j := 0) (l1 + 1) C dX7_init_19 lkF_X7_19 (fun r hr => by cases hr; exact Or.inr ⟨rfl, rfl, wd_299⟩) (Or.inl ⟨_, rfl⟩) rfl h (fun M5 h => ?_)
  refine q_aload_n C dX7_init_22 rfl ?_
  refine q_aload_n C dX7_init_23 rfl ?_
  refine x_putR (ci := 7) (j := 1) (l2 + 1) C dX7_init_24 lkF_X7_23 (fun r hr => by cases hr; exact Or.inr ⟨rfl, rfl, wd_300⟩) (Or.inl ⟨_, rfl⟩) rfl h (fun M6 h => ?_)
  exact q_vret C dX7_init_27 rfl (by decide) (by decide) (Option.some.inj h)
noncomputable def J_X7_add_76 (l0 : Nat) (s0 : Nat) (s1 : Int32) (s2 : Int32) (M : q_Mem) : Option (Int32 × q_Mem) := (q_tI M s0 s1 s2 (fun M17 => (q_gI M17 l0 7 3 (fun v18 => (q_pI M17 l0 7 3 (v18 + (1 : Int32)) (fun M19 => (q_gI M19 l0 7 3 (fun v20 => some (v20, M19)))))))))
set_option maxRecDepth 100000 in
set_option maxHeartbeats 4000000 in
theorem jW_X7_add_76 {K : q_K} (C : q_C K yX7_add cX7_add 7 (Option.some Jvm.ClassFile.FieldType.int) 1 0 0) (l0 : Nat) (s0 : Nat) (s1 : Int32) (s2 : Int32) (M : q_Mem) {r : Int32} {M' : q_Mem} (h : J_X7_add_76 l0 s0 s1 s2 M = some (r, M')) : q_W K 7 (q_Q K (some (.int r)) M' 0 0) 0 0 M 76 [some (.ref l0), none, none, none, none, none, none] [.int s2, .int s1, .ref s0] := by
  unfold J_X7_add_76 at h
  refine x_iast C dX7_add_76 h (fun M17 h => ?_)
  refine q_aload_n C dX7_add_77 rfl ?_
  refine q_dup C dX7_add_78 rfl ?_
  refine x_getI (ci := 7) (j := 3) C dX7_add_79 lkF_X7_15 rfl h (fun v18 h => ?_)
  refine x_iconst (v := (1 : Int32)) C dX7_add_82 (by decide) ?_
  refine q_iadd C dX7_add_83 ?_
  refine x_putI (ci := 7) (j := 3) C dX7_add_84 lkF_X7_15 (fun r hr => by cases hr; rfl) rfl h (fun M19 h => ?_)
  refine q_aload_n C dX7_add_87 rfl ?_
  refine x_getI (ci := 7) (j := 3) C dX7_add_88 lkF_X7_15 rfl h (fun v20 h => ?_)
  exact q_iret C dX7_add_91 rfl (by decide) (by decide) (Option.some.inj h)
noncomputable def F_X7_add (l0 : Nat) (l1 : Int32) (l2 : Int32) (l3 : Int32) (l4 : Int32) (l5 : Int32) (M : q_Mem) : Option (Int32 × q_Mem) := (q_gI M l0 7 3 (fun v1 => (if v1 < (10 : Int32) then (q_gI M l0 7 3 (fun v2 => (q_gR M l0 7 2 (fun c3 => q_nn c3 (fun r4 => (q_tI M r4 (v2 * (5 : Int32)) l1 (fun M5 => (q_gR M5 l0 7 2 (fun c6 => q_nn c6 (fun r7 => (q_tI M5 r7 ((v2 * (5 : Int32)) + (1 : Int32)) l2 (fun M8 => (q_gR M8 l0 7 2 (fun c9 => q_nn c9 (fun r10 => (q_tI M8 r10 ((v2 * (5 : Int32)) + (2 : Int32)) l3 (fun M11 => (q_gR M11 l0 7 2 (fun c12 => q_nn c12 (fun r13 => (q_tI M11 r13 ((v2 * (5 : Int32)) + (3 : Int32)) l4 (fun M14 => (q_gR M14 l0 7 2 (fun c15 => q_nn c15 (fun r16 => (if l5 = 0 then J_X7_add_76 l0 r16 ((v2 * (5 : Int32)) + (4 : Int32)) (0 : Int32) M14 else J_X7_add_76 l0 r16 ((v2 * (5 : Int32)) + (4 : Int32)) (1 : Int32) M14)))))))))))))))))))))))))) else some ((-1 : Int32), M))))
set_option maxRecDepth 100000 in
set_option maxHeartbeats 4000000 in
theorem c_X7_add (l : Launch) (G : q_G) (l0 : Nat) (l1 : Int32) (l2 : Int32) (l3 : Int32) (l4 : Int32) (l5 : Int32) (M : q_Mem) {r : Int32} {M' : q_Mem} (h : F_X7_add l0 l1 l2 l3 l4 l5 M = some (r, M')) : q_Met l G yX7_add cX7_add 7 (Option.some Jvm.ClassFile.FieldType.int) 1 0 0 [.ref l0, .int l1, .int l2, .int l3, .int l4, .int l5] M (some (.int r)) M' := by
  unfold F_X7_add at h
  refine q_enter [some (.ref l0), some (.int l1), some (.int l2), some (.int l3), some (.int l4), some (.int l5), none] (by decide) (Nat.le_of_ble_eq_true rfl) rfl (fun K C => ?_)
  refine q_aload_n C dX7_add_0 rfl ?_
  refine x_getI (ci := 7) (j := 3) C dX7_add_1 lkF_X7_15 rfl h (fun v1 h => ?_)
  refine x_bipush (v := (10 : Int32)) C dX7_add_4 (by decide) ?_
  refine q_icmp_lt (tgt := 11) C dX7_add_6 (by decide) h (fun _ h => ?_) (fun _ h => ?_)
  · refine q_aload_n C dX7_add_11 rfl ?_
    refine x_getI (ci := 7) (j := 3) C dX7_add_12 lkF_X7_15 rfl h (fun v2 h => ?_)
    refine x_iconst (v := (5 : Int32)) C dX7_add_15 (by decide) ?_
    refine q_imul C dX7_add_16 ?_
    refine q_istore (L' := [some (.ref l0), some (.int l1), some (.int l2), some (.int l3), some (.int l4), some (.int l5), some (.int (v2 * (5 : Int32)))]) C dX7_add_17 (by decide) rfl rfl ?_
    refine q_aload_n C dX7_add_19 rfl ?_
    refine x_getR (ci := 7) (j := 2) C dX7_add_20 lkF_X7_11 rfl h (fun c3 h => ?_)
    refine x_nn h (fun r4 h => ?_)
    refine q_iload C dX7_add_23 rfl ?_
    refine q_iload_n C dX7_add_25 rfl ?_
    refine x_iast C dX7_add_26 h (fun M5 h => ?_)
    refine q_aload_n C dX7_add_27 rfl ?_
    refine x_getR (ci := 7) (j := 2) C dX7_add_28 lkF_X7_11 rfl h (fun c6 h => ?_)
    refine x_nn h (fun r7 h => ?_)
    refine q_iload C dX7_add_31 rfl ?_
    refine x_iconst (v := (1 : Int32)) C dX7_add_33 (by decide) ?_
    refine q_iadd C dX7_add_34 ?_
    refine q_iload_n C dX7_add_35 rfl ?_
    refine x_iast C dX7_add_36 h (fun M8 h => ?_)
    refine q_aload_n C dX7_add_37 rfl ?_
    refine x_getR (ci := 7) (j := 2) C dX7_add_38 lkF_X7_11 rfl h (fun c9 h => ?_)
    refine x_nn h (fun r10 h => ?_)
    refine q_iload C dX7_add_41 rfl ?_
    refine x_iconst (v := (2 : Int32)) C dX7_add_43 (by decide) ?_
    refine q_iadd C dX7_add_44 ?_
    refine q_iload_n C dX7_add_45 rfl ?_
    refine x_iast C dX7_add_46 h (fun M11 h => ?_)
    refine q_aload_n C dX7_add_47 rfl ?_
    refine x_getR (ci := 7) (j := 2) C dX7_add_48 lkF_X7_11 rfl h (fun c12 h => ?_)
    refine x_nn h (fun r13 h => ?_)
    refine q_iload C dX7_add_51 rfl ?_
    refine x_iconst (v := (3 : Int32)) C dX7_add_53 (by decide) ?_
    refine q_iadd C dX7_add_54 ?_
    refine q_iload C dX7_add_55 rfl ?_
    refine x_iast C dX7_add_57 h (fun M14 h => ?_)
    refine q_aload_n C dX7_add_58 rfl ?_
    refine x_getR (ci := 7) (j := 2) C dX7_add_59 lkF_X7_11 rfl h (fun c15 h => ?_)
    refine x_nn h (fun r16 h => ?_)
    refine q_iload C dX7_add_62 rfl ?_
    refine x_iconst (v := (4 : Int32)) C dX7_add_64 (by decide) ?_
    refine q_iadd C dX7_add_65 ?_
    refine q_iload C dX7_add_66 rfl ?_
    refine q_if_eq (tgt := 75) C dX7_add_68 (by decide) h (fun _ h => ?_) (fun _ h => ?_)
    · refine x_iconst (v := (0 : Int32)) C dX7_add_75 (by decide) ?_
      exact q_msk [true, false, false, false, false, false, false] (jW_X7_add_76 C l0 r16 ((v2 * (5 : Int32)) + (4 : Int32)) (0 : Int32) M14 h)
    · refine x_iconst (v := (1 : Int32)) C dX7_add_71 (by decide) ?_
      refine q_goto (tgt := 76) C dX7_add_72 (by decide) ?_
      exact q_msk [true, false, false, false, false, false, false] (jW_X7_add_76 C l0 r16 ((v2 * (5 : Int32)) + (4 : Int32)) (1 : Int32) M14 h)
  · refine x_iconst (v := (-1 : Int32)) C dX7_add_9 (by decide) ?_
    exact q_iret C dX7_add_10 rfl (by decide) (by decide) (Option.some.inj h)
noncomputable def J_X7_hasJoy_18 (l0 : Nat) (l1 : Int32) (l4 : Int32) (l5 : Int32) (s0 : Int32) (M : q_Mem) : Option (Int32 × q_Mem) := (q_gR M l0 7 1 (fun c4 => q_nn c4 (fun r5 => (q_gR M l0 7 0 (fun c6 => q_nn c6 (fun r7 => (q_ob M r7 3 ((F_X3_ofGuest r7 l1 (3 : Int32) M).bind (fun u8 => (q_ob M r5 1 ((F_X1_joyBy r5 l4 s0 (1 : Int32) (0 : Int32) u8 (0 : Int32) M).bind (fun x => match x with | (u9, M10) => (if u9 < l5 then q_rz (0 : Int32) M10 else q_rz (1 : Int32) M10)))))))))))))
set_option maxRecDepth 100000 in
set_option maxHeartbeats 4000000 in
theorem jW_X7_hasJoy_18 {K : q_K} (C : q_C K yX7_hasJoy cX7_hasJoy 7 (Option.some Jvm.ClassFile.FieldType.boolean) 4 0 0) (l0 : Nat) (l1 : Int32) (l4 : Int32) (l5 : Int32) (s0 : Int32) (M : q_Mem) {r : Int32} {M' : q_Mem} (h : J_X7_hasJoy_18 l0 l1 l4 l5 s0 M = some (r, M')) : q_W K 7 (q_Q K (some (.int r)) M' 0 0) 0 0 M 18 [some (.ref l0), some (.int l1), none, none, some (.int l4), some (.int l5), none] [.int s0] := by
  unfold J_X7_hasJoy_18 at h
  refine q_istore (L' := [some (.ref l0), some (.int l1), none, none, some (.int l4), some (.int l5), some (.int s0)]) C dX7_hasJoy_18 (by decide) rfl rfl ?_
  refine q_aload_n C dX7_hasJoy_20 rfl ?_
  refine x_getR (ci := 7) (j := 1) C dX7_hasJoy_21 lkF_X7_23 rfl h (fun c4 h => ?_)
  refine x_nn h (fun r5 h => ?_)
  refine q_iload C dX7_hasJoy_24 rfl ?_
  refine q_iload C dX7_hasJoy_26 rfl ?_
  refine x_iconst (v := (1 : Int32)) C dX7_hasJoy_28 (by decide) ?_
  refine x_iconst (v := (0 : Int32)) C dX7_hasJoy_29 (by decide) ?_
  refine q_aload_n C dX7_hasJoy_30 rfl ?_
  refine x_getR (ci := 7) (j := 0) C dX7_hasJoy_31 lkF_X7_19 rfl h (fun c6 h => ?_)
  refine x_nn h (fun r7 h => ?_)
  refine q_iload_n C dX7_hasJoy_34 rfl ?_
  refine x_iconst (v := (3 : Int32)) C dX7_hasJoy_35 (by decide) ?_
  obtain ⟨hk, h⟩ := q_obE h
  obtain ⟨u8, e1, h⟩ := q_bind h
  refine x_callV0 C dX7_hasJoy_36 lkM_X7_33 mV_X3_ofGuest ⟨_, rfl, rfl⟩ hk (c_X3_ofGuest _ _ _ _ _ _ e1) rfl rfl (Nat.le_of_ble_eq_true rfl) (by decide) (by decide) ?_
  refine x_iconst (v := (0 : Int32)) C dX7_hasJoy_39 (by decide) ?_
  obtain ⟨hk, h⟩ := q_obE h
  obtain ⟨⟨u9, M10⟩, e1, h⟩ := q_bind h
  refine x_callV0 C dX7_hasJoy_40 lkM_X7_36 mV_X1_joyBy ⟨_, rfl, rfl⟩ hk (c_X1_joyBy _ _ _ _ _ _ _ _ _ _ e1) rfl rfl (Nat.le_of_ble_eq_true rfl) (by decide) (by decide) ?_
  refine q_iload C dX7_hasJoy_43 rfl ?_
  refine q_icmp_lt (tgt := 52) C dX7_hasJoy_45 (by decide) h (fun _ h => ?_) (fun _ h => ?_)
  · refine x_iconst (v := (0 : Int32)) C dX7_hasJoy_52 (by decide) ?_
    exact q_zret C dX7_hasJoy_53 rfl (by decide) (by decide) (q_rzE h).1 (q_rzE h).2
  · refine x_iconst (v := (1 : Int32)) C dX7_hasJoy_48 (by decide) ?_
    refine q_goto (tgt := 53) C dX7_hasJoy_49 (by decide) ?_
    exact q_zret C dX7_hasJoy_53 rfl (by decide) (by decide) (q_rzE h).1 (q_rzE h).2
noncomputable def F_X7_hasJoy (l0 : Nat) (l1 : Int32) (l2 : Int32) (l3 : Int32) (l4 : Int32) (l5 : Int32) (M : q_Mem) : Option (Int32 × q_Mem) := (q_gR M l0 7 0 (fun c1 => q_nn c1 (fun r2 => (q_ob M r2 3 ((F_X3_ofDish r2 l3 (2 : Int32) M).bind (fun u3 => (if u3 = l2 then J_X7_hasJoy_18 l0 l1 l4 l5 (1 : Int32) M else J_X7_hasJoy_18 l0 l1 l4 l5 (0 : Int32) M)))))))
set_option maxRecDepth 100000 in
set_option maxHeartbeats 4000000 in
theorem c_X7_hasJoy (l : Launch) (G : q_G) (l0 : Nat) (l1 : Int32) (l2 : Int32) (l3 : Int32) (l4 : Int32) (l5 : Int32) (M : q_Mem) {r : Int32} {M' : q_Mem} (h : F_X7_hasJoy l0 l1 l2 l3 l4 l5 M = some (r, M')) : q_Met l G yX7_hasJoy cX7_hasJoy 7 (Option.some Jvm.ClassFile.FieldType.boolean) 4 0 0 [.ref l0, .int l1, .int l2, .int l3, .int l4, .int l5] M (some (.int r)) M' := by
  unfold F_X7_hasJoy at h
  refine q_enter [some (.ref l0), some (.int l1), some (.int l2), some (.int l3), some (.int l4), some (.int l5), none] (by decide) (Nat.le_of_ble_eq_true rfl) rfl (fun K C => ?_)
  refine q_aload_n C dX7_hasJoy_0 rfl ?_
  refine x_getR (ci := 7) (j := 0) C dX7_hasJoy_1 lkF_X7_19 rfl h (fun c1 h => ?_)
  refine x_nn h (fun r2 h => ?_)
  refine q_iload_n C dX7_hasJoy_4 rfl ?_
  refine x_iconst (v := (2 : Int32)) C dX7_hasJoy_5 (by decide) ?_
  obtain ⟨hk, h⟩ := q_obE h
  obtain ⟨u3, e1, h⟩ := q_bind h
  refine x_callV0 C dX7_hasJoy_6 lkM_X7_27 mV_X3_ofDish ⟨_, rfl, rfl⟩ hk (c_X3_ofDish _ _ _ _ _ _ e1) rfl rfl (Nat.le_of_ble_eq_true rfl) (by decide) (by decide) ?_
  refine q_iload_n C dX7_hasJoy_9 rfl ?_
  refine q_icmp_ne (tgt := 17) C dX7_hasJoy_10 (by decide) h (fun _ h => ?_) (fun _ h => ?_)
  · refine x_iconst (v := (1 : Int32)) C dX7_hasJoy_13 (by decide) ?_
    refine q_goto (tgt := 18) C dX7_hasJoy_14 (by decide) ?_
    exact q_msk [true, true, false, false, true, true, false] (jW_X7_hasJoy_18 C l0 l1 l4 l5 (1 : Int32) M h)
  · refine x_iconst (v := (0 : Int32)) C dX7_hasJoy_17 (by decide) ?_
    exact q_msk [true, true, false, false, true, true, false] (jW_X7_hasJoy_18 C l0 l1 l4 l5 (0 : Int32) M h)
noncomputable def J_X7_mayLike_88_2 (l0 : Nat) (l1 : Int32) (l2 : Int32) (l3 : Int32) (M : q_Mem) : Option ((Int32 × q_Mem) ⊕ ((q_Mem) ⊕ (q_Mem))) := some (.inl ((l3 + (1 : Int32)), M))
set_option maxRecDepth 100000 in
set_option maxHeartbeats 4000000 in
theorem jW_X7_mayLike_88_2 {K : q_K} {Q : State → Prop} (C : q_C K yX7_mayLike cX7_mayLike 5 (Option.some Jvm.ClassFile.FieldType.boolean) 5 0 0) (l0 : Nat) (l1 : Int32) (l2 : Int32) (l3 : Int32) (M : q_Mem) {stp : (Int32 × q_Mem) ⊕ ((q_Mem) ⊕ (q_Mem))} (h : J_X7_mayLike_88_2 l0 l1 l2 l3 M = some stp) (kC : ∀ (l3 : Int32) (M : q_Mem), stp = .inl (l3, M) → q_W K 5 Q 0 0 M 2 [some (.ref l0), some (.int l1), some (.int l2), some (.int l3), none] []) (kE0 : ∀ (M : q_Mem), stp = .inr (.inl M) → q_W K 5 Q 0 0 M 86 [none, none, none, none, none] []) (kE1 : ∀ (M : q_Mem), stp = .inr (.inr M) → q_W K 5 Q 0 0 M 94 [none, none, none, none, none] []) : q_W K 5 Q 0 0 M 88 [some (.ref l0), some (.int l1), some (.int l2), some (.int l3), none] [] := by
  unfold J_X7_mayLike_88_2 at h
  refine x_iinc (w := (1 : Int32)) (L' := [some (.ref l0), some (.int l1), some (.int l2), some (.int (l3 + (1 : Int32))), none]) C dX7_mayLike_88 rfl (by decide) (by decide) rfl rfl ?_
  refine q_goto (tgt := 2) C dX7_mayLike_91 (by decide) ?_
  exact q_msk [true, true, true, true, false] (kC _ _ (Option.some.inj h).symm)
noncomputable def J_X7_mayLike_83_2 (l0 : Nat) (l1 : Int32) (l2 : Int32) (l3 : Int32) (s0 : Int32) (s1 : Int32) (M : q_Mem) : Option ((Int32 × q_Mem) ⊕ ((q_Mem) ⊕ (q_Mem))) := (if s0 = s1 then J_X7_mayLike_88_2 l0 l1 l2 l3 M else some (.inr (.inl M)))
set_option maxRecDepth 100000 in
set_option maxHeartbeats 4000000 in
theorem jW_X7_mayLike_83_2 {K : q_K} {Q : State → Prop} (C : q_C K yX7_mayLike cX7_mayLike 5 (Option.some Jvm.ClassFile.FieldType.boolean) 5 0 0) (l0 : Nat) (l1 : Int32) (l2 : Int32) (l3 : Int32) (s0 : Int32) (s1 : Int32) (M : q_Mem) {stp : (Int32 × q_Mem) ⊕ ((q_Mem) ⊕ (q_Mem))} (h : J_X7_mayLike_83_2 l0 l1 l2 l3 s0 s1 M = some stp) (kC : ∀ (l3 : Int32) (M : q_Mem), stp = .inl (l3, M) → q_W K 5 Q 0 0 M 2 [some (.ref l0), some (.int l1), some (.int l2), some (.int l3), none] []) (kE0 : ∀ (M : q_Mem), stp = .inr (.inl M) → q_W K 5 Q 0 0 M 86 [none, none, none, none, none] []) (kE1 : ∀ (M : q_Mem), stp = .inr (.inr M) → q_W K 5 Q 0 0 M 94 [none, none, none, none, none] []) : q_W K 5 Q 0 0 M 83 [some (.ref l0), some (.int l1), some (.int l2), some (.int l3), none] [.int s1, .int s0] := by
  unfold J_X7_mayLike_83_2 at h
  refine q_icmp_eq (tgt := 88) C dX7_mayLike_83 (by decide) h (fun _ h => ?_) (fun _ h => ?_)
  · exact q_msk [true, true, true, true, false] (jW_X7_mayLike_88_2 C l0 l1 l2 l3 M h kC kE0 kE1)
  · exact q_msk [false, false, false, false, false] (kE0 _ (Option.some.inj h).symm)
noncomputable def B_X7_mayLike_2 (l0 : Nat) (l1 : Int32) (l2 : Int32) (l3 : Int32) (M : q_Mem) : Option ((Int32 × q_Mem) ⊕ ((q_Mem) ⊕ (q_Mem))) := (q_gI M l0 7 3 (fun v1 => (if l3 < v1 then (if l3 < (10 : Int32) then (q_gR M l0 7 2 (fun c2 => q_nn c2 (fun r3 => (q_lI M 0 r3 (l3 * (5 : Int32)) (fun v4 => (if v4 = l1 then (q_gR M l0 7 2 (fun c5 => q_nn c5 (fun r6 => (q_lI M 0 r6 ((l3 * (5 : Int32)) + (1 : Int32)) (fun v7 => (q_gR M l0 7 2 (fun c8 => q_nn c8 (fun r9 => (q_lI M 0 r9 ((l3 * (5 : Int32)) + (2 : Int32)) (fun v10 => (q_gR M l0 7 2 (fun c11 => q_nn c11 (fun r12 => (q_lI M 0 r12 ((l3 * (5 : Int32)) + (3 : Int32)) (fun v13 => (q_ob M l0 7 ((F_X7_hasJoy l0 l1 l2 v7 v10 v13 M).bind (fun x => match x with | (u14, M15) => (q_gR M15 l0 7 2 (fun c16 => q_nn c16 (fun r17 => (q_lI M15 0 r17 ((l3 * (5 : Int32)) + (4 : Int32)) (fun v18 => (if v18 = (1 : Int32) then J_X7_mayLike_83_2 l0 l1 l2 l3 u14 (1 : Int32) M15 else J_X7_mayLike_83_2 l0 l1 l2 l3 u14 (0 : Int32) M15)))))))))))))))))))))))) else J_X7_mayLike_88_2 l0 l1 l2 l3 M)))))) else some (.inr (.inr M))) else some (.inr (.inr M)))))
set_option maxRecDepth 100000 in
set_option maxHeartbeats 4000000 in
theorem bW_X7_mayLike_2 {K : q_K} {Q : State → Prop} (C : q_C K yX7_mayLike cX7_mayLike 5 (Option.some Jvm.ClassFile.FieldType.boolean) 5 0 0) (l0 : Nat) (l1 : Int32) (l2 : Int32) (l3 : Int32) (M : q_Mem) {stp : (Int32 × q_Mem) ⊕ ((q_Mem) ⊕ (q_Mem))} (h : B_X7_mayLike_2 l0 l1 l2 l3 M = some stp) (kC : ∀ (l3 : Int32) (M : q_Mem), stp = .inl (l3, M) → q_W K 5 Q 0 0 M 2 [some (.ref l0), some (.int l1), some (.int l2), some (.int l3), none] []) (kE0 : ∀ (M : q_Mem), stp = .inr (.inl M) → q_W K 5 Q 0 0 M 86 [none, none, none, none, none] []) (kE1 : ∀ (M : q_Mem), stp = .inr (.inr M) → q_W K 5 Q 0 0 M 94 [none, none, none, none, none] []) : q_W K 5 Q 0 0 M 2 [some (.ref l0), some (.int l1), some (.int l2), some (.int l3), none] [] := by
  unfold B_X7_mayLike_2 at h
  refine q_iload_n C dX7_mayLike_2 rfl ?_
  refine q_aload_n C dX7_mayLike_3 rfl ?_
  refine x_getI (ci := 7) (j := 3) C dX7_mayLike_4 lkF_X7_15 rfl h (fun v1 h => ?_)
  refine q_icmp_ge (tgt := 94) C dX7_mayLike_7 (by decide) h (fun _ h => ?_) (fun _ h => ?_)
  · refine q_iload_n C dX7_mayLike_10 rfl ?_
    refine x_bipush (v := (10 : Int32)) C dX7_mayLike_11 (by decide) ?_
    refine q_icmp_ge (tgt := 94) C dX7_mayLike_13 (by decide) h (fun _ h => ?_) (fun _ h => ?_)
    · refine q_iload_n C dX7_mayLike_16 rfl ?_
      refine x_iconst (v := (5 : Int32)) C dX7_mayLike_17 (by decide) ?_
      refine q_imul C dX7_mayLike_18 ?_
      refine q_istore (L' := [some (.ref l0), some (.int l1), some (.int l2), some (.int l3), some (.int (l3 * (5 : Int32)))]) C dX7_mayLike_19 (by decide) rfl rfl ?_
      refine q_aload_n C dX7_mayLike_21 rfl ?_
      refine x_getR (ci := 7) (j := 2) C dX7_mayLike_22 lkF_X7_11 rfl h (fun c2 h => ?_)
      refine x_nn h (fun r3 h => ?_)
      refine q_iload C dX7_mayLike_25 rfl ?_
      refine x_iald C dX7_mayLike_27 h (fun v4 h => ?_)
      refine q_iload_n C dX7_mayLike_28 rfl ?_
      refine q_icmp_ne (tgt := 88) C dX7_mayLike_29 (by decide) h (fun _ h => ?_) (fun _ h => ?_)
      · refine q_aload_n C dX7_mayLike_32 rfl ?_
        refine q_iload_n C dX7_mayLike_33 rfl ?_
        refine q_iload_n C dX7_mayLike_34 rfl ?_
        refine q_aload_n C dX7_mayLike_35 rfl ?_
        refine x_getR (ci := 7) (j := 2) C dX7_mayLike_36 lkF_X7_11 rfl h (fun c5 h => ?_)
        refine x_nn h (fun r6 h => ?_)
        refine q_iload C dX7_mayLike_39 rfl ?_
        refine x_iconst (v := (1 : Int32)) C dX7_mayLike_41 (by decide) ?_
        refine q_iadd C dX7_mayLike_42 ?_
        refine x_iald C dX7_mayLike_43 h (fun v7 h => ?_)
        refine q_aload_n C dX7_mayLike_44 rfl ?_
        refine x_getR (ci := 7) (j := 2) C dX7_mayLike_45 lkF_X7_11 rfl h (fun c8 h => ?_)
        refine x_nn h (fun r9 h => ?_)
        refine q_iload C dX7_mayLike_48 rfl ?_
        refine x_iconst (v := (2 : Int32)) C dX7_mayLike_50 (by decide) ?_
        refine q_iadd C dX7_mayLike_51 ?_
        refine x_iald C dX7_mayLike_52 h (fun v10 h => ?_)
        refine q_aload_n C dX7_mayLike_53 rfl ?_
        refine x_getR (ci := 7) (j := 2) C dX7_mayLike_54 lkF_X7_11 rfl h (fun c11 h => ?_)
        refine x_nn h (fun r12 h => ?_)
        refine q_iload C dX7_mayLike_57 rfl ?_
        refine x_iconst (v := (3 : Int32)) C dX7_mayLike_59 (by decide) ?_
        refine q_iadd C dX7_mayLike_60 ?_
        refine x_iald C dX7_mayLike_61 h (fun v13 h => ?_)
        obtain ⟨hk, h⟩ := q_obE h
        obtain ⟨⟨u14, M15⟩, e1, h⟩ := q_bind h
        refine x_callV0 C dX7_mayLike_62 lkM_X7_42 mV_X7_hasJoy ⟨_, rfl, rfl⟩ hk (c_X7_hasJoy _ _ _ _ _ _ _ _ _ e1) rfl rfl (Nat.le_of_ble_eq_true rfl) (by decide) (by decide) ?_
        refine q_aload_n C dX7_mayLike_65 rfl ?_
        refine x_getR (ci := 7) (j := 2) C dX7_mayLike_66 lkF_X7_11 rfl h (fun c16 h => ?_)
        refine x_nn h (fun r17 h => ?_)
        refine q_iload C dX7_mayLike_69 rfl ?_
        refine x_iconst (v := (4 : Int32)) C dX7_mayLike_71 (by decide) ?_
        refine q_iadd C dX7_mayLike_72 ?_
        refine x_iald C dX7_mayLike_73 h (fun v18 h => ?_)
        refine x_iconst (v := (1 : Int32)) C dX7_mayLike_74 (by decide) ?_
        refine q_icmp_ne (tgt := 82) C dX7_mayLike_75 (by decide) h (fun _ h => ?_) (fun _ h => ?_)
        · refine x_iconst (v := (1 : Int32)) C dX7_mayLike_78 (by decide) ?_
          refine q_goto (tgt := 83) C dX7_mayLike_79 (by decide) ?_
          exact q_msk [true, true, true, true, false] (jW_X7_mayLike_83_2 C l0 l1 l2 l3 u14 (1 : Int32) M15 h kC kE0 kE1)
        · refine x_iconst (v := (0 : Int32)) C dX7_mayLike_82 (by decide) ?_
          exact q_msk [true, true, true, true, false] (jW_X7_mayLike_83_2 C l0 l1 l2 l3 u14 (0 : Int32) M15 h kC kE0 kE1)
      · exact q_msk [true, true, true, true, false] (jW_X7_mayLike_88_2 C l0 l1 l2 l3 M h kC kE0 kE1)
    · exact q_msk [false, false, false, false, false] (kE1 _ (Option.some.inj h).symm)
  · exact q_msk [false, false, false, false, false] (kE1 _ (Option.some.inj h).symm)
set_option maxRecDepth 100000 in
set_option maxHeartbeats 4000000 in
theorem lW_X7_mayLike_2 {K : q_K} {Q : State → Prop} (C : q_C K yX7_mayLike cX7_mayLike 5 (Option.some Jvm.ClassFile.FieldType.boolean) 5 0 0) (l0 : Nat) (l1 : Int32) (l2 : Int32) (n : Nat) : ∀ (l3 : Int32) (M : q_Mem) (e : ((q_Mem) ⊕ (q_Mem))), q_lp (fun s => B_X7_mayLike_2 l0 l1 l2 s.1 s.2) n (l3, M) = some e → (∀ (M : q_Mem), e = (.inl M) → q_W K 5 Q 0 0 M 86 [none, none, none, none, none] []) → (∀ (M : q_Mem), e = (.inr M) → q_W K 5 Q 0 0 M 94 [none, none, none, none, none] []) → q_W K 5 Q 0 0 M 2 [some (.ref l0), some (.int l1), some (.int l2), some (.int l3), none] [] := by
  induction n with
  | zero => intro l3 M e h; cases h
  | succ n ih =>
    intro l3 M e h kE0 kE1
    obtain ⟨stp, e1, e2⟩ := q_bind h
    refine bW_X7_mayLike_2 C l0 l1 l2 l3 M e1 (fun a0 a1 hs => ?_) (fun b0 hs => ?_) (fun b0 hs => ?_)
    · subst hs; exact ih _ _ _ e2 kE0 kE1
    · subst hs; exact kE0 _ (Option.some.inj e2).symm
    · subst hs; exact kE1 _ (Option.some.inj e2).symm
noncomputable def F_X7_mayLike (l0 : Nat) (l1 : Int32) (l2 : Int32) (M : q_Mem) : Option (Int32 × q_Mem) := (q_lp (fun s => B_X7_mayLike_2 l0 l1 l2 s.1 s.2) q_fu ((0 : Int32), M)).bind (fun e19 => match e19 with | .inl M20 => q_rz (0 : Int32) M20 | .inr M21 => q_rz (1 : Int32) M21)
set_option maxRecDepth 100000 in
set_option maxHeartbeats 4000000 in
theorem c_X7_mayLike (l : Launch) (G : q_G) (l0 : Nat) (l1 : Int32) (l2 : Int32) (M : q_Mem) {r : Int32} {M' : q_Mem} (h : F_X7_mayLike l0 l1 l2 M = some (r, M')) : q_Met l G yX7_mayLike cX7_mayLike 5 (Option.some Jvm.ClassFile.FieldType.boolean) 5 0 0 [.ref l0, .int l1, .int l2] M (some (.int r)) M' := by
  unfold F_X7_mayLike at h
  refine q_enter [some (.ref l0), some (.int l1), some (.int l2), none, none] (by decide) (Nat.le_of_ble_eq_true rfl) rfl (fun K C => ?_)
  refine x_iconst (v := (0 : Int32)) C dX7_mayLike_0 (by decide) ?_
  refine q_istore_n (L' := [some (.ref l0), some (.int l1), some (.int l2), some (.int (0 : Int32)), none]) C dX7_mayLike_1 (by decide) rfl rfl ?_
  obtain ⟨e19, he, h⟩ := q_bind h
  refine q_msk [true, true, true, true, false] (lW_X7_mayLike_2 C l0 l1 l2 q_fu _ _ _ he (fun M20 hs => ?_) (fun M21 hs => ?_))
  · have hs := hs.symm
    subst hs
    refine x_iconst (v := (0 : Int32)) C dX7_mayLike_86 (by decide) ?_
    exact q_zret C dX7_mayLike_87 rfl (by decide) (by decide) (q_rzE h).1 (q_rzE h).2
  · have hs := hs.symm
    subst hs
    refine x_iconst (v := (1 : Int32)) C dX7_mayLike_94 (by decide) ?_
    exact q_zret C dX7_mayLike_95 rfl (by decide) (by decide) (q_rzE h).1 (q_rzE h).2
noncomputable def J_X7_kindsLeft_24_4 (l0 : Nat) (l1 : Int32) (l2 : Int32) (l3 : Int32) (M : q_Mem) : Option ((Int32 × Int32 × q_Mem) ⊕ (Int32 × q_Mem)) := some (.inl (l2, (l3 + (1 : Int32)), M))
set_option maxRecDepth 100000 in
set_option maxHeartbeats 4000000 in
theorem jW_X7_kindsLeft_24_4 {K : q_K} {Q : State → Prop} (C : q_C K yX7_kindsLeft cX7_kindsLeft 4 (Option.some Jvm.ClassFile.FieldType.int) 6 0 0) (l0 : Nat) (l1 : Int32) (l2 : Int32) (l3 : Int32) (M : q_Mem) {stp : (Int32 × Int32 × q_Mem) ⊕ (Int32 × q_Mem)} (h : J_X7_kindsLeft_24_4 l0 l1 l2 l3 M = some stp) (kC : ∀ (l2 : Int32) (l3 : Int32) (M : q_Mem), stp = .inl (l2, l3, M) → q_W K 4 Q 0 0 M 4 [some (.ref l0), some (.int l1), some (.int l2), some (.int l3)] []) (kE0 : ∀ (l2 : Int32) (M : q_Mem), stp = .inr (l2, M) → q_W K 4 Q 0 0 M 30 [none, none, some (.int l2), none] []) : q_W K 4 Q 0 0 M 24 [some (.ref l0), some (.int l1), some (.int l2), some (.int l3)] [] := by
  unfold J_X7_kindsLeft_24_4 at h
  refine x_iinc (w := (1 : Int32)) (L' := [some (.ref l0), some (.int l1), some (.int l2), some (.int (l3 + (1 : Int32)))]) C dX7_kindsLeft_24 rfl (by decide) (by decide) rfl rfl ?_
  refine q_goto (tgt := 4) C dX7_kindsLeft_27 (by decide) ?_
  exact q_msk [true, true, true, true] (kC _ _ _ (Option.some.inj h).symm)
noncomputable def B_X7_kindsLeft_4 (l0 : Nat) (l1 : Int32) (l2 : Int32) (l3 : Int32) (M : q_Mem) : Option ((Int32 × Int32 × q_Mem) ⊕ (Int32 × q_Mem)) := (if l3 < (4 : Int32) then (q_ob M l0 7 ((F_X7_mayLike l0 l1 l3 M).bind (fun x => match x with | (u1, M2) => (if u1 = 0 then J_X7_kindsLeft_24_4 l0 l1 l2 l3 M2 else J_X7_kindsLeft_24_4 l0 l1 (l2 ||| ((1 : Int32) <<< (l3 &&& 31))) l3 M2)))) else some (.inr (l2, M)))
set_option maxRecDepth 100000 in
set_option maxHeartbeats 4000000 in
theorem bW_X7_kindsLeft_4 {K : q_K} {Q : State → Prop} (C : q_C K yX7_kindsLeft cX7_kindsLeft 4 (Option.some Jvm.ClassFile.FieldType.int) 6 0 0) (l0 : Nat) (l1 : Int32) (l2 : Int32) (l3 : Int32) (M : q_Mem) {stp : (Int32 × Int32 × q_Mem) ⊕ (Int32 × q_Mem)} (h : B_X7_kindsLeft_4 l0 l1 l2 l3 M = some stp) (kC : ∀ (l2 : Int32) (l3 : Int32) (M : q_Mem), stp = .inl (l2, l3, M) → q_W K 4 Q 0 0 M 4 [some (.ref l0), some (.int l1), some (.int l2), some (.int l3)] []) (kE0 : ∀ (l2 : Int32) (M : q_Mem), stp = .inr (l2, M) → q_W K 4 Q 0 0 M 30 [none, none, some (.int l2), none] []) : q_W K 4 Q 0 0 M 4 [some (.ref l0), some (.int l1), some (.int l2), some (.int l3)] [] := by
  unfold B_X7_kindsLeft_4 at h
  refine q_iload_n C dX7_kindsLeft_4 rfl ?_
  refine x_iconst (v := (4 : Int32)) C dX7_kindsLeft_5 (by decide) ?_
  refine q_icmp_ge (tgt := 30) C dX7_kindsLeft_6 (by decide) h (fun _ h => ?_) (fun _ h => ?_)
  · refine q_aload_n C dX7_kindsLeft_9 rfl ?_
    refine q_iload_n C dX7_kindsLeft_10 rfl ?_
    refine q_iload_n C dX7_kindsLeft_11 rfl ?_
    obtain ⟨hk, h⟩ := q_obE h
    obtain ⟨⟨u1, M2⟩, e1, h⟩ := q_bind h
    refine x_callV0 C dX7_kindsLeft_12 lkM_X7_46 mV_X7_mayLike ⟨_, rfl, rfl⟩ hk (c_X7_mayLike _ _ _ _ _ _ e1) rfl rfl (Nat.le_of_ble_eq_true rfl) (by decide) (by decide) ?_
    refine q_if_eq (tgt := 24) C dX7_kindsLeft_15 (by decide) h (fun _ h => ?_) (fun _ h => ?_)
    · exact q_msk [true, true, true, true] (jW_X7_kindsLeft_24_4 C l0 l1 l2 l3 M2 h kC kE0)
    · refine q_iload_n C dX7_kindsLeft_18 rfl ?_
      refine x_iconst (v := (1 : Int32)) C dX7_kindsLeft_19 (by decide) ?_
      refine q_iload_n C dX7_kindsLeft_20 rfl ?_
      refine q_ishl C dX7_kindsLeft_21 ?_
      refine q_ior C dX7_kindsLeft_22 ?_
      refine q_istore_n (L' := [some (.ref l0), some (.int l1), some (.int (l2 ||| ((1 : Int32) <<< (l3 &&& 31)))), some (.int l3)]) C dX7_kindsLeft_23 (by decide) rfl rfl ?_
      exact q_msk [true, true, true, true] (jW_X7_kindsLeft_24_4 C l0 l1 (l2 ||| ((1 : Int32) <<< (l3 &&& 31))) l3 M2 h kC kE0)
  · exact q_msk [false, false, true, false] (kE0 _ _ (Option.some.inj h).symm)
set_option maxRecDepth 100000 in
set_option maxHeartbeats 4000000 in
theorem lW_X7_kindsLeft_4 {K : q_K} {Q : State → Prop} (C : q_C K yX7_kindsLeft cX7_kindsLeft 4 (Option.some Jvm.ClassFile.FieldType.int) 6 0 0) (l0 : Nat) (l1 : Int32) (n : Nat) : ∀ (l2 : Int32) (l3 : Int32) (M : q_Mem) (e : (Int32 × q_Mem)), q_lp (fun s => B_X7_kindsLeft_4 l0 l1 s.1 s.2.1 s.2.2) n (l2, l3, M) = some e → (∀ (l2 : Int32) (M : q_Mem), e = (l2, M) → q_W K 4 Q 0 0 M 30 [none, none, some (.int l2), none] []) → q_W K 4 Q 0 0 M 4 [some (.ref l0), some (.int l1), some (.int l2), some (.int l3)] [] := by
  induction n with
  | zero => intro l2 l3 M e h; cases h
  | succ n ih =>
    intro l2 l3 M e h kE0
    obtain ⟨stp, e1, e2⟩ := q_bind h
    refine bW_X7_kindsLeft_4 C l0 l1 l2 l3 M e1 (fun a0 a1 a2 hs => ?_) (fun b0 b1 hs => ?_)
    · subst hs; exact ih _ _ _ _ e2 kE0
    · subst hs; exact kE0 _ _ (Option.some.inj e2).symm
noncomputable def F_X7_kindsLeft (l0 : Nat) (l1 : Int32) (M : q_Mem) : Option (Int32 × q_Mem) := (q_lp (fun s => B_X7_kindsLeft_4 l0 l1 s.1 s.2.1 s.2.2) q_fu ((0 : Int32), (0 : Int32), M)).bind (fun e3 => match e3 with | (w4, M5) => some (w4, M5))
set_option maxRecDepth 100000 in
set_option maxHeartbeats 4000000 in
theorem c_X7_kindsLeft (l : Launch) (G : q_G) (l0 : Nat) (l1 : Int32) (M : q_Mem) {r : Int32} {M' : q_Mem} (h : F_X7_kindsLeft l0 l1 M = some (r, M')) : q_Met l G yX7_kindsLeft cX7_kindsLeft 4 (Option.some Jvm.ClassFile.FieldType.int) 6 0 0 [.ref l0, .int l1] M (some (.int r)) M' := by
  unfold F_X7_kindsLeft at h
  refine q_enter [some (.ref l0), some (.int l1), none, none] (by decide) (Nat.le_of_ble_eq_true rfl) rfl (fun K C => ?_)
  refine x_iconst (v := (0 : Int32)) C dX7_kindsLeft_0 (by decide) ?_
  refine q_istore_n (L' := [some (.ref l0), some (.int l1), some (.int (0 : Int32)), none]) C dX7_kindsLeft_1 (by decide) rfl rfl ?_
  refine x_iconst (v := (0 : Int32)) C dX7_kindsLeft_2 (by decide) ?_
  refine q_istore_n (L' := [some (.ref l0), some (.int l1), some (.int (0 : Int32)), some (.int (0 : Int32))]) C dX7_kindsLeft_3 (by decide) rfl rfl ?_
  obtain ⟨e3, he, h⟩ := q_bind h
  refine q_msk [true, true, true, true] (lW_X7_kindsLeft_4 C l0 l1 q_fu _ _ _ _ he (fun w4 M5 hs => ?_))
  · have hs := hs.symm
    subst hs
    refine q_iload_n C dX7_kindsLeft_30 rfl ?_
    exact q_iret C dX7_kindsLeft_31 rfl (by decide) (by decide) (Option.some.inj h)
noncomputable def J_X7_lean_46_6 (l0 : Nat) (l1 : Int32) (l2 : Int32) (l3 : Int32) (l4 : Int32) (l5 : Int32) (l6 : Int32) (l7 : Int32) (M : q_Mem) : Option ((Int32 × Int32 × q_Mem) ⊕ (Int32 × q_Mem)) := some (.inl (l6, (l7 + (1 : Int32)), M))
set_option maxRecDepth 100000 in
set_option maxHeartbeats 4000000 in
theorem jW_X7_lean_46_6 {K : q_K} {Q : State → Prop} (C : q_C K yX7_lean cX7_lean 8 (Option.some Jvm.ClassFile.FieldType.int) 5 0 0) (l0 : Nat) (l1 : Int32) (l2 : Int32) (l3 : Int32) (l4 : Int32) (l5 : Int32) (l6 : Int32) (l7 : Int32) (M : q_Mem) {stp : (Int32 × Int32 × q_Mem) ⊕ (Int32 × q_Mem)} (h : J_X7_lean_46_6 l0 l1 l2 l3 l4 l5 l6 l7 M = some stp) (kC : ∀ (l6 : Int32) (l7 : Int32) (M : q_Mem), stp = .inl (l6, l7, M) → q_W K 8 Q 0 0 M 6 [some (.ref l0), some (.int l1), some (.int l2), some (.int l3), some (.int l4), some (.int l5), some (.int l6), some (.int l7)] []) (kE0 : ∀ (l6 : Int32) (M : q_Mem), stp = .inr (l6, M) → q_W K 8 Q 0 0 M 52 [none, none, none, none, none, none, some (.int l6), none] []) : q_W K 8 Q 0 0 M 46 [some (.ref l0), some (.int l1), some (.int l2), some (.int l3), some (.int l4), some (.int l5), some (.int l6), some (.int l7)] [] := by
  unfold J_X7_lean_46_6 at h
  refine x_iinc (w := (1 : Int32)) (L' := [some (.ref l0), some (.int l1), some (.int l2), some (.int l3), some (.int l4), some (.int l5), some (.int l6), some (.int (l7 + (1 : Int32)))]) C dX7_lean_46 rfl (by decide) (by decide) rfl rfl ?_
  refine q_goto (tgt := 6) C dX7_lean_49 (by decide) ?_
  exact q_msk [true, true, true, true, true, true, true, true] (kC _ _ _ (Option.some.inj h).symm)
noncomputable def J_X7_lean_43_6 (l0 : Nat) (l1 : Int32) (l2 : Int32) (l3 : Int32) (l4 : Int32) (l5 : Int32) (l7 : Int32) (s0 : Int32) (s1 : Int32) (M : q_Mem) : Option ((Int32 × Int32 × q_Mem) ⊕ (Int32 × q_Mem)) := J_X7_lean_46_6 l0 l1 l2 l3 l4 l5 (s0 + s1) l7 M
set_option maxRecDepth 100000 in
set_option maxHeartbeats 4000000 in
theorem jW_X7_lean_43_6 {K : q_K} {Q : State → Prop} (C : q_C K yX7_lean cX7_lean 8 (Option.some Jvm.ClassFile.FieldType.int) 5 0 0) (l0 : Nat) (l1 : Int32) (l2 : Int32) (l3 : Int32) (l4 : Int32) (l5 : Int32) (l7 : Int32) (s0 : Int32) (s1 : Int32) (M : q_Mem) {stp : (Int32 × Int32 × q_Mem) ⊕ (Int32 × q_Mem)} (h : J_X7_lean_43_6 l0 l1 l2 l3 l4 l5 l7 s0 s1 M = some stp) (kC : ∀ (l6 : Int32) (l7 : Int32) (M : q_Mem), stp = .inl (l6, l7, M) → q_W K 8 Q 0 0 M 6 [some (.ref l0), some (.int l1), some (.int l2), some (.int l3), some (.int l4), some (.int l5), some (.int l6), some (.int l7)] []) (kE0 : ∀ (l6 : Int32) (M : q_Mem), stp = .inr (l6, M) → q_W K 8 Q 0 0 M 52 [none, none, none, none, none, none, some (.int l6), none] []) : q_W K 8 Q 0 0 M 43 [some (.ref l0), some (.int l1), some (.int l2), some (.int l3), some (.int l4), some (.int l5), none, some (.int l7)] [.int s1, .int s0] := by
  unfold J_X7_lean_43_6 at h
  refine q_iadd C dX7_lean_43 ?_
  refine q_istore (L' := [some (.ref l0), some (.int l1), some (.int l2), some (.int l3), some (.int l4), some (.int l5), some (.int (s0 + s1)), some (.int l7)]) C dX7_lean_44 (by decide) rfl rfl ?_
  exact q_msk [true, true, true, true, true, true, true, true] (jW_X7_lean_46_6 C l0 l1 l2 l3 l4 l5 (s0 + s1) l7 M h kC kE0)
noncomputable def B_X7_lean_6 (l0 : Nat) (l1 : Int32) (l2 : Int32) (l3 : Int32) (l4 : Int32) (l5 : Int32) (l6 : Int32) (l7 : Int32) (M : q_Mem) : Option ((Int32 × Int32 × q_Mem) ⊕ (Int32 × q_Mem)) := (if l7 < (4 : Int32) then (if ((l2 >>> (l7 &&& 31)) &&& (1 : Int32)) = 0 then J_X7_lean_46_6 l0 l1 l2 l3 l4 l5 l6 l7 M else (q_ob M l0 7 ((F_X7_hasJoy l0 l1 l7 l3 l4 l5 M).bind (fun x => match x with | (u1, M2) => (if u1 = 0 then J_X7_lean_43_6 l0 l1 l2 l3 l4 l5 l7 l6 (-1 : Int32) M2 else J_X7_lean_43_6 l0 l1 l2 l3 l4 l5 l7 l6 (1 : Int32) M2))))) else some (.inr (l6, M)))
set_option maxRecDepth 100000 in
set_option maxHeartbeats 4000000 in
theorem bW_X7_lean_6 {K : q_K} {Q : State → Prop} (C : q_C K yX7_lean cX7_lean 8 (Option.some Jvm.ClassFile.FieldType.int) 5 0 0) (l0 : Nat) (l1 : Int32) (l2 : Int32) (l3 : Int32) (l4 : Int32) (l5 : Int32) (l6 : Int32) (l7 : Int32) (M : q_Mem) {stp : (Int32 × Int32 × q_Mem) ⊕ (Int32 × q_Mem)} (h : B_X7_lean_6 l0 l1 l2 l3 l4 l5 l6 l7 M = some stp) (kC : ∀ (l6 : Int32) (l7 : Int32) (M : q_Mem), stp = .inl (l6, l7, M) → q_W K 8 Q 0 0 M 6 [some (.ref l0), some (.int l1), some (.int l2), some (.int l3), some (.int l4), some (.int l5), some (.int l6), some (.int l7)] []) (kE0 : ∀ (l6 : Int32) (M : q_Mem), stp = .inr (l6, M) → q_W K 8 Q 0 0 M 52 [none, none, none, none, none, none, some (.int l6), none] []) : q_W K 8 Q 0 0 M 6 [some (.ref l0), some (.int l1), some (.int l2), some (.int l3), some (.int l4), some (.int l5), some (.int l6), some (.int l7)] [] := by
  unfold B_X7_lean_6 at h
  refine q_iload C dX7_lean_6 rfl ?_
  refine x_iconst (v := (4 : Int32)) C dX7_lean_8 (by decide) ?_
  refine q_icmp_ge (tgt := 52) C dX7_lean_9 (by decide) h (fun _ h => ?_) (fun _ h => ?_)
  · refine q_iload_n C dX7_lean_12 rfl ?_
    refine q_iload C dX7_lean_13 rfl ?_
    refine q_ishr C dX7_lean_15 ?_
    refine x_iconst (v := (1 : Int32)) C dX7_lean_16 (by decide) ?_
    refine q_iand C dX7_lean_17 ?_
    refine q_if_eq (tgt := 46) C dX7_lean_18 (by decide) h (fun _ h => ?_) (fun _ h => ?_)
    · exact q_msk [true, true, true, true, true, true, true, true] (jW_X7_lean_46_6 C l0 l1 l2 l3 l4 l5 l6 l7 M h kC kE0)
    · refine q_iload C dX7_lean_21 rfl ?_
      refine q_aload_n C dX7_lean_23 rfl ?_
      refine q_iload_n C dX7_lean_24 rfl ?_
      refine q_iload C dX7_lean_25 rfl ?_
      refine q_iload_n C dX7_lean_27 rfl ?_
      refine q_iload C dX7_lean_28 rfl ?_
      refine q_iload C dX7_lean_30 rfl ?_
      obtain ⟨hk, h⟩ := q_obE h
      obtain ⟨⟨u1, M2⟩, e1, h⟩ := q_bind h
      refine x_callV0 C dX7_lean_32 lkM_X7_42 mV_X7_hasJoy ⟨_, rfl, rfl⟩ hk (c_X7_hasJoy _ _ _ _ _ _ _ _ _ e1) rfl rfl (Nat.le_of_ble_eq_true rfl) (by decide) (by decide) ?_
      refine q_if_eq (tgt := 42) C dX7_lean_35 (by decide) h (fun _ h => ?_) (fun _ h => ?_)
      · refine x_iconst (v := (-1 : Int32)) C dX7_lean_42 (by decide) ?_
        exact q_msk [true, true, true, true, true, true, false, true] (jW_X7_lean_43_6 C l0 l1 l2 l3 l4 l5 l7 l6 (-1 : Int32) M2 h kC kE0)
      · refine x_iconst (v := (1 : Int32)) C dX7_lean_38 (by decide) ?_
        refine q_goto (tgt := 43) C dX7_lean_39 (by decide) ?_
        exact q_msk [true, true, true, true, true, true, false, true] (jW_X7_lean_43_6 C l0 l1 l2 l3 l4 l5 l7 l6 (1 : Int32) M2 h kC kE0)
  · exact q_msk [false, false, false, false, false, false, true, false] (kE0 _ _ (Option.some.inj h).symm)
set_option maxRecDepth 100000 in
set_option maxHeartbeats 4000000 in
theorem lW_X7_lean_6 {K : q_K} {Q : State → Prop} (C : q_C K yX7_lean cX7_lean 8 (Option.some Jvm.ClassFile.FieldType.int) 5 0 0) (l0 : Nat) (l1 : Int32) (l2 : Int32) (l3 : Int32) (l4 : Int32) (l5 : Int32) (n : Nat) : ∀ (l6 : Int32) (l7 : Int32) (M : q_Mem) (e : (Int32 × q_Mem)), q_lp (fun s => B_X7_lean_6 l0 l1 l2 l3 l4 l5 s.1 s.2.1 s.2.2) n (l6, l7, M) = some e → (∀ (l6 : Int32) (M : q_Mem), e = (l6, M) → q_W K 8 Q 0 0 M 52 [none, none, none, none, none, none, some (.int l6), none] []) → q_W K 8 Q 0 0 M 6 [some (.ref l0), some (.int l1), some (.int l2), some (.int l3), some (.int l4), some (.int l5), some (.int l6), some (.int l7)] [] := by
  induction n with
  | zero => intro l6 l7 M e h; cases h
  | succ n ih =>
    intro l6 l7 M e h kE0
    obtain ⟨stp, e1, e2⟩ := q_bind h
    refine bW_X7_lean_6 C l0 l1 l2 l3 l4 l5 l6 l7 M e1 (fun a0 a1 a2 hs => ?_) (fun b0 b1 hs => ?_)
    · subst hs; exact ih _ _ _ _ e2 kE0
    · subst hs; exact kE0 _ _ (Option.some.inj e2).symm
noncomputable def F_X7_lean (l0 : Nat) (l1 : Int32) (l2 : Int32) (l3 : Int32) (l4 : Int32) (l5 : Int32) (M : q_Mem) : Option (Int32 × q_Mem) := (q_lp (fun s => B_X7_lean_6 l0 l1 l2 l3 l4 l5 s.1 s.2.1 s.2.2) q_fu ((0 : Int32), (0 : Int32), M)).bind (fun e3 => match e3 with | (w4, M5) => some (w4, M5))
set_option maxRecDepth 100000 in
set_option maxHeartbeats 4000000 in
theorem c_X7_lean (l : Launch) (G : q_G) (l0 : Nat) (l1 : Int32) (l2 : Int32) (l3 : Int32) (l4 : Int32) (l5 : Int32) (M : q_Mem) {r : Int32} {M' : q_Mem} (h : F_X7_lean l0 l1 l2 l3 l4 l5 M = some (r, M')) : q_Met l G yX7_lean cX7_lean 8 (Option.some Jvm.ClassFile.FieldType.int) 5 0 0 [.ref l0, .int l1, .int l2, .int l3, .int l4, .int l5] M (some (.int r)) M' := by
  unfold F_X7_lean at h
  refine q_enter [some (.ref l0), some (.int l1), some (.int l2), some (.int l3), some (.int l4), some (.int l5), none, none] (by decide) (Nat.le_of_ble_eq_true rfl) rfl (fun K C => ?_)
  refine x_iconst (v := (0 : Int32)) C dX7_lean_0 (by decide) ?_
  refine q_istore (L' := [some (.ref l0), some (.int l1), some (.int l2), some (.int l3), some (.int l4), some (.int l5), some (.int (0 : Int32)), none]) C dX7_lean_1 (by decide) rfl rfl ?_
  refine x_iconst (v := (0 : Int32)) C dX7_lean_3 (by decide) ?_
  refine q_istore (L' := [some (.ref l0), some (.int l1), some (.int l2), some (.int l3), some (.int l4), some (.int l5), some (.int (0 : Int32)), some (.int (0 : Int32))]) C dX7_lean_4 (by decide) rfl rfl ?_
  obtain ⟨e3, he, h⟩ := q_bind h
  refine q_msk [true, true, true, true, true, true, true, true] (lW_X7_lean_6 C l0 l1 l2 l3 l4 l5 q_fu _ _ _ _ he (fun w4 M5 hs => ?_))
  · have hs := hs.symm
    subst hs
    refine q_iload C dX7_lean_52 rfl ?_
    exact q_iret C dX7_lean_54 rfl (by decide) (by decide) (Option.some.inj h)
noncomputable def J_X7_dishToTry_66_23 (l0 : Nat) (l1 : Int32) (l2 : Int32) (l3 : Int32) (l4 : Int32) (l5 : Int32) (l6 : Int32) (l7 : Int32) (M : q_Mem) : Option ((Int32 × Int32 × Int32 × q_Mem) ⊕ (Int32 × q_Mem)) := some (.inl (l5, l6, (l7 + (1 : Int32)), M))
set_option maxRecDepth 100000 in
set_option maxHeartbeats 4000000 in
theorem jW_X7_dishToTry_66_23 {K : q_K} {Q : State → Prop} (C : q_C K yX7_dishToTry cX7_dishToTry 9 (Option.some Jvm.ClassFile.FieldType.int) 7 0 0) (l0 : Nat) (l1 : Int32) (l2 : Int32) (l3 : Int32) (l4 : Int32) (l5 : Int32) (l6 : Int32) (l7 : Int32) (M : q_Mem) {stp : (Int32 × Int32 × Int32 × q_Mem) ⊕ (Int32 × q_Mem)} (h : J_X7_dishToTry_66_23 l0 l1 l2 l3 l4 l5 l6 l7 M = some stp) (kC : ∀ (l5 : Int32) (l6 : Int32) (l7 : Int32) (M : q_Mem), stp = .inl (l5, l6, l7, M) → q_W K 9 Q 0 0 M 23 [some (.ref l0), some (.int l1), some (.int l2), some (.int l3), some (.int l4), some (.int l5), some (.int l6), some (.int l7), none] []) (kE0 : ∀ (l5 : Int32) (M : q_Mem), stp = .inr (l5, M) → q_W K 9 Q 0 0 M 72 [none, none, none, none, none, some (.int l5), none, none, none] []) : q_W K 9 Q 0 0 M 66 [some (.ref l0), some (.int l1), some (.int l2), some (.int l3), some (.int l4), some (.int l5), some (.int l6), some (.int l7), none] [] := by
  unfold J_X7_dishToTry_66_23 at h
  refine x_iinc (w := (1 : Int32)) (L' := [some (.ref l0), some (.int l1), some (.int l2), some (.int l3), some (.int l4), some (.int l5), some (.int l6), some (.int (l7 + (1 : Int32))), none]) C dX7_dishToTry_66 rfl (by decide) (by decide) rfl rfl ?_
  refine q_goto (tgt := 23) C dX7_dishToTry_69 (by decide) ?_
  exact q_msk [true, true, true, true, true, true, true, true, false] (kC _ _ _ _ (Option.some.inj h).symm)
noncomputable def B_X7_dishToTry_23 (l0 : Nat) (l1 : Int32) (l2 : Int32) (l3 : Int32) (l4 : Int32) (l5 : Int32) (l6 : Int32) (l7 : Int32) (M : q_Mem) : Option ((Int32 × Int32 × Int32 × q_Mem) ⊕ (Int32 × q_Mem)) := (q_gR M l0 7 0 (fun c3 => q_nn c3 (fun r4 => (q_gI M r4 3 4 (fun v5 => (if l7 < v5 then (q_ob M l0 7 ((F_X7_lean l0 l1 l4 l7 l2 l3 M).bind (fun x => match x with | (u6, M7) => (if (q_ab u6) < l6 then J_X7_dishToTry_66_23 l0 l1 l2 l3 l4 l7 (q_ab u6) l7 M7 else J_X7_dishToTry_66_23 l0 l1 l2 l3 l4 l5 l6 l7 M7)))) else some (.inr (l5, M))))))))
set_option maxRecDepth 100000 in
set_option maxHeartbeats 4000000 in
theorem bW_X7_dishToTry_23 {K : q_K} {Q : State → Prop} (C : q_C K yX7_dishToTry cX7_dishToTry 9 (Option.some Jvm.ClassFile.FieldType.int) 7 0 0) (l0 : Nat) (l1 : Int32) (l2 : Int32) (l3 : Int32) (l4 : Int32) (l5 : Int32) (l6 : Int32) (l7 : Int32) (M : q_Mem) {stp : (Int32 × Int32 × Int32 × q_Mem) ⊕ (Int32 × q_Mem)} (h : B_X7_dishToTry_23 l0 l1 l2 l3 l4 l5 l6 l7 M = some stp) (kC : ∀ (l5 : Int32) (l6 : Int32) (l7 : Int32) (M : q_Mem), stp = .inl (l5, l6, l7, M) → q_W K 9 Q 0 0 M 23 [some (.ref l0), some (.int l1), some (.int l2), some (.int l3), some (.int l4), some (.int l5), some (.int l6), some (.int l7), none] []) (kE0 : ∀ (l5 : Int32) (M : q_Mem), stp = .inr (l5, M) → q_W K 9 Q 0 0 M 72 [none, none, none, none, none, some (.int l5), none, none, none] []) : q_W K 9 Q 0 0 M 23 [some (.ref l0), some (.int l1), some (.int l2), some (.int l3), some (.int l4), some (.int l5), some (.int l6), some (.int l7), none] [] := by
  unfold B_X7_dishToTry_23 at h
  refine q_iload C dX7_dishToTry_23 rfl ?_
  refine q_aload_n C dX7_dishToTry_25 rfl ?_
  refine x_getR (ci := 7) (j := 0) C dX7_dishToTry_26 lkF_X7_19 rfl h (fun c3 h => ?_)
  refine x_nn h (fun r4 h => ?_)
  refine x_getI (ci := 3) (j := 4) C dX7_dishToTry_29 lkF_X7_54 rfl h (fun v5 h => ?_)
  refine q_icmp_ge (tgt := 72) C dX7_dishToTry_32 (by decide) h (fun _ h => ?_) (fun _ h => ?_)
  · refine q_aload_n C dX7_dishToTry_35 rfl ?_
    refine q_iload_n C dX7_dishToTry_36 rfl ?_
    refine q_iload C dX7_dishToTry_37 rfl ?_
    refine q_iload C dX7_dishToTry_39 rfl ?_
    refine q_iload_n C dX7_dishToTry_41 rfl ?_
    refine q_iload_n C dX7_dishToTry_42 rfl ?_
    obtain ⟨hk, h⟩ := q_obE h
    obtain ⟨⟨u6, M7⟩, e1, h⟩ := q_bind h
    refine x_callV0 C dX7_dishToTry_43 lkM_X7_57 mV_X7_lean ⟨_, rfl, rfl⟩ hk (c_X7_lean _ _ _ _ _ _ _ _ _ e1) rfl rfl (Nat.le_of_ble_eq_true rfl) (by decide) (by decide) ?_
    refine q_abs C dX7_dishToTry_46 wd_989 wd_990 wd_15 wd_991 (by decide) (Nat.le_of_ble_eq_true rfl) (by decide) ?_
    refine q_istore (L' := [some (.ref l0), some (.int l1), some (.int l2), some (.int l3), some (.int l4), some (.int l5), some (.int l6), some (.int l7), some (.int (q_ab u6))]) C dX7_dishToTry_49 (by decide) rfl rfl ?_
    refine q_iload C dX7_dishToTry_51 rfl ?_
    refine q_iload C dX7_dishToTry_53 rfl ?_
    refine q_icmp_ge (tgt := 66) C dX7_dishToTry_55 (by decide) h (fun _ h => ?_) (fun _ h => ?_)
    · refine q_iload C dX7_dishToTry_58 rfl ?_
      refine q_istore (L' := [some (.ref l0), some (.int l1), some (.int l2), some (.int l3), some (.int l4), some (.int l5), some (.int (q_ab u6)), some (.int l7), some (.int (q_ab u6))]) C dX7_dishToTry_60 (by decide) rfl rfl ?_
      refine q_iload C dX7_dishToTry_62 rfl ?_
      refine q_istore (L' := [some (.ref l0), some (.int l1), some (.int l2), some (.int l3), some (.int l4), some (.int l7), some (.int (q_ab u6)), some (.int l7), some (.int (q_ab u6))]) C dX7_dishToTry_64 (by decide) rfl rfl ?_
      exact q_msk [true, true, true, true, true, true, true, true, false] (jW_X7_dishToTry_66_23 C l0 l1 l2 l3 l4 l7 (q_ab u6) l7 M7 h kC kE0)
    · exact q_msk [true, true, true, true, true, true, true, true, false] (jW_X7_dishToTry_66_23 C l0 l1 l2 l3 l4 l5 l6 l7 M7 h kC kE0)
  · exact q_msk [false, false, false, false, false, true, false, false, false] (kE0 _ _ (Option.some.inj h).symm)
set_option maxRecDepth 100000 in
set_option maxHeartbeats 4000000 in
theorem lW_X7_dishToTry_23 {K : q_K} {Q : State → Prop} (C : q_C K yX7_dishToTry cX7_dishToTry 9 (Option.some Jvm.ClassFile.FieldType.int) 7 0 0) (l0 : Nat) (l1 : Int32) (l2 : Int32) (l3 : Int32) (l4 : Int32) (n : Nat) : ∀ (l5 : Int32) (l6 : Int32) (l7 : Int32) (M : q_Mem) (e : (Int32 × q_Mem)), q_lp (fun s => B_X7_dishToTry_23 l0 l1 l2 l3 l4 s.1 s.2.1 s.2.2.1 s.2.2.2) n (l5, l6, l7, M) = some e → (∀ (l5 : Int32) (M : q_Mem), e = (l5, M) → q_W K 9 Q 0 0 M 72 [none, none, none, none, none, some (.int l5), none, none, none] []) → q_W K 9 Q 0 0 M 23 [some (.ref l0), some (.int l1), some (.int l2), some (.int l3), some (.int l4), some (.int l5), some (.int l6), some (.int l7), none] [] := by
  induction n with
  | zero => intro l5 l6 l7 M e h; cases h
  | succ n ih =>
    intro l5 l6 l7 M e h kE0
    obtain ⟨stp, e1, e2⟩ := q_bind h
    refine bW_X7_dishToTry_23 C l0 l1 l2 l3 l4 l5 l6 l7 M e1 (fun a0 a1 a2 a3 hs => ?_) (fun b0 b1 hs => ?_)
    · subst hs; exact ih _ _ _ _ _ e2 kE0
    · subst hs; exact kE0 _ _ (Option.some.inj e2).symm
noncomputable def F_X7_dishToTry (l0 : Nat) (l1 : Int32) (l2 : Int32) (l3 : Int32) (M : q_Mem) : Option (Int32 × q_Mem) := (q_ob M l0 7 ((F_X7_kindsLeft l0 l1 M).bind (fun x => match x with | (u1, M2) => (if u1 = 0 then some ((-1 : Int32), M2) else (q_lp (fun s => B_X7_dishToTry_23 l0 l1 l2 l3 u1 s.1 s.2.1 s.2.2.1 s.2.2.2) q_fu ((-1 : Int32), (5 : Int32), (0 : Int32), M2)).bind (fun e8 => match e8 with | (w9, M10) => some (w9, M10))))))
set_option maxRecDepth 100000 in
set_option maxHeartbeats 4000000 in
theorem c_X7_dishToTry (l : Launch) (G : q_G) (l0 : Nat) (l1 : Int32) (l2 : Int32) (l3 : Int32) (M : q_Mem) {r : Int32} {M' : q_Mem} (h : F_X7_dishToTry l0 l1 l2 l3 M = some (r, M')) : q_Met l G yX7_dishToTry cX7_dishToTry 9 (Option.some Jvm.ClassFile.FieldType.int) 7 0 0 [.ref l0, .int l1, .int l2, .int l3] M (some (.int r)) M' := by
  unfold F_X7_dishToTry at h
  refine q_enter [some (.ref l0), some (.int l1), some (.int l2), some (.int l3), none, none, none, none, none] (by decide) (Nat.le_of_ble_eq_true rfl) rfl (fun K C => ?_)
  refine q_aload_n C dX7_dishToTry_0 rfl ?_
  refine q_iload_n C dX7_dishToTry_1 rfl ?_
  obtain ⟨hk, h⟩ := q_obE h
  obtain ⟨⟨u1, M2⟩, e1, h⟩ := q_bind h
  refine x_callV0 C dX7_dishToTry_2 lkM_X7_50 mV_X7_kindsLeft ⟨_, rfl, rfl⟩ hk (c_X7_kindsLeft _ _ _ _ _ e1) rfl rfl (Nat.le_of_ble_eq_true rfl) (by decide) (by decide) ?_
  refine q_istore (L' := [some (.ref l0), some (.int l1), some (.int l2), some (.int l3), some (.int u1), none, none, none, none]) C dX7_dishToTry_5 (by decide) rfl rfl ?_
  refine q_iload C dX7_dishToTry_7 rfl ?_
  refine q_if_ne (tgt := 14) C dX7_dishToTry_9 (by decide) h (fun _ h => ?_) (fun _ h => ?_)
  · refine x_iconst (v := (-1 : Int32)) C dX7_dishToTry_12 (by decide) ?_
    exact q_iret C dX7_dishToTry_13 rfl (by decide) (by decide) (Option.some.inj h)
  · refine x_iconst (v := (-1 : Int32)) C dX7_dishToTry_14 (by decide) ?_
    refine q_istore (L' := [some (.ref l0), some (.int l1), some (.int l2), some (.int l3), some (.int u1), some (.int (-1 : Int32)), none, none, none]) C dX7_dishToTry_15 (by decide) rfl rfl ?_
    refine x_iconst (v := (5 : Int32)) C dX7_dishToTry_17 (by decide) ?_
    refine q_istore (L' := [some (.ref l0), some (.int l1), some (.int l2), some (.int l3), some (.int u1), some (.int (-1 : Int32)), some (.int (5 : Int32)), none, none]) C dX7_dishToTry_18 (by decide) rfl rfl ?_
    refine x_iconst (v := (0 : Int32)) C dX7_dishToTry_20 (by decide) ?_
    refine q_istore (L' := [some (.ref l0), some (.int l1), some (.int l2), some (.int l3), some (.int u1), some (.int (-1 : Int32)), some (.int (5 : Int32)), some (.int (0 : Int32)), none]) C dX7_dishToTry_21 (by decide) rfl rfl ?_
    obtain ⟨e8, he, h⟩ := q_bind h
    refine q_msk [true, true, true, true, true, true, true, true, false] (lW_X7_dishToTry_23 C l0 l1 l2 l3 u1 q_fu _ _ _ _ _ he (fun w9 M10 hs => ?_))
    · have hs := hs.symm
      subst hs
      refine q_iload C dX7_dishToTry_72 rfl ?_
      exact q_iret C dX7_dishToTry_74 rfl (by decide) (by decide) (Option.some.inj h)
noncomputable def B_J7_fill_53178_5 (l0 : Nat) (l1 : Int32) (l3 : Int32) (l2 : Int32) (M : q_Mem) : Option ((Int32 × q_Mem) ⊕ (q_Mem)) := (if l2 < l3 then (q_tI M l0 l2 l1 (fun M2 => some (.inl ((l2 + (1 : Int32)), M2)))) else some (.inr M))
set_option maxRecDepth 100000 in
set_option maxHeartbeats 4000000 in
theorem bW_J7_fill_53178_5 {K : q_K} {Q : State → Prop} (C : q_C K yJ7_fill_53178 cJ7_fill_53178 4 (Option.none : Option Jvm.ClassFile.FieldType) 1 0 0) (l0 : Nat) (l1 : Int32) (l2 : Int32) (l3 : Int32) (M : q_Mem) {stp : (Int32 × q_Mem) ⊕ (q_Mem)} (h : B_J7_fill_53178_5 l0 l1 l3 l2 M = some stp) (kC : ∀ (l2 : Int32) (M : q_Mem), stp = .inl (l2, M) → q_W K 4 Q 0 0 M 5 [some (.ref l0), some (.int l1), some (.int l2), some (.int l3)] []) (kE0 : ∀ (M : q_Mem), stp = .inr M → q_W K 4 Q 0 0 M 20 [none, none, none, none] []) : q_W K 4 Q 0 0 M 5 [some (.ref l0), some (.int l1), some (.int l2), some (.int l3)] [] := by
  unfold B_J7_fill_53178_5 at h
  refine q_iload_n C dJ7_fill_53178_5 rfl ?_
  refine q_iload_n C dJ7_fill_53178_6 rfl ?_
  refine q_icmp_ge (tgt := 20) C dJ7_fill_53178_7 (by decide) h (fun _ h => ?_) (fun _ h => ?_)
  · refine q_aload_n C dJ7_fill_53178_10 rfl ?_
    refine q_iload_n C dJ7_fill_53178_11 rfl ?_
    refine q_iload_n C dJ7_fill_53178_12 rfl ?_
    refine x_iast C dJ7_fill_53178_13 h (fun M2 h => ?_)
    refine x_iinc (w := (1 : Int32)) (L' := [some (.ref l0), some (.int l1), some (.int (l2 + (1 : Int32))), some (.int l3)]) C dJ7_fill_53178_14 rfl (by decide) (by decide) rfl rfl ?_
    refine q_goto (tgt := 5) C dJ7_fill_53178_17 (by decide) ?_
    exact q_msk [true, true, true, true] (kC _ _ (Option.some.inj h).symm)
  · exact q_msk [false, false, false, false] (kE0 _ (Option.some.inj h).symm)
set_option maxRecDepth 100000 in
set_option maxHeartbeats 4000000 in
theorem lW_J7_fill_53178_5 {K : q_K} {Q : State → Prop} (C : q_C K yJ7_fill_53178 cJ7_fill_53178 4 (Option.none : Option Jvm.ClassFile.FieldType) 1 0 0) (l0 : Nat) (l1 : Int32) (l3 : Int32) (n : Nat) : ∀ (l2 : Int32) (M : q_Mem) (e : (q_Mem)), q_lp (fun s => B_J7_fill_53178_5 l0 l1 l3 s.1 s.2) n (l2, M) = some e → (∀ (M : q_Mem), e = M → q_W K 4 Q 0 0 M 20 [none, none, none, none] []) → q_W K 4 Q 0 0 M 5 [some (.ref l0), some (.int l1), some (.int l2), some (.int l3)] [] := by
  induction n with
  | zero => intro l2 M e h; cases h
  | succ n ih =>
    intro l2 M e h kE0
    obtain ⟨stp, e1, e2⟩ := q_bind h
    refine bW_J7_fill_53178_5 C l0 l1 l2 l3 M e1 (fun a0 a1 hs => ?_) (fun b0 hs => ?_)
    · subst hs; exact ih _ _ _ e2 kE0
    · subst hs; exact kE0 _ (Option.some.inj e2).symm
noncomputable def F_J7_fill_53178 (l0 : Nat) (l1 : Int32) (M : q_Mem) : Option (Unit × q_Mem) := (q_al M l0 (fun v1 => (q_lp (fun s => B_J7_fill_53178_5 l0 l1 v1 s.1 s.2) q_fu ((0 : Int32), M)).bind (fun e3 => match e3 with | M4 => some ((), M4))))
set_option maxRecDepth 100000 in
set_option maxHeartbeats 4000000 in
theorem c_J7_fill_53178 (l : Launch) (G : q_G) (l0 : Nat) (l1 : Int32) (M : q_Mem) {r : Unit} {M' : q_Mem} (h : F_J7_fill_53178 l0 l1 M = some (r, M')) : q_Met l G yJ7_fill_53178 cJ7_fill_53178 4 (Option.none : Option Jvm.ClassFile.FieldType) 1 0 0 [.ref l0, .int l1] M none M' := by
  unfold F_J7_fill_53178 at h
  refine q_enter [some (.ref l0), some (.int l1), none, none] (by decide) (Nat.le_of_ble_eq_true rfl) rfl (fun K C => ?_)
  refine x_iconst (v := (0 : Int32)) C dJ7_fill_53178_0 (by decide) ?_
  refine q_istore_n (L' := [some (.ref l0), some (.int l1), some (.int (0 : Int32)), none]) C dJ7_fill_53178_1 (by decide) rfl rfl ?_
  refine q_aload_n C dJ7_fill_53178_2 rfl ?_
  refine x_alen C dJ7_fill_53178_3 h (fun v1 h => ?_)
  refine q_istore_n (L' := [some (.ref l0), some (.int l1), some (.int (0 : Int32)), some (.int v1)]) C dJ7_fill_53178_4 (by decide) rfl rfl ?_
  obtain ⟨e3, he, h⟩ := q_bind h
  refine q_msk [true, true, true, true] (lW_J7_fill_53178_5 C l0 l1 v1 q_fu _ _ _ he (fun M4 hs => ?_))
  · have hs := hs.symm
    subst hs
    exact q_vret C dJ7_fill_53178_20 rfl (by decide) (by decide) (Option.some.inj h)
noncomputable def B_X8_begin_41 (l0 : Nat) (l1 : Nat) (l2 : Int32) (M : q_Mem) : Option ((Int32 × q_Mem) ⊕ (q_Mem)) := (q_gI M l1 3 5 (fun v20 => (if l2 < v20 then (if l2 < (6 : Int32) then (q_gR M l0 8 0 (fun c21 => q_nn c21 (fun r22 => (q_ob M l1 3 ((F_X3_ofGuest l1 l2 (1 : Int32) M).bind (fun u23 => (q_tI M r22 ((13 : Int32) + l2) u23 (fun M24 => (q_gR M24 l0 8 0 (fun c25 => q_nn c25 (fun r26 => (q_ob M24 l1 3 ((F_X3_ofGuest l1 l2 (2 : Int32) M24).bind (fun u27 => (q_tI M24 r26 ((19 : Int32) + l2) u27 (fun M28 => some (.inl ((l2 + (1 : Int32)), M28)))))))))))))))))) else some (.inr M)) else some (.inr M))))
set_option maxRecDepth 100000 in
set_option maxHeartbeats 4000000 in
theorem bW_X8_begin_41 {K : q_K} {Q : State → Prop} (C : q_C K yX8_begin cX8_begin 3 (Option.none : Option Jvm.ClassFile.FieldType) 2 0 0) (l0 : Nat) (l1 : Nat) (l2 : Int32) (M : q_Mem) {stp : (Int32 × q_Mem) ⊕ (q_Mem)} (h : B_X8_begin_41 l0 l1 l2 M = some stp) (kC : ∀ (l2 : Int32) (M : q_Mem), stp = .inl (l2, M) → q_W K 3 Q 0 0 M 41 [some (.ref l0), some (.ref l1), some (.int l2)] []) (kE0 : ∀ (M : q_Mem), stp = .inr M → q_W K 3 Q 0 0 M 91 [none, none, none] []) : q_W K 3 Q 0 0 M 41 [some (.ref l0), some (.ref l1), some (.int l2)] [] := by
  unfold B_X8_begin_41 at h
  refine q_iload_n C dX8_begin_41 rfl ?_
  refine q_aload_n C dX8_begin_42 rfl ?_
  refine x_getI (ci := 3) (j := 5) C dX8_begin_43 lkF_X8_32 rfl h (fun v20 h => ?_)
  refine q_icmp_ge (tgt := 91) C dX8_begin_46 (by decide) h (fun _ h => ?_) (fun _ h => ?_)
  · refine q_iload_n C dX8_begin_49 rfl ?_
    refine x_bipush (v := (6 : Int32)) C dX8_begin_50 (by decide) ?_
    refine q_icmp_ge (tgt := 91) C dX8_begin_52 (by decide) h (fun _ h => ?_) (fun _ h => ?_)
    · refine q_aload_n C dX8_begin_55 rfl ?_
      refine x_getR (ci := 8) (j := 0) C dX8_begin_56 lkF_X8_9 rfl h (fun c21 h => ?_)
      refine x_nn h (fun r22 h => ?_)
      refine x_bipush (v := (13 : Int32)) C dX8_begin_59 (by decide) ?_
      refine q_iload_n C dX8_begin_61 rfl ?_
      refine q_iadd C dX8_begin_62 ?_
      refine q_aload_n C dX8_begin_63 rfl ?_
      refine q_iload_n C dX8_begin_64 rfl ?_
      refine x_iconst (v := (1 : Int32)) C dX8_begin_65 (by decide) ?_
      obtain ⟨hk, h⟩ := q_obE h
      obtain ⟨u23, e1, h⟩ := q_bind h
      refine x_callV0 C dX8_begin_66 lkM_X8_36 mV_X3_ofGuest ⟨_, rfl, rfl⟩ hk (c_X3_ofGuest _ _ _ _ _ _ e1) rfl rfl (Nat.le_of_ble_eq_true rfl) (by decide) (by decide) ?_
      refine x_iast C dX8_begin_69 h (fun M24 h => ?_)
      refine q_aload_n C dX8_begin_70 rfl ?_
      refine x_getR (ci := 8) (j := 0) C dX8_begin_71 lkF_X8_9 rfl h (fun c25 h => ?_)
      refine x_nn h (fun r26 h => ?_)
      refine x_bipush (v := (19 : Int32)) C dX8_begin_74 (by decide) ?_
      refine q_iload_n C dX8_begin_76 rfl ?_
      refine q_iadd C dX8_begin_77 ?_
      refine q_aload_n C dX8_begin_78 rfl ?_
      refine q_iload_n C dX8_begin_79 rfl ?_
      refine x_iconst (v := (2 : Int32)) C dX8_begin_80 (by decide) ?_
      obtain ⟨hk, h⟩ := q_obE h
      obtain ⟨u27, e1, h⟩ := q_bind h
      refine x_callV0 C dX8_begin_81 lkM_X8_36 mV_X3_ofGuest ⟨_, rfl, rfl⟩ hk (c_X3_ofGuest _ _ _ _ _ _ e1) rfl rfl (Nat.le_of_ble_eq_true rfl) (by decide) (by decide) ?_
      refine x_iast C dX8_begin_84 h (fun M28 h => ?_)
      refine x_iinc (w := (1 : Int32)) (L' := [some (.ref l0), some (.ref l1), some (.int (l2 + (1 : Int32)))]) C dX8_begin_85 rfl (by decide) (by decide) rfl rfl ?_
      refine q_goto (tgt := 41) C dX8_begin_88 (by decide) ?_
      exact q_msk [true, true, true] (kC _ _ (Option.some.inj h).symm)
    · exact q_msk [false, false, false] (kE0 _ (Option.some.inj h).symm)
  · exact q_msk [false, false, false] (kE0 _ (Option.some.inj h).symm)
set_option maxRecDepth 100000 in
set_option maxHeartbeats 4000000 in
theorem lW_X8_begin_41 {K : q_K} {Q : State → Prop} (C : q_C K yX8_begin cX8_begin 3 (Option.none : Option Jvm.ClassFile.FieldType) 2 0 0) (l0 : Nat) (l1 : Nat) (n : Nat) : ∀ (l2 : Int32) (M : q_Mem) (e : (q_Mem)), q_lp (fun s => B_X8_begin_41 l0 l1 s.1 s.2) n (l2, M) = some e → (∀ (M : q_Mem), e = M → q_W K 3 Q 0 0 M 91 [none, none, none] []) → q_W K 3 Q 0 0 M 41 [some (.ref l0), some (.ref l1), some (.int l2)] [] := by
  induction n with
  | zero => intro l2 M e h; cases h
  | succ n ih =>
    intro l2 M e h kE0
    obtain ⟨stp, e1, e2⟩ := q_bind h
    refine bW_X8_begin_41 C l0 l1 l2 M e1 (fun a0 a1 hs => ?_) (fun b0 hs => ?_)
    · subst hs; exact ih _ _ _ e2 kE0
    · subst hs; exact kE0 _ (Option.some.inj e2).symm
noncomputable def F_X8_begin (l0 : Nat) (l1 : Nat) (M : q_Mem) : Option (Unit × q_Mem) := (q_gR M l0 8 0 (fun c1 => q_nn c1 (fun r2 => ((F_J7_fill_53178 r2 (0 : Int32) M).bind (fun x => match x with | (_, M4) => (q_gR M4 l0 8 0 (fun c5 => q_nn c5 (fun r6 => (q_gR M4 l1 3 0 (fun c7 => q_nn c7 (fun r8 => (q_lI M4 0 r8 (0 : Int32) (fun v9 => (q_tI M4 r6 (1 : Int32) v9 (fun M10 => (q_gR M10 l0 8 0 (fun c11 => q_nn c11 (fun r12 => (q_gR M10 l1 3 0 (fun c13 => q_nn c13 (fun r14 => (q_lI M10 0 r14 (2 : Int32) (fun v15 => (q_tI M10 r12 (2 : Int32) v15 (fun M16 => (q_gR M16 l0 8 0 (fun c17 => q_nn c17 (fun r18 => (q_tI M16 r18 (3 : Int32) (-1 : Int32) (fun M19 => (q_lp (fun s => B_X8_begin_41 l0 l1 s.1 s.2) q_fu ((0 : Int32), M19)).bind (fun e29 => match e29 with | M30 => some ((), M30))))))))))))))))))))))))))))))))
set_option maxRecDepth 100000 in
set_option maxHeartbeats 4000000 in
theorem c_X8_begin (l : Launch) (G : q_G) (l0 : Nat) (l1 : Nat) (M : q_Mem) {r : Unit} {M' : q_Mem} (h : F_X8_begin l0 l1 M = some (r, M')) : q_Met l G yX8_begin cX8_begin 3 (Option.none : Option Jvm.ClassFile.FieldType) 2 0 0 [.ref l0, .ref l1] M none M' := by
  unfold F_X8_begin at h
  refine q_enter [some (.ref l0), some (.ref l1), none] (by decide) (Nat.le_of_ble_eq_true rfl) rfl (fun K C => ?_)
  refine q_aload_n C dX8_begin_0 rfl ?_
  refine x_getR (ci := 8) (j := 0) C dX8_begin_1 lkF_X8_9 rfl h (fun c1 h => ?_)
  refine x_nn h (fun r2 h => ?_)
  refine x_iconst (v := (0 : Int32)) C dX8_begin_4 (by decide) ?_
  obtain ⟨⟨_, M4⟩, e1, h⟩ := q_bind h
  refine x_callSv0 C dX8_begin_5 lkM_X8_21 mS_J7_fill_53178 (c_J7_fill_53178 _ _ _ _ _ e1) rfl rfl (Nat.le_of_ble_eq_true rfl) (by decide) (by decide) ?_
  refine q_aload_n C dX8_begin_8 rfl ?_
  refine x_getR (ci := 8) (j := 0) C dX8_begin_9 lkF_X8_9 rfl h (fun c5 h => ?_)
  refine x_nn h (fun r6 h => ?_)
  refine x_iconst (v := (1 : Int32)) C dX8_begin_12 (by decide) ?_
  refine q_aload_n C dX8_begin_13 rfl ?_
  refine x_getR (ci := 3) (j := 0) C dX8_begin_14 lkF_X8_27 rfl h (fun c7 h => ?_)
  refine x_nn h (fun r8 h => ?_)
  refine x_iconst (v := (0 : Int32)) C dX8_begin_17 (by decide) ?_
  refine x_iald C dX8_begin_18 h (fun v9 h => ?_)
  refine x_iast C dX8_begin_19 h (fun M10 h => ?_)
  refine q_aload_n C dX8_begin_20 rfl ?_
  refine x_getR (ci := 8) (j := 0) C dX8_begin_21 lkF_X8_9 rfl h (fun c11 h => ?_)
  refine x_nn h (fun r12 h => ?_)
  refine x_iconst (v := (2 : Int32)) C dX8_begin_24 (by decide) ?_
  refine q_aload_n C dX8_begin_25 rfl ?_
  refine x_getR (ci := 3) (j := 0) C dX8_begin_26 lkF_X8_27 rfl h (fun c13 h => ?_)
  refine x_nn h (fun r14 h => ?_)
  refine x_iconst (v := (2 : Int32)) C dX8_begin_29 (by decide) ?_
  refine x_iald C dX8_begin_30 h (fun v15 h => ?_)
  refine x_iast C dX8_begin_31 h (fun M16 h => ?_)
  refine q_aload_n C dX8_begin_32 rfl ?_
  refine x_getR (ci := 8) (j := 0) C dX8_begin_33 lkF_X8_9 rfl h (fun c17 h => ?_)
  refine x_nn h (fun r18 h => ?_)
  refine x_iconst (v := (3 : Int32)) C dX8_begin_36 (by decide) ?_
  refine x_iconst (v := (-1 : Int32)) C dX8_begin_37 (by decide) ?_
  refine x_iast C dX8_begin_38 h (fun M19 h => ?_)
  refine x_iconst (v := (0 : Int32)) C dX8_begin_39 (by decide) ?_
  refine q_istore_n (L' := [some (.ref l0), some (.ref l1), some (.int (0 : Int32))]) C dX8_begin_40 (by decide) rfl rfl ?_
  obtain ⟨e29, he, h⟩ := q_bind h
  refine q_msk [true, true, true] (lW_X8_begin_41 C l0 l1 q_fu _ _ _ he (fun M30 hs => ?_))
  · have hs := hs.symm
    subst hs
    exact q_vret C dX8_begin_91 rfl (by decide) (by decide) (Option.some.inj h)
noncomputable def F_X9_init (l0 : Nat) (M : q_Mem) : Option (Unit × q_Mem) := (q_nA M 1 (240 : Int32) 240 (fun k1 M2 => (q_pR M2 l0 9 0 (k1 + 1) (fun M3 => (q_pI M3 l0 9 1 (0 : Int32) (fun M4 => (q_pI M4 l0 9 2 (0 : Int32) (fun M5 => (q_pI M5 l0 9 3 (0 : Int32) (fun M6 => some ((), M6)))))))))))
set_option maxRecDepth 100000 in
set_option maxHeartbeats 4000000 in
theorem c_X9_init (l : Launch) (G : q_G) (l0 : Nat) (M : q_Mem) {r : Unit} {M' : q_Mem} (h : F_X9_init l0 M = some (r, M')) : q_Met l G yX9_init cX9_init 1 (Option.none : Option Jvm.ClassFile.FieldType) 2 1 240 [.ref l0] M none M' := by
  unfold F_X9_init at h
  refine q_enter [some (.ref l0)] (by decide) (Nat.le_of_ble_eq_true rfl) rfl (fun K C => ?_)
  refine q_aload_n C dX9_init_0 rfl ?_
  refine q_objI C dX9_init_1 wd_40 wd_33 wd_34 (by decide) (Nat.le_of_ble_eq_true rfl) ?_
  refine q_aload_n C dX9_init_4 rfl ?_
  refine x_sipush (v := (240 : Int32)) C dX9_init_5 (by decide) ?_
  refine x_newa C dX9_init_8 (by simp) wd_62 (by decide) h (by decide) (fun k1 M2 h => ?_)
  refine x_putR (ci := 9) (j := 0) (k1 + 1) C dX9_init_10 lkF_X9_9 (fun r hr => by cases hr; exact Or.inr ⟨rfl, rfl, wd_41⟩) (Or.inr ⟨_, rfl⟩) rfl h (fun M3 h => ?_)
  refine q_aload_n C dX9_init_13 rfl ?_
  refine x_iconst (v := (0 : Int32)) C dX9_init_14 (by decide) ?_
  refine x_putI (ci := 9) (j := 1) C dX9_init_15 lkF_X9_15 (fun r hr => by cases hr; rfl) rfl h (fun M4 h => ?_)
  refine q_aload_n C dX9_init_18 rfl ?_
  refine x_iconst (v := (0 : Int32)) C dX9_init_19 (by decide) ?_
  refine x_putI (ci := 9) (j := 2) C dX9_init_20 lkF_X9_19 (fun r hr => by cases hr; rfl) rfl h (fun M5 h => ?_)
  refine q_aload_n C dX9_init_23 rfl ?_
  refine x_iconst (v := (0 : Int32)) C dX9_init_24 (by decide) ?_
  refine x_putI (ci := 9) (j := 3) C dX9_init_25 lkF_X9_22 (fun r hr => by cases hr; rfl) rfl h (fun M6 h => ?_)
  exact q_vret C dX9_init_28 rfl (by decide) (by decide) (Option.some.inj h)
noncomputable def J_X9_bytesIn_22_5 (l0 : Int32) (l1 : Int32) (l2 : Int32) (M : q_Mem) : Option ((Int32 × Int32) ⊕ (Int32)) := some (.inl (l1, (l2 + (-8 : Int32))))
set_option maxRecDepth 100000 in
set_option maxHeartbeats 4000000 in
theorem jW_X9_bytesIn_22_5 {K : q_K} {Q : State → Prop} (C : q_C K yX9_bytesIn cX9_bytesIn 3 (Option.some Jvm.ClassFile.FieldType.int) 1 0 0) (l0 : Int32) (l1 : Int32) (l2 : Int32) (M : q_Mem) {stp : (Int32 × Int32) ⊕ (Int32)} (h : J_X9_bytesIn_22_5 l0 l1 l2 M = some stp) (kC : ∀ (l1 : Int32) (l2 : Int32), stp = .inl (l1, l2) → q_W K 3 Q 0 0 M 5 [some (.int l0), some (.int l1), some (.int l2)] []) (kE0 : ∀ (l1 : Int32), stp = .inr l1 → q_W K 3 Q 0 0 M 28 [none, some (.int l1), none] []) : q_W K 3 Q 0 0 M 22 [some (.int l0), some (.int l1), some (.int l2)] [] := by
  unfold J_X9_bytesIn_22_5 at h
  refine x_iinc (w := (-8 : Int32)) (L' := [some (.int l0), some (.int l1), some (.int (l2 + (-8 : Int32)))]) C dX9_bytesIn_22 rfl (by decide) (by decide) rfl rfl ?_
  refine q_goto (tgt := 5) C dX9_bytesIn_25 (by decide) ?_
  exact q_msk [true, true, true] (kC _ _ (Option.some.inj h).symm)
noncomputable def B_X9_bytesIn_5 (l0 : Int32) (l1 : Int32) (l2 : Int32) (M : q_Mem) : Option ((Int32 × Int32) ⊕ (Int32)) := (if l2 < 0 then some (.inr l1) else (if ((l0.toUInt32 >>> (l2.toUInt32 &&& Int32.toUInt32 31)).toInt32 &&& (255 : Int32)) = 0 then J_X9_bytesIn_22_5 l0 l1 l2 M else J_X9_bytesIn_22_5 l0 (l1 + (1 : Int32)) l2 M))
set_option maxRecDepth 100000 in
set_option maxHeartbeats 4000000 in
theorem bW_X9_bytesIn_5 {K : q_K} {Q : State → Prop} (C : q_C K yX9_bytesIn cX9_bytesIn 3 (Option.some Jvm.ClassFile.FieldType.int) 1 0 0) (l0 : Int32) (l1 : Int32) (l2 : Int32) (M : q_Mem) {stp : (Int32 × Int32) ⊕ (Int32)} (h : B_X9_bytesIn_5 l0 l1 l2 M = some stp) (kC : ∀ (l1 : Int32) (l2 : Int32), stp = .inl (l1, l2) → q_W K 3 Q 0 0 M 5 [some (.int l0), some (.int l1), some (.int l2)] []) (kE0 : ∀ (l1 : Int32), stp = .inr l1 → q_W K 3 Q 0 0 M 28 [none, some (.int l1), none] []) : q_W K 3 Q 0 0 M 5 [some (.int l0), some (.int l1), some (.int l2)] [] := by
  unfold B_X9_bytesIn_5 at h
  refine q_iload_n C dX9_bytesIn_5 rfl ?_
  refine q_if_lt (tgt := 28) C dX9_bytesIn_6 (by decide) h (fun _ h => ?_) (fun _ h => ?_)
  · exact q_msk [false, true, false] (kE0 _ (Option.some.inj h).symm)
  · refine q_iload_n C dX9_bytesIn_9 rfl ?_
    refine q_iload_n C dX9_bytesIn_10 rfl ?_
    refine q_iushr C dX9_bytesIn_11 ?_
    refine x_sipush (v := (255 : Int32)) C dX9_bytesIn_12 (by decide) ?_
    refine q_iand C dX9_bytesIn_15 ?_
    refine q_if_eq (tgt := 22) C dX9_bytesIn_16 (by decide) h (fun _ h => ?_) (fun _ h => ?_)
    · exact q_msk [true, true, true] (jW_X9_bytesIn_22_5 C l0 l1 l2 M h kC kE0)
    · refine x_iinc (w := (1 : Int32)) (L' := [some (.int l0), some (.int (l1 + (1 : Int32))), some (.int l2)]) C dX9_bytesIn_19 rfl (by decide) (by decide) rfl rfl ?_
      exact q_msk [true, true, true] (jW_X9_bytesIn_22_5 C l0 (l1 + (1 : Int32)) l2 M h kC kE0)
set_option maxRecDepth 100000 in
set_option maxHeartbeats 4000000 in
theorem lW_X9_bytesIn_5 {K : q_K} {Q : State → Prop} (C : q_C K yX9_bytesIn cX9_bytesIn 3 (Option.some Jvm.ClassFile.FieldType.int) 1 0 0) (l0 : Int32) (M : q_Mem) (n : Nat) : ∀ (l1 : Int32) (l2 : Int32) (e : (Int32)), q_lp (fun s => B_X9_bytesIn_5 l0 s.1 s.2 M) n (l1, l2) = some e → (∀ (l1 : Int32), e = l1 → q_W K 3 Q 0 0 M 28 [none, some (.int l1), none] []) → q_W K 3 Q 0 0 M 5 [some (.int l0), some (.int l1), some (.int l2)] [] := by
  induction n with
  | zero => intro l1 l2 e h; cases h
  | succ n ih =>
    intro l1 l2 e h kE0
    obtain ⟨stp, e1, e2⟩ := q_bind h
    refine bW_X9_bytesIn_5 C l0 l1 l2 M e1 (fun a0 a1 hs => ?_) (fun b0 hs => ?_)
    · subst hs; exact ih _ _ _ e2 kE0
    · subst hs; exact kE0 _ (Option.some.inj e2).symm
noncomputable def F_X9_bytesIn (l0 : Int32) (M : q_Mem) : Option (Int32) := (q_lp (fun s => B_X9_bytesIn_5 l0 s.1 s.2 M) q_fu ((0 : Int32), (24 : Int32))).bind (fun e1 => match e1 with | w2 => some w2)
set_option maxRecDepth 100000 in
set_option maxHeartbeats 4000000 in
theorem c_X9_bytesIn (l : Launch) (G : q_G) (l0 : Int32) (M : q_Mem) {r : Int32} (h : F_X9_bytesIn l0 M = some r) : q_Met l G yX9_bytesIn cX9_bytesIn 3 (Option.some Jvm.ClassFile.FieldType.int) 1 0 0 [.int l0] M (some (.int r)) M := by
  unfold F_X9_bytesIn at h
  refine q_enter [some (.int l0), none, none] (by decide) (Nat.le_of_ble_eq_true rfl) rfl (fun K C => ?_)
  refine x_iconst (v := (0 : Int32)) C dX9_bytesIn_0 (by decide) ?_
  refine q_istore_n (L' := [some (.int l0), some (.int (0 : Int32)), none]) C dX9_bytesIn_1 (by decide) rfl rfl ?_
  refine x_bipush (v := (24 : Int32)) C dX9_bytesIn_2 (by decide) ?_
  refine q_istore_n (L' := [some (.int l0), some (.int (0 : Int32)), some (.int (24 : Int32))]) C dX9_bytesIn_4 (by decide) rfl rfl ?_
  obtain ⟨e1, he, h⟩ := q_bind h
  refine q_msk [true, true, true] (lW_X9_bytesIn_5 C l0 M q_fu _ _ _ he (fun w2 hs => ?_))
  · have hs := hs.symm
    subst hs
    refine q_iload_n C dX9_bytesIn_28 rfl ?_
    exact q_iret (res := (r, M)) C dX9_bytesIn_29 rfl (by decide) (by decide) (congrArg (fun z => (z, M)) (Option.some.inj h))
noncomputable def J_X9_append_50_3 (l0 : Nat) (l1 : Int32) (l2 : Int32) (M : q_Mem) : Option ((Int32 × q_Mem) ⊕ (q_Mem)) := some (.inl ((l2 + (-8 : Int32)), M))
set_option maxRecDepth 100000 in
set_option maxHeartbeats 4000000 in
theorem jW_X9_append_50_3 {K : q_K} {Q : State → Prop} (C : q_C K yX9_append cX9_append 4 (Option.none : Option Jvm.ClassFile.FieldType) 1 0 0) (l0 : Nat) (l1 : Int32) (l2 : Int32) (M : q_Mem) {stp : (Int32 × q_Mem) ⊕ (q_Mem)} (h : J_X9_append_50_3 l0 l1 l2 M = some stp) (kC : ∀ (l2 : Int32) (M : q_Mem), stp = .inl (l2, M) → q_W K 4 Q 0 0 M 3 [some (.ref l0), some (.int l1), some (.int l2), none] []) (kE0 : ∀ (M : q_Mem), stp = .inr M → q_W K 4 Q 0 0 M 56 [none, none, none, none] []) : q_W K 4 Q 0 0 M 50 [some (.ref l0), some (.int l1), some (.int l2), none] [] := by
  unfold J_X9_append_50_3 at h
  refine x_iinc (w := (-8 : Int32)) (L' := [some (.ref l0), some (.int l1), some (.int (l2 + (-8 : Int32))), none]) C dX9_append_50 rfl (by decide) (by decide) rfl rfl ?_
  refine q_goto (tgt := 3) C dX9_append_53 (by decide) ?_
  exact q_msk [true, true, true, false] (kC _ _ (Option.some.inj h).symm)
noncomputable def B_X9_append_3 (l0 : Nat) (l1 : Int32) (l2 : Int32) (M : q_Mem) : Option ((Int32 × q_Mem) ⊕ (q_Mem)) := (if l2 < 0 then some (.inr M) else (if ((l1.toUInt32 >>> (l2.toUInt32 &&& Int32.toUInt32 31)).toInt32 &&& (255 : Int32)) = 0 then J_X9_append_50_3 l0 l1 l2 M else (q_gI M l0 9 1 (fun v1 => (if v1 < (240 : Int32) then (q_gR M l0 9 0 (fun c2 => q_nn c2 (fun r3 => (q_gI M l0 9 1 (fun v4 => (q_tB M r3 v4 (((l1.toUInt32 >>> (l2.toUInt32 &&& Int32.toUInt32 31)).toInt32 &&& (255 : Int32)).toInt8.toInt32) (fun M5 => (q_gI M5 l0 9 1 (fun v6 => (q_pI M5 l0 9 1 (v6 + (1 : Int32)) (fun M7 => J_X9_append_50_3 l0 l1 l2 M7))))))))))) else J_X9_append_50_3 l0 l1 l2 M)))))
set_option maxRecDepth 100000 in
set_option maxHeartbeats 4000000 in
theorem bW_X9_append_3 {K : q_K} {Q : State → Prop} (C : q_C K yX9_append cX9_append 4 (Option.none : Option Jvm.ClassFile.FieldType) 1 0 0) (l0 : Nat) (l1 : Int32) (l2 : Int32) (M : q_Mem) {stp : (Int32 × q_Mem) ⊕ (q_Mem)} (h : B_X9_append_3 l0 l1 l2 M = some stp) (kC : ∀ (l2 : Int32) (M : q_Mem), stp = .inl (l2, M) → q_W K 4 Q 0 0 M 3 [some (.ref l0), some (.int l1), some (.int l2), none] []) (kE0 : ∀ (M : q_Mem), stp = .inr M → q_W K 4 Q 0 0 M 56 [none, none, none, none] []) : q_W K 4 Q 0 0 M 3 [some (.ref l0), some (.int l1), some (.int l2), none] [] := by
  unfold B_X9_append_3 at h
  refine q_iload_n C dX9_append_3 rfl ?_
  refine q_if_lt (tgt := 56) C dX9_append_4 (by decide) h (fun _ h => ?_) (fun _ h => ?_)
  · exact q_msk [false, false, false, false] (kE0 _ (Option.some.inj h).symm)
  · refine q_iload_n C dX9_append_7 rfl ?_
    refine q_iload_n C dX9_append_8 rfl ?_
    refine q_iushr C dX9_append_9 ?_
    refine x_sipush (v := (255 : Int32)) C dX9_append_10 (by decide) ?_
    refine q_iand C dX9_append_13 ?_
    refine q_istore_n (L' := [some (.ref l0), some (.int l1), some (.int l2), some (.int ((l1.toUInt32 >>> (l2.toUInt32 &&& Int32.toUInt32 31)).toInt32 &&& (255 : Int32)))]) C dX9_append_14 (by decide) rfl rfl ?_
    refine q_iload_n C dX9_append_15 rfl ?_
    refine q_if_eq (tgt := 50) C dX9_append_16 (by decide) h (fun _ h => ?_) (fun _ h => ?_)
    · exact q_msk [true, true, true, false] (jW_X9_append_50_3 C l0 l1 l2 M h kC kE0)
    · refine q_aload_n C dX9_append_19 rfl ?_
      refine x_getI (ci := 9) (j := 1) C dX9_append_20 lkF_X9_15 rfl h (fun v1 h => ?_)
      refine x_sipush (v := (240 : Int32)) C dX9_append_23 (by decide) ?_
      refine q_icmp_ge (tgt := 50) C dX9_append_26 (by decide) h (fun _ h => ?_) (fun _ h => ?_)
      · refine q_aload_n C dX9_append_29 rfl ?_
        refine x_getR (ci := 9) (j := 0) C dX9_append_30 lkF_X9_9 rfl h (fun c2 h => ?_)
        refine x_nn h (fun r3 h => ?_)
        refine q_aload_n C dX9_append_33 rfl ?_
        refine x_getI (ci := 9) (j := 1) C dX9_append_34 lkF_X9_15 rfl h (fun v4 h => ?_)
        refine q_iload_n C dX9_append_37 rfl ?_
        refine q_i2b C dX9_append_38 ?_
        refine x_bast C dX9_append_39 h (fun M5 h => ?_)
        refine q_aload_n C dX9_append_40 rfl ?_
        refine q_dup C dX9_append_41 rfl ?_
        refine x_getI (ci := 9) (j := 1) C dX9_append_42 lkF_X9_15 rfl h (fun v6 h => ?_)
        refine x_iconst (v := (1 : Int32)) C dX9_append_45 (by decide) ?_
        refine q_iadd C dX9_append_46 ?_
        refine x_putI (ci := 9) (j := 1) C dX9_append_47 lkF_X9_15 (fun r hr => by cases hr; rfl) rfl h (fun M7 h => ?_)
        exact q_msk [true, true, true, false] (jW_X9_append_50_3 C l0 l1 l2 M7 h kC kE0)
      · exact q_msk [true, true, true, false] (jW_X9_append_50_3 C l0 l1 l2 M h kC kE0)
set_option maxRecDepth 100000 in
set_option maxHeartbeats 4000000 in
theorem lW_X9_append_3 {K : q_K} {Q : State → Prop} (C : q_C K yX9_append cX9_append 4 (Option.none : Option Jvm.ClassFile.FieldType) 1 0 0) (l0 : Nat) (l1 : Int32) (n : Nat) : ∀ (l2 : Int32) (M : q_Mem) (e : (q_Mem)), q_lp (fun s => B_X9_append_3 l0 l1 s.1 s.2) n (l2, M) = some e → (∀ (M : q_Mem), e = M → q_W K 4 Q 0 0 M 56 [none, none, none, none] []) → q_W K 4 Q 0 0 M 3 [some (.ref l0), some (.int l1), some (.int l2), none] [] := by
  induction n with
  | zero => intro l2 M e h; cases h
  | succ n ih =>
    intro l2 M e h kE0
    obtain ⟨stp, e1, e2⟩ := q_bind h
    refine bW_X9_append_3 C l0 l1 l2 M e1 (fun a0 a1 hs => ?_) (fun b0 hs => ?_)
    · subst hs; exact ih _ _ _ e2 kE0
    · subst hs; exact kE0 _ (Option.some.inj e2).symm
noncomputable def F_X9_append (l0 : Nat) (l1 : Int32) (M : q_Mem) : Option (Unit × q_Mem) := (q_lp (fun s => B_X9_append_3 l0 l1 s.1 s.2) q_fu ((24 : Int32), M)).bind (fun e8 => match e8 with | M9 => some ((), M9))
set_option maxRecDepth 100000 in
set_option maxHeartbeats 4000000 in
theorem c_X9_append (l : Launch) (G : q_G) (l0 : Nat) (l1 : Int32) (M : q_Mem) {r : Unit} {M' : q_Mem} (h : F_X9_append l0 l1 M = some (r, M')) : q_Met l G yX9_append cX9_append 4 (Option.none : Option Jvm.ClassFile.FieldType) 1 0 0 [.ref l0, .int l1] M none M' := by
  unfold F_X9_append at h
  refine q_enter [some (.ref l0), some (.int l1), none, none] (by decide) (Nat.le_of_ble_eq_true rfl) rfl (fun K C => ?_)
  refine x_bipush (v := (24 : Int32)) C dX9_append_0 (by decide) ?_
  refine q_istore_n (L' := [some (.ref l0), some (.int l1), some (.int (24 : Int32)), none]) C dX9_append_2 (by decide) rfl rfl ?_
  obtain ⟨e8, he, h⟩ := q_bind h
  refine q_msk [true, true, true, false] (lW_X9_append_3 C l0 l1 q_fu _ _ _ he (fun M9 hs => ?_))
  · have hs := hs.symm
    subst hs
    exact q_vret C dX9_append_56 rfl (by decide) (by decide) (Option.some.inj h)
noncomputable def F_X9_readDigit (l0 : Nat) (M : q_Mem) : Option (Int32 × q_Mem) := (q_ob M l0 9 ((F_X9_peek l0 M).bind (fun x => match x with | (u1, M2) => ((F_X9_isDigit u1 M2).bind (fun u3 => (if u3 = 0 then q_rz (0 : Int32) M2 else (q_pI M2 l0 9 3 (u1 - (48 : Int32)) (fun M4 => (q_gI M4 l0 9 2 (fun v5 => (q_pI M4 l0 9 2 (v5 + (1 : Int32)) (fun M6 => q_rz (1 : Int32) M6))))))))))))
set_option maxRecDepth 100000 in
set_option maxHeartbeats 4000000 in
theorem c_X9_readDigit (l : Launch) (G : q_G) (l0 : Nat) (M : q_Mem) {r : Int32} {M' : q_Mem} (h : F_X9_readDigit l0 M = some (r, M')) : q_Met l G yX9_readDigit cX9_readDigit 2 (Option.some Jvm.ClassFile.FieldType.boolean) 2 0 0 [.ref l0] M (some (.int r)) M' := by
  unfold F_X9_readDigit at h
  refine q_enter [some (.ref l0), none] (by decide) (Nat.le_of_ble_eq_true rfl) rfl (fun K C => ?_)
  refine q_aload_n C dX9_readDigit_0 rfl ?_
  obtain ⟨hk, h⟩ := q_obE h
  obtain ⟨⟨u1, M2⟩, e1, h⟩ := q_bind h
  refine x_callV0 C dX9_readDigit_1 lkM_X9_25 mV_X9_peek ⟨_, rfl, rfl⟩ hk (c_X9_peek _ _ _ _ e1) rfl rfl (Nat.le_of_ble_eq_true rfl) (by decide) (by decide) ?_
  refine q_istore_n (L' := [some (.ref l0), some (.int u1)]) C dX9_readDigit_4 (by decide) rfl rfl ?_
  refine q_iload_n C dX9_readDigit_5 rfl ?_
  obtain ⟨u3, e1, h⟩ := q_bind h
  refine x_callS0 C dX9_readDigit_6 lkM_X9_35 mS_X9_isDigit (c_X9_isDigit _ _ _ _ e1) rfl rfl (Nat.le_of_ble_eq_true rfl) (by decide) (by decide) ?_
  refine q_if_ne (tgt := 14) C dX9_readDigit_9 (by decide) h (fun _ h => ?_) (fun _ h => ?_)
  · refine x_iconst (v := (0 : Int32)) C dX9_readDigit_12 (by decide) ?_
    exact q_zret C dX9_readDigit_13 rfl (by decide) (by decide) (q_rzE h).1 (q_rzE h).2
  · refine q_aload_n C dX9_readDigit_14 rfl ?_
    refine q_iload_n C dX9_readDigit_15 rfl ?_
    refine x_bipush (v := (48 : Int32)) C dX9_readDigit_16 (by decide) ?_
    refine q_isub C dX9_readDigit_18 ?_
    refine x_putI (ci := 9) (j := 3) C dX9_readDigit_19 lkF_X9_22 (fun r hr => by cases hr; rfl) rfl h (fun M4 h => ?_)
    refine q_aload_n C dX9_readDigit_22 rfl ?_
    refine q_dup C dX9_readDigit_23 rfl ?_
    refine x_getI (ci := 9) (j := 2) C dX9_readDigit_24 lkF_X9_19 rfl h (fun v5 h => ?_)
    refine x_iconst (v := (1 : Int32)) C dX9_readDigit_27 (by decide) ?_
    refine q_iadd C dX9_readDigit_28 ?_
    refine x_putI (ci := 9) (j := 2) C dX9_readDigit_29 lkF_X9_19 (fun r hr => by cases hr; rfl) rfl h (fun M6 h => ?_)
    refine x_iconst (v := (1 : Int32)) C dX9_readDigit_32 (by decide) ?_
    exact q_zret C dX9_readDigit_33 rfl (by decide) (by decide) (q_rzE h).1 (q_rzE h).2
noncomputable def F_X10_init (l0 : Nat) (M : q_Mem) : Option (Unit × q_Mem) := (q_nA M 0 (48 : Int32) 48 (fun k1 M2 => (q_pR M2 l0 10 0 (k1 + 1) (fun M3 => (q_pI M3 l0 10 1 (0 : Int32) (fun M4 => some ((), M4)))))))
set_option maxRecDepth 100000 in
set_option maxHeartbeats 4000000 in
theorem c_X10_init (l : Launch) (G : q_G) (l0 : Nat) (M : q_Mem) {r : Unit} {M' : q_Mem} (h : F_X10_init l0 M = some (r, M')) : q_Met l G yX10_init cX10_init 1 (Option.none : Option Jvm.ClassFile.FieldType) 2 1 48 [.ref l0] M none M' := by
  unfold F_X10_init at h
  refine q_enter [some (.ref l0)] (by decide) (Nat.le_of_ble_eq_true rfl) rfl (fun K C => ?_)
  refine q_aload_n C dX10_init_0 rfl ?_
  refine q_objI C dX10_init_1 wd_317 wd_33 wd_34 (by decide) (Nat.le_of_ble_eq_true rfl) ?_
  refine q_aload_n C dX10_init_4 rfl ?_
  refine x_bipush (v := (48 : Int32)) C dX10_init_5 (by decide) ?_
  refine x_newa C dX10_init_7 (by simp) wd_103 (by decide) h (by decide) (fun k1 M2 h => ?_)
  refine x_putR (ci := 10) (j := 0) (k1 + 1) C dX10_init_9 lkF_X10_11 (fun r hr => by cases hr; exact Or.inr ⟨rfl, rfl, wd_318⟩) (Or.inr ⟨_, rfl⟩) rfl h (fun M3 h => ?_)
  refine q_aload_n C dX10_init_12 rfl ?_
  refine x_iconst (v := (0 : Int32)) C dX10_init_13 (by decide) ?_
  refine x_putI (ci := 10) (j := 1) C dX10_init_14 lkF_X10_15 (fun r hr => by cases hr; rfl) rfl h (fun M4 h => ?_)
  exact q_vret C dX10_init_17 rfl (by decide) (by decide) (Option.some.inj h)
noncomputable def B_X10_readStep_63 (l0 : Nat) (l1 : Nat) (l2 : Int32) (l3 : Int32) (l4 : Int32) (M : q_Mem) : Option ((Int32 × q_Mem) ⊕ ((q_Mem) ⊕ (q_Mem))) := (q_lI M 0 3 l3 (fun v17 => (if v17 < l4 then some (.inr (.inr M)) else (q_ob M l1 9 ((F_X9_readDigit l1 M).bind (fun x => match x with | (u18, M19) => (if u18 = 0 then some (.inr (.inl M19)) else (q_gR M19 l0 10 0 (fun c20 => q_nn c20 (fun r21 => (q_gI M19 l1 9 3 (fun v22 => (q_tI M19 r21 (l2 + l4) v22 (fun M23 => some (.inl ((l4 + (1 : Int32)), M23))))))))))))))))
set_option maxRecDepth 100000 in
set_option maxHeartbeats 4000000 in
theorem bW_X10_readStep_63 {K : q_K} {Q : State → Prop} (C : q_C K yX10_readStep cX10_readStep 5 (Option.some Jvm.ClassFile.FieldType.boolean) 10 3 0) (l0 : Nat) (l1 : Nat) (l2 : Int32) (l3 : Int32) (l4 : Int32) (M : q_Mem) {stp : (Int32 × q_Mem) ⊕ ((q_Mem) ⊕ (q_Mem))} (h : B_X10_readStep_63 l0 l1 l2 l3 l4 M = some stp) (kC : ∀ (l4 : Int32) (M : q_Mem), stp = .inl (l4, M) → q_W K 5 Q 0 0 M 63 [some (.ref l0), some (.ref l1), some (.int l2), some (.int l3), some (.int l4)] []) (kE0 : ∀ (M : q_Mem), stp = .inr (.inl M) → q_W K 5 Q 0 0 M 80 [none, none, none, none, none] []) (kE1 : ∀ (M : q_Mem), stp = .inr (.inr M) → q_W K 5 Q 0 0 M 101 [none, none, none, none, none] []) : q_W K 5 Q 0 0 M 63 [some (.ref l0), some (.ref l1), some (.int l2), some (.int l3), some (.int l4)] [] := by
  unfold B_X10_readStep_63 at h
  refine q_iload C dX10_readStep_63 rfl ?_
  refine q_getsN (w := .ref 3) C dX10_readStep_65 wn_600 (by simp [q_zs, q_cv, q_ad, q_NS]) rfl ?_
  refine q_iload_n C dX10_readStep_68 rfl ?_
  refine x_iald C dX10_readStep_69 h (fun v17 h => ?_)
  refine q_icmp_gt (tgt := 101) C dX10_readStep_70 (by decide) h (fun _ h => ?_) (fun _ h => ?_)
  · exact q_msk [false, false, false, false, false] (kE1 _ (Option.some.inj h).symm)
  · refine q_aload_n C dX10_readStep_73 rfl ?_
    obtain ⟨hk, h⟩ := q_obE h
    obtain ⟨⟨u18, M19⟩, e1, h⟩ := q_bind h
    refine x_callV0 C dX10_readStep_74 lkM_X10_45 mV_X9_readDigit ⟨_, rfl, rfl⟩ hk (c_X9_readDigit _ _ _ _ e1) rfl rfl (Nat.le_of_ble_eq_true rfl) (by decide) (by decide) ?_
    refine q_if_ne (tgt := 82) C dX10_readStep_77 (by decide) h (fun _ h => ?_) (fun _ h => ?_)
    · exact q_msk [false, false, false, false, false] (kE0 _ (Option.some.inj h).symm)
    · refine q_aload_n C dX10_readStep_82 rfl ?_
      refine x_getR (ci := 10) (j := 0) C dX10_readStep_83 lkF_X10_11 rfl h (fun c20 h => ?_)
      refine x_nn h (fun r21 h => ?_)
      refine q_iload_n C dX10_readStep_86 rfl ?_
      refine q_iload C dX10_readStep_87 rfl ?_
      refine q_iadd C dX10_readStep_89 ?_
      refine q_aload_n C dX10_readStep_90 rfl ?_
      refine x_getI (ci := 9) (j := 3) C dX10_readStep_91 lkF_X10_49 rfl h (fun v22 h => ?_)
      refine x_iast C dX10_readStep_94 h (fun M23 h => ?_)
      refine x_iinc (w := (1 : Int32)) (L' := [some (.ref l0), some (.ref l1), some (.int l2), some (.int l3), some (.int (l4 + (1 : Int32)))]) C dX10_readStep_95 rfl (by decide) (by decide) rfl rfl ?_
      refine q_goto (tgt := 63) C dX10_readStep_98 (by decide) ?_
      exact q_msk [true, true, true, true, true] (kC _ _ (Option.some.inj h).symm)
set_option maxRecDepth 100000 in
set_option maxHeartbeats 4000000 in
theorem lW_X10_readStep_63 {K : q_K} {Q : State → Prop} (C : q_C K yX10_readStep cX10_readStep 5 (Option.some Jvm.ClassFile.FieldType.boolean) 10 3 0) (l0 : Nat) (l1 : Nat) (l2 : Int32) (l3 : Int32) (n : Nat) : ∀ (l4 : Int32) (M : q_Mem) (e : ((q_Mem) ⊕ (q_Mem))), q_lp (fun s => B_X10_readStep_63 l0 l1 l2 l3 s.1 s.2) n (l4, M) = some e → (∀ (M : q_Mem), e = (.inl M) → q_W K 5 Q 0 0 M 80 [none, none, none, none, none] []) → (∀ (M : q_Mem), e = (.inr M) → q_W K 5 Q 0 0 M 101 [none, none, none, none, none] []) → q_W K 5 Q 0 0 M 63 [some (.ref l0), some (.ref l1), some (.int l2), some (.int l3), some (.int l4)] [] := by
  induction n with
  | zero => intro l4 M e h; cases h
  | succ n ih =>
    intro l4 M e h kE0 kE1
    obtain ⟨stp, e1, e2⟩ := q_bind h
    refine bW_X10_readStep_63 C l0 l1 l2 l3 l4 M e1 (fun a0 a1 hs => ?_) (fun b0 hs => ?_) (fun b0 hs => ?_)
    · subst hs; exact ih _ _ _ e2 kE0 kE1
    · subst hs; exact kE0 _ (Option.some.inj e2).symm
    · subst hs; exact kE1 _ (Option.some.inj e2).symm
noncomputable def F_X10_readStep (l0 : Nat) (l1 : Nat) (l2 : Int32) (M : q_Mem) : Option (Int32 × q_Mem) := (q_ob M l1 9 ((F_X9_peekAmong l1 20 M).bind (fun x => match x with | (u1, M2) => (if u1 = (-1 : Int32) then q_rz (0 : Int32) M2 else (q_gR M2 l0 10 0 (fun c3 => q_nn c3 (fun r4 => (q_al M2 r4 (fun v5 => (if (l2 + (2 : Int32)) < v5 then (q_gI M2 l1 9 2 (fun v6 => (q_pI M2 l1 9 2 (v6 + (1 : Int32)) (fun M7 => (q_gR M7 l0 10 0 (fun c8 => q_nn c8 (fun r9 => (q_tI M7 r9 l2 u1 (fun M10 => (q_gR M10 l0 10 0 (fun c11 => q_nn c11 (fun r12 => (q_tI M10 r12 (l2 + (1 : Int32)) (-1 : Int32) (fun M13 => (q_gR M13 l0 10 0 (fun c14 => q_nn c14 (fun r15 => (q_tI M13 r15 (l2 + (2 : Int32)) (-1 : Int32) (fun M16 => (q_lp (fun s => B_X10_readStep_63 l0 l1 l2 u1 s.1 s.2) q_fu ((1 : Int32), M16)).bind (fun e24 => match e24 with | .inl M25 => q_rz (0 : Int32) M25 | .inr M26 => q_rz (1 : Int32) M26)))))))))))))))))))) else q_rz (0 : Int32) M2))))))))))
set_option maxRecDepth 100000 in
set_option maxHeartbeats 4000000 in
theorem c_X10_readStep (l : Launch) (G : q_G) (l0 : Nat) (l1 : Nat) (l2 : Int32) (M : q_Mem) {r : Int32} {M' : q_Mem} (h : F_X10_readStep l0 l1 l2 M = some (r, M')) : q_Met l G yX10_readStep cX10_readStep 5 (Option.some Jvm.ClassFile.FieldType.boolean) 10 3 0 [.ref l0, .ref l1, .int l2] M (some (.int r)) M' := by
  unfold F_X10_readStep at h
  refine q_enter [some (.ref l0), some (.ref l1), some (.int l2), none, none] (by decide) (Nat.le_of_ble_eq_true rfl) rfl (fun K C => ?_)
  refine q_aload_n C dX10_readStep_0 rfl ?_
  refine q_ldcS (i := 8) C dX10_readStep_1 rfl ?_
  obtain ⟨hk, h⟩ := q_obE h
  obtain ⟨⟨u1, M2⟩, e1, h⟩ := q_bind h
  refine x_callV C dX10_readStep_3 lkM_X10_35 mV_X9_peekAmong ⟨_, rfl, rfl⟩ hk (c_X9_peekAmong _ _ _ _ _ e1) rfl rfl (Nat.le_of_ble_eq_true rfl) (by decide) (by decide) ?_
  refine q_istore_n (L' := [some (.ref l0), some (.ref l1), some (.int l2), some (.int u1), none]) C dX10_readStep_6 (by decide) rfl rfl ?_
  refine q_iload_n C dX10_readStep_7 rfl ?_
  refine x_iconst (v := (-1 : Int32)) C dX10_readStep_8 (by decide) ?_
  refine q_icmp_eq (tgt := 23) C dX10_readStep_9 (by decide) h (fun _ h => ?_) (fun _ h => ?_)
  · refine x_iconst (v := (0 : Int32)) C dX10_readStep_23 (by decide) ?_
    exact q_zret C dX10_readStep_24 rfl (by decide) (by decide) (q_rzE h).1 (q_rzE h).2
  · refine q_iload_n C dX10_readStep_12 rfl ?_
    refine x_iconst (v := (2 : Int32)) C dX10_readStep_13 (by decide) ?_
    refine q_iadd C dX10_readStep_14 ?_
    refine q_aload_n C dX10_readStep_15 rfl ?_
    refine x_getR (ci := 10) (j := 0) C dX10_readStep_16 lkF_X10_11 rfl h (fun c3 h => ?_)
    refine x_nn h (fun r4 h => ?_)
    refine x_alen C dX10_readStep_19 h (fun v5 h => ?_)
    refine q_icmp_lt (tgt := 25) C dX10_readStep_20 (by decide) h (fun _ h => ?_) (fun _ h => ?_)
    · refine q_aload_n C dX10_readStep_25 rfl ?_
      refine q_dup C dX10_readStep_26 rfl ?_
      refine x_getI (ci := 9) (j := 2) C dX10_readStep_27 lkF_X10_39 rfl h (fun v6 h => ?_)
      refine x_iconst (v := (1 : Int32)) C dX10_readStep_30 (by decide) ?_
      refine q_iadd C dX10_readStep_31 ?_
      refine x_putI (ci := 9) (j := 2) C dX10_readStep_32 lkF_X10_39 (fun r hr => by cases hr; rfl) rfl h (fun M7 h => ?_)
      refine q_aload_n C dX10_readStep_35 rfl ?_
      refine x_getR (ci := 10) (j := 0) C dX10_readStep_36 lkF_X10_11 rfl h (fun c8 h => ?_)
      refine x_nn h (fun r9 h => ?_)
      refine q_iload_n C dX10_readStep_39 rfl ?_
      refine q_iload_n C dX10_readStep_40 rfl ?_
      refine x_iast C dX10_readStep_41 h (fun M10 h => ?_)
      refine q_aload_n C dX10_readStep_42 rfl ?_
      refine x_getR (ci := 10) (j := 0) C dX10_readStep_43 lkF_X10_11 rfl h (fun c11 h => ?_)
      refine x_nn h (fun r12 h => ?_)
      refine q_iload_n C dX10_readStep_46 rfl ?_
      refine x_iconst (v := (1 : Int32)) C dX10_readStep_47 (by decide) ?_
      refine q_iadd C dX10_readStep_48 ?_
      refine x_iconst (v := (-1 : Int32)) C dX10_readStep_49 (by decide) ?_
      refine x_iast C dX10_readStep_50 h (fun M13 h => ?_)
      refine q_aload_n C dX10_readStep_51 rfl ?_
      refine x_getR (ci := 10) (j := 0) C dX10_readStep_52 lkF_X10_11 rfl h (fun c14 h => ?_)
      refine x_nn h (fun r15 h => ?_)
      refine q_iload_n C dX10_readStep_55 rfl ?_
      refine x_iconst (v := (2 : Int32)) C dX10_readStep_56 (by decide) ?_
      refine q_iadd C dX10_readStep_57 ?_
      refine x_iconst (v := (-1 : Int32)) C dX10_readStep_58 (by decide) ?_
      refine x_iast C dX10_readStep_59 h (fun M16 h => ?_)
      refine x_iconst (v := (1 : Int32)) C dX10_readStep_60 (by decide) ?_
      refine q_istore (L' := [some (.ref l0), some (.ref l1), some (.int l2), some (.int u1), some (.int (1 : Int32))]) C dX10_readStep_61 (by decide) rfl rfl ?_
      obtain ⟨e24, he, h⟩ := q_bind h
      refine q_msk [true, true, true, true, true] (lW_X10_readStep_63 C l0 l1 l2 u1 q_fu _ _ _ he (fun M25 hs => ?_) (fun M26 hs => ?_))
      · have hs := hs.symm
        subst hs
        refine x_iconst (v := (0 : Int32)) C dX10_readStep_80 (by decide) ?_
        exact q_zret C dX10_readStep_81 rfl (by decide) (by decide) (q_rzE h).1 (q_rzE h).2
      · have hs := hs.symm
        subst hs
        refine x_iconst (v := (1 : Int32)) C dX10_readStep_101 (by decide) ?_
        exact q_zret C dX10_readStep_102 rfl (by decide) (by decide) (q_rzE h).1 (q_rzE h).2
    · refine x_iconst (v := (0 : Int32)) C dX10_readStep_23 (by decide) ?_
      exact q_zret C dX10_readStep_24 rfl (by decide) (by decide) (q_rzE h).1 (q_rzE h).2
noncomputable def B_X10_readFrom_7 (l0 : Nat) (l1 : Nat) (l2 : Int32) (M : q_Mem) : Option ((Int32 × q_Mem) ⊕ ((q_Mem) ⊕ ((q_Mem) ⊕ ((q_Mem) ⊕ (q_Mem))))) := (if l2 < (16 : Int32) then (q_ob M l0 10 ((F_X10_readStep l0 l1 (l2 * (3 : Int32)) M).bind (fun x => match x with | (u2, M3) => (if u2 = 0 then some (.inr (.inl M3)) else (q_gI M3 l0 10 1 (fun v4 => (q_pI M3 l0 10 1 (v4 + (1 : Int32)) (fun M5 => (q_ob M5 l1 9 ((F_X9_peek l1 M5).bind (fun x => match x with | (u6, M7) => (if u6 = (-1 : Int32) then some (.inr (.inr (.inl M7))) else (q_gI M7 l0 10 1 (fun v8 => (if v8 = (16 : Int32) then some (.inr (.inr (.inr (.inl M7)))) else (q_ob M7 l1 9 ((F_X9_take l1 (59 : Int32) M7).bind (fun x => match x with | (u9, M10) => (if u9 = 0 then some (.inr (.inr (.inr (.inl M10)))) else some (.inl ((l2 + (1 : Int32)), M10))))))))))))))))))))) else some (.inr (.inr (.inr (.inr M)))))
set_option maxRecDepth 100000 in
set_option maxHeartbeats 4000000 in
theorem bW_X10_readFrom_7 {K : q_K} {Q : State → Prop} (C : q_C K yX10_readFrom cX10_readFrom 3 (Option.some Jvm.ClassFile.FieldType.boolean) 11 3 0) (l0 : Nat) (l1 : Nat) (l2 : Int32) (M : q_Mem) {stp : (Int32 × q_Mem) ⊕ ((q_Mem) ⊕ ((q_Mem) ⊕ ((q_Mem) ⊕ (q_Mem))))} (h : B_X10_readFrom_7 l0 l1 l2 M = some stp) (kC : ∀ (l2 : Int32) (M : q_Mem), stp = .inl (l2, M) → q_W K 3 Q 0 0 M 7 [some (.ref l0), some (.ref l1), some (.int l2)] []) (kE0 : ∀ (M : q_Mem), stp = .inr (.inl M) → q_W K 3 Q 0 0 M 24 [none, none, none] []) (kE1 : ∀ (M : q_Mem), stp = .inr (.inr (.inl M)) → q_W K 3 Q 0 0 M 44 [none, none, none] []) (kE2 : ∀ (M : q_Mem), stp = .inr (.inr (.inr (.inl M))) → q_W K 3 Q 0 0 M 64 [none, none, none] []) (kE3 : ∀ (M : q_Mem), stp = .inr (.inr (.inr (.inr M))) → q_W K 3 Q 0 0 M 72 [none, none, none] []) : q_W K 3 Q 0 0 M 7 [some (.ref l0), some (.ref l1), some (.int l2)] [] := by
  unfold B_X10_readFrom_7 at h
  refine q_iload_n C dX10_readFrom_7 rfl ?_
  refine x_bipush (v := (16 : Int32)) C dX10_readFrom_8 (by decide) ?_
  refine q_icmp_ge (tgt := 72) C dX10_readFrom_10 (by decide) h (fun _ h => ?_) (fun _ h => ?_)
  · refine q_aload_n C dX10_readFrom_13 rfl ?_
    refine q_aload_n C dX10_readFrom_14 rfl ?_
    refine q_iload_n C dX10_readFrom_15 rfl ?_
    refine x_iconst (v := (3 : Int32)) C dX10_readFrom_16 (by decide) ?_
    refine q_imul C dX10_readFrom_17 ?_
    obtain ⟨hk, h⟩ := q_obE h
    obtain ⟨⟨u2, M3⟩, e1, h⟩ := q_bind h
    refine x_callV C dX10_readFrom_18 lkM_X10_19 mV_X10_readStep ⟨_, rfl, rfl⟩ hk (c_X10_readStep _ _ _ _ _ _ e1) rfl rfl (Nat.le_of_ble_eq_true rfl) (by decide) (by decide) ?_
    refine q_if_ne (tgt := 26) C dX10_readFrom_21 (by decide) h (fun _ h => ?_) (fun _ h => ?_)
    · exact q_msk [false, false, false] (kE0 _ (Option.some.inj h).symm)
    · refine q_aload_n C dX10_readFrom_26 rfl ?_
      refine q_dup C dX10_readFrom_27 rfl ?_
      refine x_getI (ci := 10) (j := 1) C dX10_readFrom_28 lkF_X10_15 rfl h (fun v4 h => ?_)
      refine x_iconst (v := (1 : Int32)) C dX10_readFrom_31 (by decide) ?_
      refine q_iadd C dX10_readFrom_32 ?_
      refine x_putI (ci := 10) (j := 1) C dX10_readFrom_33 lkF_X10_15 (fun r hr => by cases hr; rfl) rfl h (fun M5 h => ?_)
      refine q_aload_n C dX10_readFrom_36 rfl ?_
      obtain ⟨hk, h⟩ := q_obE h
      obtain ⟨⟨u6, M7⟩, e1, h⟩ := q_bind h
      refine x_callV0 C dX10_readFrom_37 lkM_X10_23 mV_X9_peek ⟨_, rfl, rfl⟩ hk (c_X9_peek _ _ _ _ e1) rfl rfl (Nat.le_of_ble_eq_true rfl) (by decide) (by decide) ?_
      refine x_iconst (v := (-1 : Int32)) C dX10_readFrom_40 (by decide) ?_
      refine q_icmp_ne (tgt := 46) C dX10_readFrom_41 (by decide) h (fun _ h => ?_) (fun _ h => ?_)
      · exact q_msk [false, false, false] (kE1 _ (Option.some.inj h).symm)
      · refine q_aload_n C dX10_readFrom_46 rfl ?_
        refine x_getI (ci := 10) (j := 1) C dX10_readFrom_47 lkF_X10_15 rfl h (fun v8 h => ?_)
        refine x_bipush (v := (16 : Int32)) C dX10_readFrom_50 (by decide) ?_
        refine q_icmp_eq (tgt := 64) C dX10_readFrom_52 (by decide) h (fun _ h => ?_) (fun _ h => ?_)
        · exact q_msk [false, false, false] (kE2 _ (Option.some.inj h).symm)
        · refine q_aload_n C dX10_readFrom_55 rfl ?_
          refine x_bipush (v := (59 : Int32)) C dX10_readFrom_56 (by decide) ?_
          obtain ⟨hk, h⟩ := q_obE h
          obtain ⟨⟨u9, M10⟩, e1, h⟩ := q_bind h
          refine x_callV0 C dX10_readFrom_58 lkM_X10_29 mV_X9_take ⟨_, rfl, rfl⟩ hk (c_X9_take _ _ _ _ _ e1) rfl rfl (Nat.le_of_ble_eq_true rfl) (by decide) (by decide) ?_
          refine q_if_ne (tgt := 66) C dX10_readFrom_61 (by decide) h (fun _ h => ?_) (fun _ h => ?_)
          · exact q_msk [false, false, false] (kE2 _ (Option.some.inj h).symm)
          · refine x_iinc (w := (1 : Int32)) (L' := [some (.ref l0), some (.ref l1), some (.int (l2 + (1 : Int32)))]) C dX10_readFrom_66 rfl (by decide) (by decide) rfl rfl ?_
            refine q_goto (tgt := 7) C dX10_readFrom_69 (by decide) ?_
            exact q_msk [true, true, true] (kC _ _ (Option.some.inj h).symm)
  · exact q_msk [false, false, false] (kE3 _ (Option.some.inj h).symm)
set_option maxRecDepth 100000 in
set_option maxHeartbeats 4000000 in
theorem lW_X10_readFrom_7 {K : q_K} {Q : State → Prop} (C : q_C K yX10_readFrom cX10_readFrom 3 (Option.some Jvm.ClassFile.FieldType.boolean) 11 3 0) (l0 : Nat) (l1 : Nat) (n : Nat) : ∀ (l2 : Int32) (M : q_Mem) (e : ((q_Mem) ⊕ ((q_Mem) ⊕ ((q_Mem) ⊕ (q_Mem))))), q_lp (fun s => B_X10_readFrom_7 l0 l1 s.1 s.2) n (l2, M) = some e → (∀ (M : q_Mem), e = (.inl M) → q_W K 3 Q 0 0 M 24 [none, none, none] []) → (∀ (M : q_Mem), e = (.inr (.inl M)) → q_W K 3 Q 0 0 M 44 [none, none, none] []) → (∀ (M : q_Mem), e = (.inr (.inr (.inl M))) → q_W K 3 Q 0 0 M 64 [none, none, none] []) → (∀ (M : q_Mem), e = (.inr (.inr (.inr M))) → q_W K 3 Q 0 0 M 72 [none, none, none] []) → q_W K 3 Q 0 0 M 7 [some (.ref l0), some (.ref l1), some (.int l2)] [] := by
  induction n with
  | zero => intro l2 M e h; cases h
  | succ n ih =>
    intro l2 M e h kE0 kE1 kE2 kE3
    obtain ⟨stp, e1, e2⟩ := q_bind h
    refine bW_X10_readFrom_7 C l0 l1 l2 M e1 (fun a0 a1 hs => ?_) (fun b0 hs => ?_) (fun b0 hs => ?_) (fun b0 hs => ?_) (fun b0 hs => ?_)
    · subst hs; exact ih _ _ _ e2 kE0 kE1 kE2 kE3
    · subst hs; exact kE0 _ (Option.some.inj e2).symm
    · subst hs; exact kE1 _ (Option.some.inj e2).symm
    · subst hs; exact kE2 _ (Option.some.inj e2).symm
    · subst hs; exact kE3 _ (Option.some.inj e2).symm
noncomputable def F_X10_readFrom (l0 : Nat) (l1 : Nat) (M : q_Mem) : Option (Int32 × q_Mem) := (q_pI M l0 10 1 (0 : Int32) (fun M1 => (q_lp (fun s => B_X10_readFrom_7 l0 l1 s.1 s.2) q_fu ((0 : Int32), M1)).bind (fun e11 => match e11 with | .inl M12 => q_rz (0 : Int32) M12 | .inr (.inl M13) => q_rz (1 : Int32) M13 | .inr (.inr (.inl M14)) => q_rz (0 : Int32) M14 | .inr (.inr (.inr M15)) => q_rz (0 : Int32) M15)))
set_option maxRecDepth 100000 in
set_option maxHeartbeats 4000000 in
theorem c_X10_readFrom (l : Launch) (G : q_G) (l0 : Nat) (l1 : Nat) (M : q_Mem) {r : Int32} {M' : q_Mem} (h : F_X10_readFrom l0 l1 M = some (r, M')) : q_Met l G yX10_readFrom cX10_readFrom 3 (Option.some Jvm.ClassFile.FieldType.boolean) 11 3 0 [.ref l0, .ref l1] M (some (.int r)) M' := by
  unfold F_X10_readFrom at h
  refine q_enter [some (.ref l0), some (.ref l1), none] (by decide) (Nat.le_of_ble_eq_true rfl) rfl (fun K C => ?_)
  refine q_aload_n C dX10_readFrom_0 rfl ?_
  refine x_iconst (v := (0 : Int32)) C dX10_readFrom_1 (by decide) ?_
  refine x_putI (ci := 10) (j := 1) C dX10_readFrom_2 lkF_X10_15 (fun r hr => by cases hr; rfl) rfl h (fun M1 h => ?_)
  refine x_iconst (v := (0 : Int32)) C dX10_readFrom_5 (by decide) ?_
  refine q_istore_n (L' := [some (.ref l0), some (.ref l1), some (.int (0 : Int32))]) C dX10_readFrom_6 (by decide) rfl rfl ?_
  obtain ⟨e11, he, h⟩ := q_bind h
  refine q_msk [true, true, true] (lW_X10_readFrom_7 C l0 l1 q_fu _ _ _ he (fun M12 hs => ?_) (fun M13 hs => ?_) (fun M14 hs => ?_) (fun M15 hs => ?_))
  · have hs := hs.symm
    subst hs
    refine x_iconst (v := (0 : Int32)) C dX10_readFrom_24 (by decide) ?_
    exact q_zret C dX10_readFrom_25 rfl (by decide) (by decide) (q_rzE h).1 (q_rzE h).2
  · have hs := hs.symm
    subst hs
    refine x_iconst (v := (1 : Int32)) C dX10_readFrom_44 (by decide) ?_
    exact q_zret C dX10_readFrom_45 rfl (by decide) (by decide) (q_rzE h).1 (q_rzE h).2
  · have hs := hs.symm
    subst hs
    refine x_iconst (v := (0 : Int32)) C dX10_readFrom_64 (by decide) ?_
    exact q_zret C dX10_readFrom_65 rfl (by decide) (by decide) (q_rzE h).1 (q_rzE h).2
  · have hs := hs.symm
    subst hs
    refine x_iconst (v := (0 : Int32)) C dX10_readFrom_72 (by decide) ?_
    exact q_zret C dX10_readFrom_73 rfl (by decide) (by decide) (q_rzE h).1 (q_rzE h).2
noncomputable def F_J9_max_f86c9 (l0 : Int64) (l2 : Int64) (M : q_Mem) : Option (Int64) := (if (lg_cmp l0 l2) < 0 then some l2 else some l0)
set_option maxRecDepth 100000 in
set_option maxHeartbeats 4000000 in
theorem c_J9_max_f86c9 (l : Launch) (G : q_G) (l0 : Int64) (l2 : Int64) (M : q_Mem) {r : Int64} (h : F_J9_max_f86c9 l0 l2 M = some r) : q_Met l G yJ9_max_f86c9 cJ9_max_f86c9 4 (Option.some Jvm.ClassFile.FieldType.long) 1 0 0 [.long l0, .long l2] M (some (.long r)) M := by
  unfold F_J9_max_f86c9 at h
  refine q_enter [some (.long l0), none, some (.long l2), none] (by decide) (Nat.le_of_ble_eq_true rfl) rfl (fun K C => ?_)
  refine q_lload_n C dJ9_max_f86c9_0 rfl ?_
  refine q_lload_n C dJ9_max_f86c9_1 rfl ?_
  refine q_lcmp C dJ9_max_f86c9_2 ?_
  refine q_if_lt (tgt := 10) C dJ9_max_f86c9_3 (by decide) h (fun _ h => ?_) (fun _ h => ?_)
  · refine q_lload_n C dJ9_max_f86c9_10 rfl ?_
    exact q_lret (res := (r, M)) C dJ9_max_f86c9_11 rfl (by decide) (by decide) (congrArg (fun z => (z, M)) (Option.some.inj h))
  · refine q_lload_n C dJ9_max_f86c9_6 rfl ?_
    refine q_goto (tgt := 11) C dJ9_max_f86c9_7 (by decide) ?_
    exact q_lret (res := (r, M)) C dJ9_max_f86c9_11 rfl (by decide) (by decide) (congrArg (fun z => (z, M)) (Option.some.inj h))
noncomputable def F_J9_min_f86c9 (l0 : Int64) (l2 : Int64) (M : q_Mem) : Option (Int64) := (if 0 < (lg_cmp l0 l2) then some l2 else some l0)
set_option maxRecDepth 100000 in
set_option maxHeartbeats 4000000 in
theorem c_J9_min_f86c9 (l : Launch) (G : q_G) (l0 : Int64) (l2 : Int64) (M : q_Mem) {r : Int64} (h : F_J9_min_f86c9 l0 l2 M = some r) : q_Met l G yJ9_min_f86c9 cJ9_min_f86c9 4 (Option.some Jvm.ClassFile.FieldType.long) 1 0 0 [.long l0, .long l2] M (some (.long r)) M := by
  unfold F_J9_min_f86c9 at h
  refine q_enter [some (.long l0), none, some (.long l2), none] (by decide) (Nat.le_of_ble_eq_true rfl) rfl (fun K C => ?_)
  refine q_lload_n C dJ9_min_f86c9_0 rfl ?_
  refine q_lload_n C dJ9_min_f86c9_1 rfl ?_
  refine q_lcmp C dJ9_min_f86c9_2 ?_
  refine q_if_gt (tgt := 10) C dJ9_min_f86c9_3 (by decide) h (fun _ h => ?_) (fun _ h => ?_)
  · refine q_lload_n C dJ9_min_f86c9_10 rfl ?_
    exact q_lret (res := (r, M)) C dJ9_min_f86c9_11 rfl (by decide) (by decide) (congrArg (fun z => (z, M)) (Option.some.inj h))
  · refine q_lload_n C dJ9_min_f86c9_6 rfl ?_
    refine q_goto (tgt := 11) C dJ9_min_f86c9_7 (by decide) ?_
    exact q_lret (res := (r, M)) C dJ9_min_f86c9_11 rfl (by decide) (by decide) (congrArg (fun z => (z, M)) (Option.some.inj h))
noncomputable def J_J3_checkIndex_8e157_9 (l0 : Int32) (l1 : Int32) (l2 : Nat) (M : q_Mem) : Option (Int32) := none
set_option maxRecDepth 100000 in
set_option maxHeartbeats 4000000 in
theorem jW_J3_checkIndex_8e157_9 {K : q_K} (C : q_C K yJ3_checkIndex_8e157 cJ3_checkIndex_8e157 3 (Option.some Jvm.ClassFile.FieldType.int) 2 0 0) (l0 : Int32) (l1 : Int32) (l2 : Nat) (M : q_Mem) {r : Int32} (h : J_J3_checkIndex_8e157_9 l0 l1 l2 M = some r) : q_W K 3 (q_Q K (some (.int r)) M 0 0) 0 0 M 9 [some (.int l0), some (.int l1), some (q_rc l2)] [] := by
  unfold J_J3_checkIndex_8e157_9 at h
  refine q_aloadC_n C dJ3_checkIndex_8e157_9 rfl ?_
  refine q_iload_n C dJ3_checkIndex_8e157_10 rfl ?_
  refine q_iload_n C dJ3_checkIndex_8e157_11 rfl ?_
  cases h
noncomputable def F_J3_checkIndex_8e157 (l0 : Int32) (l1 : Int32) (l2 : Nat) (M : q_Mem) : Option (Int32) := (if l0 < 0 then J_J3_checkIndex_8e157_9 l0 l1 l2 M else (if l0 < l1 then some l0 else J_J3_checkIndex_8e157_9 l0 l1 l2 M))
set_option maxRecDepth 100000 in
set_option maxHeartbeats 4000000 in
theorem c_J3_checkIndex_8e157 (l : Launch) (G : q_G) (l0 : Int32) (l1 : Int32) (l2 : Nat) (M : q_Mem) {r : Int32} (h : F_J3_checkIndex_8e157 l0 l1 l2 M = some r) : q_Met l G yJ3_checkIndex_8e157 cJ3_checkIndex_8e157 3 (Option.some Jvm.ClassFile.FieldType.int) 2 0 0 [.int l0, .int l1, q_rc l2] M (some (.int r)) M := by
  unfold F_J3_checkIndex_8e157 at h
  refine q_enter [some (.int l0), some (.int l1), some (q_rc l2)] (by decide) (Nat.le_of_ble_eq_true rfl) rfl (fun K C => ?_)
  refine q_iload_n C dJ3_checkIndex_8e157_0 rfl ?_
  refine q_if_lt (tgt := 9) C dJ3_checkIndex_8e157_1 (by decide) h (fun _ h => ?_) (fun _ h => ?_)
  · exact q_msk [true, true, true] (jW_J3_checkIndex_8e157_9 C l0 l1 l2 M h)
  · refine q_iload_n C dJ3_checkIndex_8e157_4 rfl ?_
    refine q_iload_n C dJ3_checkIndex_8e157_5 rfl ?_
    refine q_icmp_lt (tgt := 16) C dJ3_checkIndex_8e157_6 (by decide) h (fun _ h => ?_) (fun _ h => ?_)
    · refine q_iload_n C dJ3_checkIndex_8e157_16 rfl ?_
      exact q_iret (res := (r, M)) C dJ3_checkIndex_8e157_17 rfl (by decide) (by decide) (congrArg (fun z => (z, M)) (Option.some.inj h))
    · exact q_msk [true, true, true] (jW_J3_checkIndex_8e157_9 C l0 l1 l2 M h)
noncomputable def F_J0_checkIndex_df160 (l0 : Int32) (l1 : Int32) (M : q_Mem) : Option (Unit × q_Mem) := ((F_J3_checkIndex_8e157 l0 l1 0 M).bind (fun u2 => some ((), M)))
set_option maxRecDepth 100000 in
set_option maxHeartbeats 4000000 in
theorem c_J0_checkIndex_df160 (l : Launch) (G : q_G) (l0 : Int32) (l1 : Int32) (M : q_Mem) {r : Unit} {M' : q_Mem} (h : F_J0_checkIndex_df160 l0 l1 M = some (r, M')) : q_Met l G yJ0_checkIndex_df160 cJ0_checkIndex_df160 2 (Option.none : Option Jvm.ClassFile.FieldType) 3 0 0 [.int l0, .int l1] M none M' := by
  unfold F_J0_checkIndex_df160 at h
  refine q_enter [some (.int l0), some (.int l1)] (by decide) (Nat.le_of_ble_eq_true rfl) rfl (fun K C => ?_)
  refine q_iload_n C dJ0_checkIndex_df160_0 rfl ?_
  refine q_iload_n C dJ0_checkIndex_df160_1 rfl ?_
  refine q_getsQ C dJ0_checkIndex_df160_2 wd_496 (fun c1 => ?_)
  obtain ⟨u2, e1, h⟩ := q_bind h
  refine x_callS0 C dJ0_checkIndex_df160_5 lkM_J0_1059 mS_J3_checkIndex_8e157 (c_J3_checkIndex_8e157 _ _ _ _ c1 _ e1) rfl rfl (Nat.le_of_ble_eq_true rfl) (by decide) (by decide) ?_
  refine q_pop C dJ0_checkIndex_df160_8 rfl ?_
  exact q_vret C dJ0_checkIndex_df160_9 rfl (by decide) (by decide) (Option.some.inj h)
noncomputable def F_J1_charAt_3b067 (l0 : Nat) (l1 : Int32) (M : q_Mem) : Option (Int32 × q_Mem) := (q_al M l0 (fun v1 => ((F_J0_checkIndex_df160 l1 v1 M).bind (fun x => match x with | (_, M3) => (q_lI M3 1 l0 l1 (fun v4 => q_rtm .char (((v4 &&& (255 : Int32)).toUInt32 % 65536).toInt32) M3))))))
set_option maxRecDepth 100000 in
set_option maxHeartbeats 4000000 in
theorem c_J1_charAt_3b067 (l : Launch) (G : q_G) (l0 : Nat) (l1 : Int32) (M : q_Mem) {r : Int32} {M' : q_Mem} (h : F_J1_charAt_3b067 l0 l1 M = some (r, M')) : q_Met l G yJ1_charAt_3b067 cJ1_charAt_3b067 2 (Option.some Jvm.ClassFile.FieldType.char) 4 0 0 [.ref l0, .int l1] M (some (.int r)) M' := by
  unfold F_J1_charAt_3b067 at h
  refine q_enter [some (.ref l0), some (.int l1)] (by decide) (Nat.le_of_ble_eq_true rfl) rfl (fun K C => ?_)
  refine q_iload_n C dJ1_charAt_3b067_0 rfl ?_
  refine q_aload_n C dJ1_charAt_3b067_1 rfl ?_
  refine x_alen C dJ1_charAt_3b067_2 h (fun v1 h => ?_)
  obtain ⟨⟨_, M3⟩, e1, h⟩ := q_bind h
  refine x_callSv0 C dJ1_charAt_3b067_3 lkM_J1_9 mS_J0_checkIndex_df160 (c_J0_checkIndex_df160 _ _ _ _ _ e1) rfl rfl (Nat.le_of_ble_eq_true rfl) (by decide) (by decide) ?_
  refine q_aload_n C dJ1_charAt_3b067_6 rfl ?_
  refine q_iload_n C dJ1_charAt_3b067_7 rfl ?_
  refine x_bald C dJ1_charAt_3b067_8 h (fun v4 h => ?_)
  refine x_sipush (v := (255 : Int32)) C dJ1_charAt_3b067_9 (by decide) ?_
  refine q_iand C dJ1_charAt_3b067_12 ?_
  refine q_i2c C dJ1_charAt_3b067_13 ?_
  exact q_nret C dJ1_charAt_3b067_14 rfl (by decide) (by decide) (q_rtmE h).1 (q_rtmE h).2
noncomputable def F_J0_charAt_5068e (l0 : Nat) (l1 : Int32) (M : q_Mem) : Option (Int32 × q_Mem) := (q_ob M l0 14 ((F_J0_isLatin1_aae02 l0 M).bind (fun u1 => (if u1 = 0 then (q_gR M l0 14 0 (fun c2 => q_nn c2 (fun r3 => none))) else (q_gR M l0 14 0 (fun c4 => q_nn c4 (fun r5 => ((F_J1_charAt_3b067 r5 l1 M).bind (fun x => match x with | (u6, M7) => q_rtm .char u6 M7)))))))))
set_option maxRecDepth 100000 in
set_option maxHeartbeats 4000000 in
theorem c_J0_charAt_5068e (l : Launch) (G : q_G) (l0 : Nat) (l1 : Int32) (M : q_Mem) {r : Int32} {M' : q_Mem} (h : F_J0_charAt_5068e l0 l1 M = some (r, M')) : q_Met l G yJ0_charAt_5068e cJ0_charAt_5068e 2 (Option.some Jvm.ClassFile.FieldType.char) 6 1 0 [.ref l0, .int l1] M (some (.int r)) M' := by
  unfold F_J0_charAt_5068e at h
  refine q_enter [some (.ref l0), some (.int l1)] (by decide) (Nat.le_of_ble_eq_true rfl) rfl (fun K C => ?_)
  refine q_aload_n C dJ0_charAt_5068e_0 rfl ?_
  obtain ⟨hk, h⟩ := q_obE h
  obtain ⟨u1, e1, h⟩ := q_bind h
  refine x_callT C dJ0_charAt_5068e_1 wd_458 mV_J0_isLatin1_aae02 rfl hk (c_J0_isLatin1_aae02 _ _ _ _ e1) rfl rfl (Nat.le_of_ble_eq_true rfl) (by decide) (by decide) ?_
  refine q_if_eq (tgt := 16) C dJ0_charAt_5068e_4 (by decide) h (fun _ h => ?_) (fun _ h => ?_)
  · refine q_aload_n C dJ0_charAt_5068e_16 rfl ?_
    refine x_getSV C dJ0_charAt_5068e_17 wd_1859 h (fun c2 h => ?_)
    refine x_nn h (fun r3 h => ?_)
    refine q_iload_n C dJ0_charAt_5068e_20 rfl ?_
    cases h
  · refine q_aload_n C dJ0_charAt_5068e_7 rfl ?_
    refine x_getSV C dJ0_charAt_5068e_8 wd_1859 h (fun c4 h => ?_)
    refine x_nn h (fun r5 h => ?_)
    refine q_iload_n C dJ0_charAt_5068e_11 rfl ?_
    obtain ⟨⟨u6, M7⟩, e1, h⟩ := q_bind h
    refine x_callS0 C dJ0_charAt_5068e_12 lkM_J0_495 mS_J1_charAt_3b067 (c_J1_charAt_3b067 _ _ _ _ _ e1) rfl rfl (Nat.le_of_ble_eq_true rfl) (by decide) (by decide) ?_
    exact q_nret C dJ0_charAt_5068e_15 rfl (by decide) (by decide) (q_rtmE h).1 (q_rtmE h).2
noncomputable def F_X11_init (l0 : Nat) (M : q_Mem) : Option (Unit × q_Mem) := (q_nO M 9 (fun k1 M2 => ((F_X9_init k1 M2).bind (fun x => match x with | (_, M4) => (q_pR M4 l0 11 0 (k1 + 1) (fun M5 => (q_nO M5 3 (fun k6 M7 => ((F_X3_init k6 M7).bind (fun x => match x with | (_, M9) => (q_pR M9 l0 11 1 (k6 + 1) (fun M10 => (q_nO M10 3 (fun k11 M12 => ((F_X3_init k11 M12).bind (fun x => match x with | (_, M14) => (q_pR M14 l0 11 2 (k11 + 1) (fun M15 => (q_nO M15 5 (fun k16 M17 => (q_gR M17 l0 11 0 (fun c18 => q_nn c18 (fun r19 => ((F_X5_init k16 r19 M17).bind (fun x => match x with | (_, M21) => (q_pR M21 l0 11 3 (k16 + 1) (fun M22 => (q_nA M22 3 (4 : Int32) 4 (fun k23 M24 => (q_pR M24 l0 11 4 (k23 + 1) (fun M25 => (q_nA M25 4 (4 : Int32) 4 (fun k26 M27 => (q_pR M27 l0 11 5 (k26 + 1) (fun M28 => (q_nO M28 8 (fun k29 M30 => ((F_X8_init k29 M30).bind (fun x => match x with | (_, M32) => (q_pR M32 l0 11 6 (k29 + 1) (fun M33 => (q_nO M33 8 (fun k34 M35 => ((F_X8_init k34 M35).bind (fun x => match x with | (_, M37) => (q_pR M37 l0 11 7 (k34 + 1) (fun M38 => (q_nO M38 6 (fun k39 M40 => ((F_X6_init k39 M40).bind (fun x => match x with | (_, M42) => (q_pR M42 l0 11 8 (k39 + 1) (fun M43 => (q_nO M43 1 (fun k44 M45 => (q_gR M45 l0 11 1 (fun c46 => q_nn c46 (fun r47 => ((F_X1_init k44 r47 M45).bind (fun x => match x with | (_, M49) => (q_pR M49 l0 11 9 (k44 + 1) (fun M50 => (q_nO M50 0 (fun k51 M52 => (q_gR M52 l0 11 1 (fun c53 => q_nn c53 (fun r54 => (q_gR M52 l0 11 9 (fun c55 => q_nn c55 (fun r56 => ((F_X0_init k51 r54 r56 M52).bind (fun x => match x with | (_, M58) => (q_pR M58 l0 11 10 (k51 + 1) (fun M59 => (q_nO M59 2 (fun k60 M61 => (q_gR M61 l0 11 1 (fun c62 => q_nn c62 (fun r63 => (q_gR M61 l0 11 9 (fun c64 => q_nn c64 (fun r65 => (q_gR M61 l0 11 10 (fun c66 => q_nn c66 (fun r67 => ((F_X2_init k60 r63 r65 r67 M61).bind (fun x => match x with | (_, M69) => (q_pR M69 l0 11 11 (k60 + 1) (fun M70 => (q_nO M70 7 (fun k71 M72 => (q_gR M72 l0 11 1 (fun c73 => q_nn c73 (fun r74 => (q_gR M72 l0 11 9 (fun c75 => q_nn c75 (fun r76 => ((F_X7_init k71 r74 r76 M72).bind (fun x => match x with | (_, M78) => (q_pR M78 l0 11 12 (k71 + 1) (fun M79 => (q_nO M79 10 (fun k80 M81 => ((F_X10_init k80 M81).bind (fun x => match x with | (_, M83) => (q_pR M83 l0 11 13 (k80 + 1) (fun M84 => (q_pI M84 l0 11 14 (0 : Int32) (fun M85 => (q_pI M85 l0 11 15 (0 : Int32) (fun M86 => (q_pI M86 l0 11 16 (-1 : Int32) (fun M87 => (q_pI M87 l0 11 17 (1 : Int32) (fun M88 => (q_pZ M88 l0 11 18 (0 : Int32) (fun M89 => (q_pL M89 l0 11 19 (0 : Int64) (fun M90 => some ((), M90))))))))))))))))))))))))))))))))))))))))))))))))))))))))))))))))))))))))))))))))))))))))))))))))))))))))))))))))))))))))
set_option maxRecDepth 100000 in
set_option maxHeartbeats 4000000 in
theorem c_X11_init (l : Launch) (G : q_G) (l0 : Nat) (M : q_Mem) {r : Unit} {M' : q_Mem} (h : F_X11_init l0 M = some (r, M')) : q_Met l G yX11_init cX11_init 1 (Option.none : Option Jvm.ClassFile.FieldType) 4 50 3087 [.ref l0] M none M' := by
  unfold F_X11_init at h
  refine q_enter [some (.ref l0)] (by decide) (Nat.le_of_ble_eq_true rfl) rfl (fun K C => ?_)
  refine q_aload_n C dX11_init_0 rfl ?_
  refine q_objI C dX11_init_1 wd_32 wd_33 wd_34 (by decide) (Nat.le_of_ble_eq_true rfl) ?_
  refine q_aload_n C dX11_init_4 rfl ?_
  refine x_new (ci := 9) C dX11_init_5 rfl clok_9 wd_35 wd_36 wd_2 df_9 h (by decide) (fun k1 M2 h => ?_)
  refine q_dup C dX11_init_8 rfl ?_
  obtain ⟨⟨_, M4⟩, e1, h⟩ := q_bind h
  refine x_callI C dX11_init_9 lkM_X11_11 mI_X9_init (c_X9_init _ _ _ _ e1) rfl rfl (Nat.le_of_ble_eq_true rfl) (by decide) (by decide) ?_
  refine x_putR (ci := 11) (j := 0) (k1 + 1) C dX11_init_12 lkF_X11_12 (fun r hr => by cases hr; exact Or.inr ⟨rfl, rfl, wd_327⟩) (Or.inl ⟨_, rfl⟩) rfl h (fun M5 h => ?_)
  refine q_aload_n C dX11_init_15 rfl ?_
  refine x_new (ci := 3) C dX11_init_16 rfl clok_3 wd_63 wd_64 wd_3 df_3 h (by decide) (fun k6 M7 h => ?_)
  refine q_dup C dX11_init_19 rfl ?_
  obtain ⟨⟨_, M9⟩, e1, h⟩ := q_bind h
  refine x_callI C dX11_init_20 lkM_X11_18 mI_X3_init (c_X3_init _ _ _ _ e1) rfl rfl (Nat.le_of_ble_eq_true rfl) (by decide) (by decide) ?_
  refine x_putR (ci := 11) (j := 1) (k6 + 1) C dX11_init_23 lkF_X11_19 (fun r hr => by cases hr; exact Or.inr ⟨rfl, rfl, wd_328⟩) (Or.inl ⟨_, rfl⟩) rfl h (fun M10 h => ?_)
  refine q_aload_n C dX11_init_26 rfl ?_
  refine x_new (ci := 3) C dX11_init_27 rfl clok_3 wd_63 wd_64 wd_3 df_3 h (by decide) (fun k11 M12 h => ?_)
  refine q_dup C dX11_init_30 rfl ?_
  obtain ⟨⟨_, M14⟩, e1, h⟩ := q_bind h
  refine x_callI C dX11_init_31 lkM_X11_18 mI_X3_init (c_X3_init _ _ _ _ e1) rfl rfl (Nat.le_of_ble_eq_true rfl) (by decide) (by decide) ?_
  refine x_putR (ci := 11) (j := 2) (k11 + 1) C dX11_init_34 lkF_X11_23 (fun r hr => by cases hr; exact Or.inr ⟨rfl, rfl, wd_329⟩) (Or.inl ⟨_, rfl⟩) rfl h (fun M15 h => ?_)
  refine q_aload_n C dX11_init_37 rfl ?_
  refine x_new (ci := 5) C dX11_init_38 rfl clok_5 wd_104 wd_105 wd_4 df_5 h (by decide) (fun k16 M17 h => ?_)
  refine q_dup C dX11_init_41 rfl ?_
  refine q_aload_n C dX11_init_42 rfl ?_
  refine x_getR (ci := 11) (j := 0) C dX11_init_43 lkF_X11_12 rfl h (fun c18 h => ?_)
  refine x_nn h (fun r19 h => ?_)
  obtain ⟨⟨_, M21⟩, e1, h⟩ := q_bind h
  refine x_callI C dX11_init_46 lkM_X11_28 mI_X5_init (c_X5_init _ _ _ _ _ e1) rfl rfl (Nat.le_of_ble_eq_true rfl) (by decide) (by decide) ?_
  refine x_putR (ci := 11) (j := 3) (k16 + 1) C dX11_init_49 lkF_X11_31 (fun r hr => by cases hr; exact Or.inr ⟨rfl, rfl, wd_330⟩) (Or.inl ⟨_, rfl⟩) rfl h (fun M22 h => ?_)
  refine q_aload_n C dX11_init_52 rfl ?_
  refine x_iconst (v := (4 : Int32)) C dX11_init_53 (by decide) ?_
  refine x_newq C dX11_init_54 wd_120 (by decide) (by decide) h (by decide) (fun k23 M24 h => ?_)
  refine x_putR (ci := 11) (j := 4) (k23 + 1) C dX11_init_57 lkF_X11_37 (fun r hr => by cases hr; exact Or.inr ⟨rfl, rfl, wd_331⟩) (Or.inr ⟨_, rfl⟩) rfl h (fun M25 h => ?_)
  refine q_aload_n C dX11_init_60 rfl ?_
  refine x_iconst (v := (4 : Int32)) C dX11_init_61 (by decide) ?_
  refine x_newq C dX11_init_62 wd_122 (by decide) (by decide) h (by decide) (fun k26 M27 h => ?_)
  refine x_putR (ci := 11) (j := 5) (k26 + 1) C dX11_init_65 lkF_X11_43 (fun r hr => by cases hr; exact Or.inr ⟨rfl, rfl, wd_332⟩) (Or.inr ⟨_, rfl⟩) rfl h (fun M28 h => ?_)
  refine q_aload_n C dX11_init_68 rfl ?_
  refine x_new (ci := 8) C dX11_init_69 rfl clok_8 wd_124 wd_125 wd_5 df_8 h (by decide) (fun k29 M30 h => ?_)
  refine q_dup C dX11_init_72 rfl ?_
  obtain ⟨⟨_, M32⟩, e1, h⟩ := q_bind h
  refine x_callI C dX11_init_73 lkM_X11_49 mI_X8_init (c_X8_init _ _ _ _ e1) rfl rfl (Nat.le_of_ble_eq_true rfl) (by decide) (by decide) ?_
  refine x_putR (ci := 11) (j := 6) (k29 + 1) C dX11_init_76 lkF_X11_50 (fun r hr => by cases hr; exact Or.inr ⟨rfl, rfl, wd_333⟩) (Or.inl ⟨_, rfl⟩) rfl h (fun M33 h => ?_)
  refine q_aload_n C dX11_init_79 rfl ?_
  refine x_new (ci := 8) C dX11_init_80 rfl clok_8 wd_124 wd_125 wd_5 df_8 h (by decide) (fun k34 M35 h => ?_)
  refine q_dup C dX11_init_83 rfl ?_
  obtain ⟨⟨_, M37⟩, e1, h⟩ := q_bind h
  refine x_callI C dX11_init_84 lkM_X11_49 mI_X8_init (c_X8_init _ _ _ _ e1) rfl rfl (Nat.le_of_ble_eq_true rfl) (by decide) (by decide) ?_
  refine x_putR (ci := 11) (j := 7) (k34 + 1) C dX11_init_87 lkF_X11_54 (fun r hr => by cases hr; exact Or.inr ⟨rfl, rfl, wd_334⟩) (Or.inl ⟨_, rfl⟩) rfl h (fun M38 h => ?_)
  refine q_aload_n C dX11_init_90 rfl ?_
  refine x_new (ci := 6) C dX11_init_91 rfl clok_6 wd_139 wd_140 wd_6 df_6 h (by decide) (fun k39 M40 h => ?_)
  refine q_dup C dX11_init_94 rfl ?_
  obtain ⟨⟨_, M42⟩, e1, h⟩ := q_bind h
  refine x_callI C dX11_init_95 lkM_X11_59 mI_X6_init (c_X6_init _ _ _ _ e1) rfl rfl (Nat.le_of_ble_eq_true rfl) (by decide) (by decide) ?_
  refine x_putR (ci := 11) (j := 8) (k39 + 1) C dX11_init_98 lkF_X11_60 (fun r hr => by cases hr; exact Or.inr ⟨rfl, rfl, wd_335⟩) (Or.inl ⟨_, rfl⟩) rfl h (fun M43 h => ?_)
  refine q_aload_n C dX11_init_101 rfl ?_
  refine x_new (ci := 1) C dX11_init_102 rfl clok_1 wd_170 wd_171 wd_7 df_1 h (by decide) (fun k44 M45 h => ?_)
  refine q_dup C dX11_init_105 rfl ?_
  refine q_aload_n C dX11_init_106 rfl ?_
  refine x_getR (ci := 11) (j := 1) C dX11_init_107 lkF_X11_19 rfl h (fun c46 h => ?_)
  refine x_nn h (fun r47 h => ?_)
  obtain ⟨⟨_, M49⟩, e1, h⟩ := q_bind h
  refine x_callI C dX11_init_110 lkM_X11_66 mI_X1_init (c_X1_init _ _ _ _ _ e1) rfl rfl (Nat.le_of_ble_eq_true rfl) (by decide) (by decide) ?_
  refine x_putR (ci := 11) (j := 9) (k44 + 1) C dX11_init_113 lkF_X11_69 (fun r hr => by cases hr; exact Or.inr ⟨rfl, rfl, wd_336⟩) (Or.inl ⟨_, rfl⟩) rfl h (fun M50 h => ?_)
  refine q_aload_n C dX11_init_116 rfl ?_
  refine x_new (ci := 0) C dX11_init_117 rfl clok_0 wd_229 wd_230 wd_8 df_0 h (by decide) (fun k51 M52 h => ?_)
  refine q_dup C dX11_init_120 rfl ?_
  refine q_aload_n C dX11_init_121 rfl ?_
  refine x_getR (ci := 11) (j := 1) C dX11_init_122 lkF_X11_19 rfl h (fun c53 h => ?_)
  refine x_nn h (fun r54 h => ?_)
  refine q_aload_n C dX11_init_125 rfl ?_
  refine x_getR (ci := 11) (j := 9) C dX11_init_126 lkF_X11_69 rfl h (fun c55 h => ?_)
  refine x_nn h (fun r56 h => ?_)
  obtain ⟨⟨_, M58⟩, e1, h⟩ := q_bind h
  refine x_callI C dX11_init_129 lkM_X11_75 mI_X0_init (c_X0_init _ _ _ _ _ _ e1) rfl rfl (Nat.le_of_ble_eq_true rfl) (by decide) (by decide) ?_
  refine x_putR (ci := 11) (j := 10) (k51 + 1) C dX11_init_132 lkF_X11_78 (fun r hr => by cases hr; exact Or.inr ⟨rfl, rfl, wd_337⟩) (Or.inl ⟨_, rfl⟩) rfl h (fun M59 h => ?_)
  refine q_aload_n C dX11_init_135 rfl ?_
  refine x_new (ci := 2) C dX11_init_136 rfl clok_2 wd_242 wd_243 wd_9 df_2 h (by decide) (fun k60 M61 h => ?_)
  refine q_dup C dX11_init_139 rfl ?_
  refine q_aload_n C dX11_init_140 rfl ?_
  refine x_getR (ci := 11) (j := 1) C dX11_init_141 lkF_X11_19 rfl h (fun c62 h => ?_)
  refine x_nn h (fun r63 h => ?_)
  refine q_aload_n C dX11_init_144 rfl ?_
  refine x_getR (ci := 11) (j := 9) C dX11_init_145 lkF_X11_69 rfl h (fun c64 h => ?_)
  refine x_nn h (fun r65 h => ?_)
  refine q_aload_n C dX11_init_148 rfl ?_
  refine x_getR (ci := 11) (j := 10) C dX11_init_149 lkF_X11_78 rfl h (fun c66 h => ?_)
  refine x_nn h (fun r67 h => ?_)
  obtain ⟨⟨_, M69⟩, e1, h⟩ := q_bind h
  refine x_callI C dX11_init_152 lkM_X11_84 mI_X2_init (c_X2_init _ _ _ _ _ _ _ e1) rfl rfl (Nat.le_of_ble_eq_true rfl) (by decide) (by decide) ?_
  refine x_putR (ci := 11) (j := 11) (k60 + 1) C dX11_init_155 lkF_X11_87 (fun r hr => by cases hr; exact Or.inr ⟨rfl, rfl, wd_338⟩) (Or.inl ⟨_, rfl⟩) rfl h (fun M70 h => ?_)
  refine q_aload_n C dX11_init_158 rfl ?_
  refine x_new (ci := 7) C dX11_init_159 rfl clok_7 wd_293 wd_294 wd_10 df_7 h (by decide) (fun k71 M72 h => ?_)
  refine q_dup C dX11_init_162 rfl ?_
  refine q_aload_n C dX11_init_163 rfl ?_
  refine x_getR (ci := 11) (j := 1) C dX11_init_164 lkF_X11_19 rfl h (fun c73 h => ?_)
  refine x_nn h (fun r74 h => ?_)
  refine q_aload_n C dX11_init_167 rfl ?_
  refine x_getR (ci := 11) (j := 9) C dX11_init_168 lkF_X11_69 rfl h (fun c75 h => ?_)
  refine x_nn h (fun r76 h => ?_)
  obtain ⟨⟨_, M78⟩, e1, h⟩ := q_bind h
  refine x_callI C dX11_init_171 lkM_X11_93 mI_X7_init (c_X7_init _ _ _ _ _ _ e1) rfl rfl (Nat.le_of_ble_eq_true rfl) (by decide) (by decide) ?_
  refine x_putR (ci := 11) (j := 12) (k71 + 1) C dX11_init_174 lkF_X11_94 (fun r hr => by cases hr; exact Or.inr ⟨rfl, rfl, wd_339⟩) (Or.inl ⟨_, rfl⟩) rfl h (fun M79 h => ?_)
  refine q_aload_n C dX11_init_177 rfl ?_
  refine x_new (ci := 10) C dX11_init_178 rfl clok_10 wd_122 wd_313 wd_11 df_10 h (by decide) (fun k80 M81 h => ?_)
  refine q_dup C dX11_init_181 rfl ?_
  obtain ⟨⟨_, M83⟩, e1, h⟩ := q_bind h
  refine x_callI C dX11_init_182 lkM_X11_98 mI_X10_init (c_X10_init _ _ _ _ e1) rfl rfl (Nat.le_of_ble_eq_true rfl) (by decide) (by decide) ?_
  refine x_putR (ci := 11) (j := 13) (k80 + 1) C dX11_init_185 lkF_X11_99 (fun r hr => by cases hr; exact Or.inl rfl) (Or.inl ⟨_, rfl⟩) rfl h (fun M84 h => ?_)
  refine q_aload_n C dX11_init_188 rfl ?_
  refine x_iconst (v := (0 : Int32)) C dX11_init_189 (by decide) ?_
  refine x_putI (ci := 11) (j := 14) C dX11_init_190 lkF_X11_103 (fun r hr => by cases hr; rfl) rfl h (fun M85 h => ?_)
  refine q_aload_n C dX11_init_193 rfl ?_
  refine x_iconst (v := (0 : Int32)) C dX11_init_194 (by decide) ?_
  refine x_putI (ci := 11) (j := 15) C dX11_init_195 lkF_X11_107 (fun r hr => by cases hr; rfl) rfl h (fun M86 h => ?_)
  refine q_aload_n C dX11_init_198 rfl ?_
  refine x_iconst (v := (-1 : Int32)) C dX11_init_199 (by decide) ?_
  refine x_putI (ci := 11) (j := 16) C dX11_init_200 lkF_X11_110 (fun r hr => by cases hr; rfl) rfl h (fun M87 h => ?_)
  refine q_aload_n C dX11_init_203 rfl ?_
  refine x_iconst (v := (1 : Int32)) C dX11_init_204 (by decide) ?_
  refine x_putI (ci := 11) (j := 17) C dX11_init_205 lkF_X11_113 (fun r hr => by cases hr; rfl) rfl h (fun M88 h => ?_)
  refine q_aload_n C dX11_init_208 rfl ?_
  refine x_iconst (v := (0 : Int32)) C dX11_init_209 (by decide) ?_
  refine x_putZ (ci := 11) (j := 18) C dX11_init_210 lkF_X11_116 (fun r hr => by cases hr; rfl) rfl h (fun M89 h => ?_)
  refine q_aload_n C dX11_init_213 rfl ?_
  refine x_lconst (v := (0 : Int64)) C dX11_init_214 (by decide) ?_
  refine x_putL (ci := 11) (j := 19) C dX11_init_215 lkF_X11_120 (fun r hr => by cases hr; rfl) rfl h (fun M90 h => ?_)
  exact q_vret C dX11_init_218 rfl (by decide) (by decide) (Option.some.inj h)
