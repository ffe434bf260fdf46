noncomputable def F_X2_seekBest (l0 : Nat) (l1 : Nat) (l2 : Int32) (M : q_Mem) : Option (Unit × q_Mem) := (q_gR M l0 2 4 (fun c1 => q_nn c1 (fun r2 => (q_lR M 5 r2 (0 : Int32) (fun c3 => q_nn c3 (fun r4 => (q_ob M r4 8 ((F_X8_copyFrom r4 l1 M).bind (fun x => match x with | (_, M6) => (q_pI M6 l0 2 8 (0 : Int32) (fun M7 => (q_pI M7 l0 2 9 (-1000000 : Int32) (fun M8 => (q_ob M8 l0 2 ((R_X2_tryRows 60 0 l0 (0 : Int32) l2 (0 : Int32) M8).bind (fun x => match x with | (_, M10) => some ((), M10)))))))))))))))))
set_option maxRecDepth 100000 in
set_option maxHeartbeats 4000000 in
theorem c_X2_seekBest (l : Launch) (G : q_G) (l0 : Nat) (l1 : Nat) (l2 : Int32) (M : q_Mem) {r : Unit} {M' : q_Mem} (h : F_X2_seekBest l0 l1 l2 M = some (r, M')) : q_Met l G yX2_seekBest cX2_seekBest 3 (Option.none : Option Jvm.ClassFile.FieldType) 67 0 0 [.ref l0, .ref l1, .int l2] M none M' := by
  unfold F_X2_seekBest at h
  refine q_enter [some (.ref l0), some (.ref l1), some (.int l2)] (by decide) (Nat.le_of_ble_eq_true rfl) rfl (fun K C => ?_)
  refine q_aload_n C dX2_seekBest_0 rfl ?_
  refine x_getR (ci := 2) (j := 4) C dX2_seekBest_1 lkF_X2_18 rfl h (fun c1 h => ?_)
  refine x_nn h (fun r2 h => ?_)
  refine x_iconst (v := (0 : Int32)) C dX2_seekBest_4 (by decide) ?_
  refine x_aald C dX2_seekBest_5 (by decide) h (fun c3 h => ?_)
  refine x_nn h (fun r4 h => ?_)
  refine q_aload_n C dX2_seekBest_6 rfl ?_
  obtain ⟨hk, h⟩ := q_obE h
  obtain ⟨⟨_, M6⟩, e1, h⟩ := q_bind h
  refine x_callVv0 C dX2_seekBest_7 lkM_X2_57 mV_X8_copyFrom ⟨_, rfl, rfl⟩ hk (c_X8_copyFrom _ _ _ _ _ e1) rfl rfl (Nat.le_of_ble_eq_true rfl) (by decide) (by decide) ?_
  refine q_aload_n C dX2_seekBest_10 rfl ?_
  refine x_iconst (v := (0 : Int32)) C dX2_seekBest_11 (by decide) ?_
  refine x_putI (ci := 2) (j := 8) C dX2_seekBest_12 lkF_X2_33 (fun r hr => by cases hr; rfl) rfl h (fun M7 h => ?_)
  refine q_aload_n C dX2_seekBest_15 rfl ?_
  refine q_ldc (v := (-1000000 : Int32)) C dX2_seekBest_16 wd_929 ?_
  refine x_putI (ci := 2) (j := 9) C dX2_seekBest_18 lkF_X2_36 (fun r hr => by cases hr; rfl) rfl h (fun M8 h => ?_)
  refine q_aload_n C dX2_seekBest_21 rfl ?_
  refine x_iconst (v := (0 : Int32)) C dX2_seekBest_22 (by decide) ?_
  refine q_iload_n C dX2_seekBest_23 rfl ?_
  refine x_iconst (v := (0 : Int32)) C dX2_seekBest_24 (by decide) ?_
  obtain ⟨hk, h⟩ := q_obE h
  obtain ⟨⟨_, M10⟩, e1, h⟩ := q_bind h
  refine x_callVv0 C dX2_seekBest_25 lkM_X2_89 mV_X2_tryRows ⟨_, rfl, rfl⟩ hk (c_X2_tryRows _ _ _ _ _ _ _ e1) rfl rfl (Nat.le_of_ble_eq_true rfl) (by decide) (by decide) ?_
  exact q_vret C dX2_seekBest_28 rfl (by decide) (by decide) (Option.some.inj h)
noncomputable def J_X2_fewestMadeUp_72_10 (l0 : Nat) (l1 : Nat) (l2 : Int32) (l3 : Int32) (M : q_Mem) : Option ((Int32 × q_Mem) ⊕ ((Int32 × q_Mem) ⊕ (q_Mem))) := some (.inl ((l3 + (1 : Int32)), M))
set_option maxRecDepth 100000 in
set_option maxHeartbeats 4000000 in
theorem jW_X2_fewestMadeUp_72_10 {K : q_K} {Q : State → Prop} (C : q_C K yX2_fewestMadeUp cX2_fewestMadeUp 4 (Option.some Jvm.ClassFile.FieldType.int) 4 0 0) (l0 : Nat) (l1 : Nat) (l2 : Int32) (l3 : Int32) (M : q_Mem) {stp : (Int32 × q_Mem) ⊕ ((Int32 × q_Mem) ⊕ (q_Mem))} (h : J_X2_fewestMadeUp_72_10 l0 l1 l2 l3 M = some stp) (kC : ∀ (l3 : Int32) (M : q_Mem), stp = .inl (l3, M) → q_W K 4 Q 0 0 M 10 [some (.ref l0), some (.ref l1), some (.int l2), some (.int l3)] []) (kE0 : ∀ (l3 : Int32) (M : q_Mem), stp = .inr (.inl (l3, M)) → q_W K 4 Q 0 0 M 70 [none, none, none, some (.int l3)] []) (kE1 : ∀ (M : q_Mem), stp = .inr (.inr M) → q_W K 4 Q 0 0 M 78 [none, none, none, none] []) : q_W K 4 Q 0 0 M 72 [some (.ref l0), some (.ref l1), some (.int l2), some (.int l3)] [] := by
  unfold J_X2_fewestMadeUp_72_10 at h
  refine x_iinc (w := (1 : Int32)) (L' := [some (.ref l0), some (.ref l1), some (.int l2), some (.int (l3 + (1 : Int32)))]) C dX2_fewestMadeUp_72 rfl (by decide) (by decide) rfl rfl ?_
  refine q_goto (tgt := 10) C dX2_fewestMadeUp_75 (by decide) ?_
  exact q_msk [true, true, true, true] (kC _ _ (Option.some.inj h).symm)
noncomputable def B_X2_fewestMadeUp_10 (l0 : Nat) (l1 : Nat) (l2 : Int32) (l3 : Int32) (M : q_Mem) : Option ((Int32 × q_Mem) ⊕ ((Int32 × q_Mem) ⊕ (q_Mem))) := (q_gR M l1 8 0 (fun c5 => q_nn c5 (fun r6 => (q_lI M 0 r6 (1 : Int32) (fun v7 => (if v7 < l3 then some (.inr (.inr M)) else (q_gR M l0 2 3 (fun c8 => q_nn c8 (fun r9 => (q_gR M r9 8 0 (fun c10 => q_nn c10 (fun r11 => (q_gR M l1 8 0 (fun c12 => q_nn c12 (fun r13 => (q_lI M 0 r13 (1 : Int32) (fun v14 => (q_tI M r11 (1 : Int32) (v14 - l3) (fun M15 => (q_gR M15 l0 2 1 (fun c16 => q_nn c16 (fun r17 => (q_gR M15 l0 2 3 (fun c18 => q_nn c18 (fun r19 => (q_ob M15 r17 1 ((F_X1_lay r17 r19 M15).bind (fun x => match x with | (_, M21) => (q_gR M21 l0 2 1 (fun c22 => q_nn c22 (fun r23 => (q_gI M21 r23 1 7 (fun v24 => (if v24 = (-1 : Int32) then J_X2_fewestMadeUp_72_10 l0 l1 l2 l3 M21 else (q_gR M21 l0 2 1 (fun c25 => q_nn c25 (fun r26 => (q_gI M21 r26 1 8 (fun v27 => (if v27 < l2 then J_X2_fewestMadeUp_72_10 l0 l1 l2 l3 M21 else some (.inr (.inl (l3, M21)))))))))))))))))))))))))))))))))))))))))))
set_option maxRecDepth 100000 in
set_option maxHeartbeats 4000000 in
theorem bW_X2_fewestMadeUp_10 {K : q_K} {Q : State → Prop} (C : q_C K yX2_fewestMadeUp cX2_fewestMadeUp 4 (Option.some Jvm.ClassFile.FieldType.int) 4 0 0) (l0 : Nat) (l1 : Nat) (l2 : Int32) (l3 : Int32) (M : q_Mem) {stp : (Int32 × q_Mem) ⊕ ((Int32 × q_Mem) ⊕ (q_Mem))} (h : B_X2_fewestMadeUp_10 l0 l1 l2 l3 M = some stp) (kC : ∀ (l3 : Int32) (M : q_Mem), stp = .inl (l3, M) → q_W K 4 Q 0 0 M 10 [some (.ref l0), some (.ref l1), some (.int l2), some (.int l3)] []) (kE0 : ∀ (l3 : Int32) (M : q_Mem), stp = .inr (.inl (l3, M)) → q_W K 4 Q 0 0 M 70 [none, none, none, some (.int l3)] []) (kE1 : ∀ (M : q_Mem), stp = .inr (.inr M) → q_W K 4 Q 0 0 M 78 [none, none, none, none] []) : q_W K 4 Q 0 0 M 10 [some (.ref l0), some (.ref l1), some (.int l2), some (.int l3)] [] := by
  unfold B_X2_fewestMadeUp_10 at h
  refine q_iload_n C dX2_fewestMadeUp_10 rfl ?_
  refine q_aload_n C dX2_fewestMadeUp_11 rfl ?_
  refine x_getR (ci := 8) (j := 0) C dX2_fewestMadeUp_12 lkF_X2_98 rfl h (fun c5 h => ?_)
  refine x_nn h (fun r6 h => ?_)
  refine x_iconst (v := (1 : Int32)) C dX2_fewestMadeUp_15 (by decide) ?_
  refine x_iald C dX2_fewestMadeUp_16 h (fun v7 h => ?_)
  refine q_icmp_gt (tgt := 78) C dX2_fewestMadeUp_17 (by decide) h (fun _ h => ?_) (fun _ h => ?_)
  · exact q_msk [false, false, false, false] (kE1 _ (Option.some.inj h).symm)
  · refine q_aload_n C dX2_fewestMadeUp_20 rfl ?_
    refine x_getR (ci := 2) (j := 3) C dX2_fewestMadeUp_21 lkF_X2_14 rfl h (fun c8 h => ?_)
    refine x_nn h (fun r9 h => ?_)
    refine x_getR (ci := 8) (j := 0) C dX2_fewestMadeUp_24 lkF_X2_98 rfl h (fun c10 h => ?_)
    refine x_nn h (fun r11 h => ?_)
    refine x_iconst (v := (1 : Int32)) C dX2_fewestMadeUp_27 (by decide) ?_
    refine q_aload_n C dX2_fewestMadeUp_28 rfl ?_
    refine x_getR (ci := 8) (j := 0) C dX2_fewestMadeUp_29 lkF_X2_98 rfl h (fun c12 h => ?_)
    refine x_nn h (fun r13 h => ?_)
    refine x_iconst (v := (1 : Int32)) C dX2_fewestMadeUp_32 (by decide) ?_
    refine x_iald C dX2_fewestMadeUp_33 h (fun v14 h => ?_)
    refine q_iload_n C dX2_fewestMadeUp_34 rfl ?_
    refine q_isub C dX2_fewestMadeUp_35 ?_
    refine x_iast C dX2_fewestMadeUp_36 h (fun M15 h => ?_)
    refine q_aload_n C dX2_fewestMadeUp_37 rfl ?_
    refine x_getR (ci := 2) (j := 1) C dX2_fewestMadeUp_38 lkF_X2_49 rfl h (fun c16 h => ?_)
    refine x_nn h (fun r17 h => ?_)
    refine q_aload_n C dX2_fewestMadeUp_41 rfl ?_
    refine x_getR (ci := 2) (j := 3) C dX2_fewestMadeUp_42 lkF_X2_14 rfl h (fun c18 h => ?_)
    refine x_nn h (fun r19 h => ?_)
    obtain ⟨hk, h⟩ := q_obE h
    obtain ⟨⟨_, M21⟩, e1, h⟩ := q_bind h
    refine x_callVv0 C dX2_fewestMadeUp_45 lkM_X2_85 mV_X1_lay ⟨_, rfl, rfl⟩ hk (c_X1_lay _ _ _ _ _ e1) rfl rfl (Nat.le_of_ble_eq_true rfl) (by decide) (by decide) ?_
    refine q_aload_n C dX2_fewestMadeUp_48 rfl ?_
    refine x_getR (ci := 2) (j := 1) C dX2_fewestMadeUp_49 lkF_X2_49 rfl h (fun c22 h => ?_)
    refine x_nn h (fun r23 h => ?_)
    refine x_getI (ci := 1) (j := 7) C dX2_fewestMadeUp_52 lkF_X2_105 rfl h (fun v24 h => ?_)
    refine x_iconst (v := (-1 : Int32)) C dX2_fewestMadeUp_55 (by decide) ?_
    refine q_icmp_eq (tgt := 72) C dX2_fewestMadeUp_56 (by decide) h (fun _ h => ?_) (fun _ h => ?_)
    · exact q_msk [true, true, true, true] (jW_X2_fewestMadeUp_72_10 C l0 l1 l2 l3 M21 h kC kE0 kE1)
    · refine q_aload_n C dX2_fewestMadeUp_59 rfl ?_
      refine x_getR (ci := 2) (j := 1) C dX2_fewestMadeUp_60 lkF_X2_49 rfl h (fun c25 h => ?_)
      refine x_nn h (fun r26 h => ?_)
      refine x_getI (ci := 1) (j := 8) C dX2_fewestMadeUp_63 lkF_X2_108 rfl h (fun v27 h => ?_)
      refine q_iload_n C dX2_fewestMadeUp_66 rfl ?_
      refine q_icmp_lt (tgt := 72) C dX2_fewestMadeUp_67 (by decide) h (fun _ h => ?_) (fun _ h => ?_)
      · exact q_msk [true, true, true, true] (jW_X2_fewestMadeUp_72_10 C l0 l1 l2 l3 M21 h kC kE0 kE1)
      · exact q_msk [false, false, false, true] (kE0 _ _ (Option.some.inj h).symm)
set_option maxRecDepth 100000 in
set_option maxHeartbeats 4000000 in
theorem lW_X2_fewestMadeUp_10 {K : q_K} {Q : State → Prop} (C : q_C K yX2_fewestMadeUp cX2_fewestMadeUp 4 (Option.some Jvm.ClassFile.FieldType.int) 4 0 0) (l0 : Nat) (l1 : Nat) (l2 : Int32) (n : Nat) : ∀ (l3 : Int32) (M : q_Mem) (e : ((Int32 × q_Mem) ⊕ (q_Mem))), q_lp (fun s => B_X2_fewestMadeUp_10 l0 l1 l2 s.1 s.2) n (l3, M) = some e → (∀ (l3 : Int32) (M : q_Mem), e = (.inl (l3, M)) → q_W K 4 Q 0 0 M 70 [none, none, none, some (.int l3)] []) → (∀ (M : q_Mem), e = (.inr M) → q_W K 4 Q 0 0 M 78 [none, none, none, none] []) → q_W K 4 Q 0 0 M 10 [some (.ref l0), some (.ref l1), some (.int l2), some (.int l3)] [] := by
  induction n with
  | zero => intro l3 M e h; cases h
  | succ n ih =>
    intro l3 M e h kE0 kE1
    obtain ⟨stp, e1, e2⟩ := q_bind h
    refine bW_X2_fewestMadeUp_10 C l0 l1 l2 l3 M e1 (fun a0 a1 hs => ?_) (fun b0 b1 hs => ?_) (fun b0 hs => ?_)
    · subst hs; exact ih _ _ _ e2 kE0 kE1
    · subst hs; exact kE0 _ _ (Option.some.inj e2).symm
    · subst hs; exact kE1 _ (Option.some.inj e2).symm
noncomputable def F_X2_fewestMadeUp (l0 : Nat) (l1 : Nat) (l2 : Int32) (M : q_Mem) : Option (Int32 × q_Mem) := (q_gR M l0 2 3 (fun c1 => q_nn c1 (fun r2 => (q_ob M r2 8 ((F_X8_copyFrom r2 l1 M).bind (fun x => match x with | (_, M4) => (q_lp (fun s => B_X2_fewestMadeUp_10 l0 l1 l2 s.1 s.2) q_fu ((0 : Int32), M4)).bind (fun e28 => match e28 with | .inl (w29, M30) => some (w29, M30) | .inr M31 => some ((-1 : Int32), M31))))))))
set_option maxRecDepth 100000 in
set_option maxHeartbeats 4000000 in
theorem c_X2_fewestMadeUp (l : Launch) (G : q_G) (l0 : Nat) (l1 : Nat) (l2 : Int32) (M : q_Mem) {r : Int32} {M' : q_Mem} (h : F_X2_fewestMadeUp l0 l1 l2 M = some (r, M')) : q_Met l G yX2_fewestMadeUp cX2_fewestMadeUp 4 (Option.some Jvm.ClassFile.FieldType.int) 4 0 0 [.ref l0, .ref l1, .int l2] M (some (.int r)) M' := by
  unfold F_X2_fewestMadeUp at h
  refine q_enter [some (.ref l0), some (.ref l1), some (.int l2), none] (by decide) (Nat.le_of_ble_eq_true rfl) rfl (fun K C => ?_)
  refine q_aload_n C dX2_fewestMadeUp_0 rfl ?_
  refine x_getR (ci := 2) (j := 3) C dX2_fewestMadeUp_1 lkF_X2_14 rfl h (fun c1 h => ?_)
  refine x_nn h (fun r2 h => ?_)
  refine q_aload_n C dX2_fewestMadeUp_4 rfl ?_
  obtain ⟨hk, h⟩ := q_obE h
  obtain ⟨⟨_, M4⟩, e1, h⟩ := q_bind h
  refine x_callVv0 C dX2_fewestMadeUp_5 lkM_X2_57 mV_X8_copyFrom ⟨_, rfl, rfl⟩ hk (c_X8_copyFrom _ _ _ _ _ e1) rfl rfl (Nat.le_of_ble_eq_true rfl) (by decide) (by decide) ?_
  refine x_iconst (v := (0 : Int32)) C dX2_fewestMadeUp_8 (by decide) ?_
  refine q_istore_n (L' := [some (.ref l0), some (.ref l1), some (.int l2), some (.int (0 : Int32))]) C dX2_fewestMadeUp_9 (by decide) rfl rfl ?_
  obtain ⟨e28, he, h⟩ := q_bind h
  refine q_msk [true, true, true, true] (lW_X2_fewestMadeUp_10 C l0 l1 l2 q_fu _ _ _ he (fun w29 M30 hs => ?_) (fun M31 hs => ?_))
  · have hs := hs.symm
    subst hs
    refine q_iload_n C dX2_fewestMadeUp_70 rfl ?_
    exact q_iret C dX2_fewestMadeUp_71 rfl (by decide) (by decide) (Option.some.inj h)
  · have hs := hs.symm
    subst hs
    refine x_iconst (v := (-1 : Int32)) C dX2_fewestMadeUp_78 (by decide) ?_
    exact q_iret C dX2_fewestMadeUp_79 rfl (by decide) (by decide) (Option.some.inj h)
noncomputable def B_X2_daysToLeaving_10 (l0 : Nat) (l2 : Int32) (l3 : Int32) (M : q_Mem) : Option ((Int32 × q_Mem) ⊕ ((Int32 × q_Mem) ⊕ (q_Mem))) := (if (60 : Int32) < l3 then some (.inr (.inr M)) else (q_gR M l0 2 1 (fun c5 => q_nn c5 (fun r6 => (q_gR M l0 2 3 (fun c7 => q_nn c7 (fun r8 => (q_ob M r6 1 ((F_X1_pass r6 r8 M).bind (fun x => match x with | (_, M10) => (q_gR M10 l0 2 3 (fun c11 => q_nn c11 (fun r12 => (q_ob M10 r12 8 ((F_X8_hasLeft r12 l2 M10).bind (fun u13 => (if u13 = 0 then some (.inl ((l3 + (1 : Int32)), M10)) else some (.inr (.inl (l3, M10))))))))))))))))))))
set_option maxRecDepth 100000 in
set_option maxHeartbeats 4000000 in
theorem bW_X2_daysToLeaving_10 {K : q_K} {Q : State → Prop} (C : q_C K yX2_daysToLeaving cX2_daysToLeaving 4 (Option.some Jvm.ClassFile.FieldType.int) 6 0 0) (l0 : Nat) (l2 : Int32) (l3 : Int32) (M : q_Mem) {stp : (Int32 × q_Mem) ⊕ ((Int32 × q_Mem) ⊕ (q_Mem))} (h : B_X2_daysToLeaving_10 l0 l2 l3 M = some stp) (kC : ∀ (l3 : Int32) (M : q_Mem), stp = .inl (l3, M) → q_W K 4 Q 0 0 M 10 [some (.ref l0), none, some (.int l2), some (.int l3)] []) (kE0 : ∀ (l3 : Int32) (M : q_Mem), stp = .inr (.inl (l3, M)) → q_W K 4 Q 0 0 M 38 [none, none, none, some (.int l3)] []) (kE1 : ∀ (M : q_Mem), stp = .inr (.inr M) → q_W K 4 Q 0 0 M 46 [none, none, none, none] []) : q_W K 4 Q 0 0 M 10 [some (.ref l0), none, some (.int l2), some (.int l3)] [] := by
  unfold B_X2_daysToLeaving_10 at h
  refine q_iload_n C dX2_daysToLeaving_10 rfl ?_
  refine x_bipush (v := (60 : Int32)) C dX2_daysToLeaving_11 (by decide) ?_
  refine q_icmp_gt (tgt := 46) C dX2_daysToLeaving_13 (by decide) h (fun _ h => ?_) (fun _ h => ?_)
  · exact q_msk [false, false, false, false] (kE1 _ (Option.some.inj h).symm)
  · refine q_aload_n C dX2_daysToLeaving_16 rfl ?_
    refine x_getR (ci := 2) (j := 1) C dX2_daysToLeaving_17 lkF_X2_49 rfl h (fun c5 h => ?_)
    refine x_nn h (fun r6 h => ?_)
    refine q_aload_n C dX2_daysToLeaving_20 rfl ?_
    refine x_getR (ci := 2) (j := 3) C dX2_daysToLeaving_21 lkF_X2_14 rfl h (fun c7 h => ?_)
    refine x_nn h (fun r8 h => ?_)
    obtain ⟨hk, h⟩ := q_obE h
    obtain ⟨⟨_, M10⟩, e1, h⟩ := q_bind h
    refine x_callVv0 C dX2_daysToLeaving_24 lkM_X2_80 mV_X1_pass ⟨_, rfl, rfl⟩ hk (c_X1_pass _ _ _ _ _ e1) rfl rfl (Nat.le_of_ble_eq_true rfl) (by decide) (by decide) ?_
    refine q_aload_n C dX2_daysToLeaving_27 rfl ?_
    refine x_getR (ci := 2) (j := 3) C dX2_daysToLeaving_28 lkF_X2_14 rfl h (fun c11 h => ?_)
    refine x_nn h (fun r12 h => ?_)
    refine q_iload_n C dX2_daysToLeaving_31 rfl ?_
    obtain ⟨hk, h⟩ := q_obE h
    obtain ⟨u13, e1, h⟩ := q_bind h
    refine x_callV0 C dX2_daysToLeaving_32 lkM_X2_111 mV_X8_hasLeft ⟨_, rfl, rfl⟩ hk (c_X8_hasLeft _ _ _ _ _ e1) rfl rfl (Nat.le_of_ble_eq_true rfl) (by decide) (by decide) ?_
    refine q_if_eq (tgt := 40) C dX2_daysToLeaving_35 (by decide) h (fun _ h => ?_) (fun _ h => ?_)
    · refine x_iinc (w := (1 : Int32)) (L' := [some (.ref l0), none, some (.int l2), some (.int (l3 + (1 : Int32)))]) C dX2_daysToLeaving_40 rfl (by decide) (by decide) rfl rfl ?_
      refine q_goto (tgt := 10) C dX2_daysToLeaving_43 (by decide) ?_
      exact q_msk [true, false, true, true] (kC _ _ (Option.some.inj h).symm)
    · exact q_msk [false, false, false, true] (kE0 _ _ (Option.some.inj h).symm)
set_option maxRecDepth 100000 in
set_option maxHeartbeats 4000000 in
theorem lW_X2_daysToLeaving_10 {K : q_K} {Q : State → Prop} (C : q_C K yX2_daysToLeaving cX2_daysToLeaving 4 (Option.some Jvm.ClassFile.FieldType.int) 6 0 0) (l0 : Nat) (l2 : Int32) (n : Nat) : ∀ (l3 : Int32) (M : q_Mem) (e : ((Int32 × q_Mem) ⊕ (q_Mem))), q_lp (fun s => B_X2_daysToLeaving_10 l0 l2 s.1 s.2) n (l3, M) = some e → (∀ (l3 : Int32) (M : q_Mem), e = (.inl (l3, M)) → q_W K 4 Q 0 0 M 38 [none, none, none, some (.int l3)] []) → (∀ (M : q_Mem), e = (.inr M) → q_W K 4 Q 0 0 M 46 [none, none, none, none] []) → q_W K 4 Q 0 0 M 10 [some (.ref l0), none, some (.int l2), some (.int l3)] [] := by
  induction n with
  | zero => intro l3 M e h; cases h
  | succ n ih =>
    intro l3 M e h kE0 kE1
    obtain ⟨stp, e1, e2⟩ := q_bind h
    refine bW_X2_daysToLeaving_10 C l0 l2 l3 M e1 (fun a0 a1 hs => ?_) (fun b0 b1 hs => ?_) (fun b0 hs => ?_)
    · subst hs; exact ih _ _ _ e2 kE0 kE1
    · subst hs; exact kE0 _ _ (Option.some.inj e2).symm
    · subst hs; exact kE1 _ (Option.some.inj e2).symm
noncomputable def F_X2_daysToLeaving (l0 : Nat) (l1 : Nat) (l2 : Int32) (M : q_Mem) : Option (Int32 × q_Mem) := (q_gR M l0 2 3 (fun c1 => q_nn c1 (fun r2 => (q_ob M r2 8 ((F_X8_copyFrom r2 l1 M).bind (fun x => match x with | (_, M4) => (q_lp (fun s => B_X2_daysToLeaving_10 l0 l2 s.1 s.2) q_fu ((1 : Int32), M4)).bind (fun e14 => match e14 with | .inl (w15, M16) => some (w15, M16) | .inr M17 => some ((-1 : Int32), M17))))))))
set_option maxRecDepth 100000 in
set_option maxHeartbeats 4000000 in
theorem c_X2_daysToLeaving (l : Launch) (G : q_G) (l0 : Nat) (l1 : Nat) (l2 : Int32) (M : q_Mem) {r : Int32} {M' : q_Mem} (h : F_X2_daysToLeaving l0 l1 l2 M = some (r, M')) : q_Met l G yX2_daysToLeaving cX2_daysToLeaving 4 (Option.some Jvm.ClassFile.FieldType.int) 6 0 0 [.ref l0, .ref l1, .int l2] M (some (.int r)) M' := by
  unfold F_X2_daysToLeaving at h
  refine q_enter [some (.ref l0), some (.ref l1), some (.int l2), none] (by decide) (Nat.le_of_ble_eq_true rfl) rfl (fun K C => ?_)
  refine q_aload_n C dX2_daysToLeaving_0 rfl ?_
  refine x_getR (ci := 2) (j := 3) C dX2_daysToLeaving_1 lkF_X2_14 rfl h (fun c1 h => ?_)
  refine x_nn h (fun r2 h => ?_)
  refine q_aload_n C dX2_daysToLeaving_4 rfl ?_
  obtain ⟨hk, h⟩ := q_obE h
  obtain ⟨⟨_, M4⟩, e1, h⟩ := q_bind h
  refine x_callVv0 C dX2_daysToLeaving_5 lkM_X2_57 mV_X8_copyFrom ⟨_, rfl, rfl⟩ hk (c_X8_copyFrom _ _ _ _ _ e1) rfl rfl (Nat.le_of_ble_eq_true rfl) (by decide) (by decide) ?_
  refine x_iconst (v := (1 : Int32)) C dX2_daysToLeaving_8 (by decide) ?_
  refine q_istore_n (L' := [some (.ref l0), some (.ref l1), some (.int l2), some (.int (1 : Int32))]) C dX2_daysToLeaving_9 (by decide) rfl rfl ?_
  obtain ⟨e14, he, h⟩ := q_bind h
  refine q_msk [true, false, true, true] (lW_X2_daysToLeaving_10 C l0 l2 q_fu _ _ _ he (fun w15 M16 hs => ?_) (fun M17 hs => ?_))
  · have hs := hs.symm
    subst hs
    refine q_iload_n C dX2_daysToLeaving_38 rfl ?_
    exact q_iret C dX2_daysToLeaving_39 rfl (by decide) (by decide) (Option.some.inj h)
  · have hs := hs.symm
    subst hs
    refine x_iconst (v := (-1 : Int32)) C dX2_daysToLeaving_46 (by decide) ?_
    exact q_iret C dX2_daysToLeaving_47 rfl (by decide) (by decide) (Option.some.inj h)
noncomputable def J_X2_daysToNothing_49_10 (l0 : Nat) (l2 : Int32) (M : q_Mem) : Option ((Int32 × q_Mem) ⊕ ((Int32 × q_Mem) ⊕ (q_Mem))) := some (.inl ((l2 + (1 : Int32)), M))
set_option maxRecDepth 100000 in
set_option maxHeartbeats 4000000 in
theorem jW_X2_daysToNothing_49_10 {K : q_K} {Q : State → Prop} (C : q_C K yX2_daysToNothing cX2_daysToNothing 3 (Option.some Jvm.ClassFile.FieldType.int) 6 0 0) (l0 : Nat) (l2 : Int32) (M : q_Mem) {stp : (Int32 × q_Mem) ⊕ ((Int32 × q_Mem) ⊕ (q_Mem))} (h : J_X2_daysToNothing_49_10 l0 l2 M = some stp) (kC : ∀ (l2 : Int32) (M : q_Mem), stp = .inl (l2, M) → q_W K 3 Q 0 0 M 10 [some (.ref l0), none, some (.int l2)] []) (kE0 : ∀ (l2 : Int32) (M : q_Mem), stp = .inr (.inl (l2, M)) → q_W K 3 Q 0 0 M 47 [none, none, some (.int l2)] []) (kE1 : ∀ (M : q_Mem), stp = .inr (.inr M) → q_W K 3 Q 0 0 M 55 [none, none, none] []) : q_W K 3 Q 0 0 M 49 [some (.ref l0), none, some (.int l2)] [] := by
  unfold J_X2_daysToNothing_49_10 at h
  refine x_iinc (w := (1 : Int32)) (L' := [some (.ref l0), none, some (.int (l2 + (1 : Int32)))]) C dX2_daysToNothing_49 rfl (by decide) (by decide) rfl rfl ?_
  refine q_goto (tgt := 10) C dX2_daysToNothing_52 (by decide) ?_
  exact q_msk [true, false, true] (kC _ _ (Option.some.inj h).symm)
noncomputable def B_X2_daysToNothing_10 (l0 : Nat) (l2 : Int32) (M : q_Mem) : Option ((Int32 × q_Mem) ⊕ ((Int32 × q_Mem) ⊕ (q_Mem))) := (if (60 : Int32) < l2 then some (.inr (.inr M)) else (q_gR M l0 2 1 (fun c5 => q_nn c5 (fun r6 => (q_gR M l0 2 3 (fun c7 => q_nn c7 (fun r8 => (q_ob M r6 1 ((F_X1_pass r6 r8 M).bind (fun x => match x with | (_, M10) => (q_gR M10 l0 2 1 (fun c11 => q_nn c11 (fun r12 => (q_gI M10 r12 1 4 (fun v13 => (if v13 = 0 then J_X2_daysToNothing_49_10 l0 l2 M10 else (q_gR M10 l0 2 1 (fun c14 => q_nn c14 (fun r15 => (q_gI M10 r15 1 10 (fun v16 => (if v16 = 0 then some (.inr (.inl (l2, M10))) else J_X2_daysToNothing_49_10 l0 l2 M10))))))))))))))))))))))
set_option maxRecDepth 100000 in
set_option maxHeartbeats 4000000 in
theorem bW_X2_daysToNothing_10 {K : q_K} {Q : State → Prop} (C : q_C K yX2_daysToNothing cX2_daysToNothing 3 (Option.some Jvm.ClassFile.FieldType.int) 6 0 0) (l0 : Nat) (l2 : Int32) (M : q_Mem) {stp : (Int32 × q_Mem) ⊕ ((Int32 × q_Mem) ⊕ (q_Mem))} (h : B_X2_daysToNothing_10 l0 l2 M = some stp) (kC : ∀ (l2 : Int32) (M : q_Mem), stp = .inl (l2, M) → q_W K 3 Q 0 0 M 10 [some (.ref l0), none, some (.int l2)] []) (kE0 : ∀ (l2 : Int32) (M : q_Mem), stp = .inr (.inl (l2, M)) → q_W K 3 Q 0 0 M 47 [none, none, some (.int l2)] []) (kE1 : ∀ (M : q_Mem), stp = .inr (.inr M) → q_W K 3 Q 0 0 M 55 [none, none, none] []) : q_W K 3 Q 0 0 M 10 [some (.ref l0), none, some (.int l2)] [] := by
  unfold B_X2_daysToNothing_10 at h
  refine q_iload_n C dX2_daysToNothing_10 rfl ?_
  refine x_bipush (v := (60 : Int32)) C dX2_daysToNothing_11 (by decide) ?_
  refine q_icmp_gt (tgt := 55) C dX2_daysToNothing_13 (by decide) h (fun _ h => ?_) (fun _ h => ?_)
  · exact q_msk [false, false, false] (kE1 _ (Option.some.inj h).symm)
  · refine q_aload_n C dX2_daysToNothing_16 rfl ?_
    refine x_getR (ci := 2) (j := 1) C dX2_daysToNothing_17 lkF_X2_49 rfl h (fun c5 h => ?_)
    refine x_nn h (fun r6 h => ?_)
    refine q_aload_n C dX2_daysToNothing_20 rfl ?_
    refine x_getR (ci := 2) (j := 3) C dX2_daysToNothing_21 lkF_X2_14 rfl h (fun c7 h => ?_)
    refine x_nn h (fun r8 h => ?_)
    obtain ⟨hk, h⟩ := q_obE h
    obtain ⟨⟨_, M10⟩, e1, h⟩ := q_bind h
    refine x_callVv0 C dX2_daysToNothing_24 lkM_X2_80 mV_X1_pass ⟨_, rfl, rfl⟩ hk (c_X1_pass _ _ _ _ _ e1) rfl rfl (Nat.le_of_ble_eq_true rfl) (by decide) (by decide) ?_
    refine q_aload_n C dX2_daysToNothing_27 rfl ?_
    refine x_getR (ci := 2) (j := 1) C dX2_daysToNothing_28 lkF_X2_49 rfl h (fun c11 h => ?_)
    refine x_nn h (fun r12 h => ?_)
    refine x_getI (ci := 1) (j := 4) C dX2_daysToNothing_31 lkF_X2_115 rfl h (fun v13 h => ?_)
    refine q_if_eq (tgt := 49) C dX2_daysToNothing_34 (by decide) h (fun _ h => ?_) (fun _ h => ?_)
    · exact q_msk [true, false, true] (jW_X2_daysToNothing_49_10 C l0 l2 M10 h kC kE0 kE1)
    · refine q_aload_n C dX2_daysToNothing_37 rfl ?_
      refine x_getR (ci := 2) (j := 1) C dX2_daysToNothing_38 lkF_X2_49 rfl h (fun c14 h => ?_)
      refine x_nn h (fun r15 h => ?_)
      refine x_getI (ci := 1) (j := 10) C dX2_daysToNothing_41 lkF_X2_118 rfl h (fun v16 h => ?_)
      refine q_if_ne (tgt := 49) C dX2_daysToNothing_44 (by decide) h (fun _ h => ?_) (fun _ h => ?_)
      · exact q_msk [false, false, true] (kE0 _ _ (Option.some.inj h).symm)
      · exact q_msk [true, false, true] (jW_X2_daysToNothing_49_10 C l0 l2 M10 h kC kE0 kE1)
set_option maxRecDepth 100000 in
set_option maxHeartbeats 4000000 in
theorem lW_X2_daysToNothing_10 {K : q_K} {Q : State → Prop} (C : q_C K yX2_daysToNothing cX2_daysToNothing 3 (Option.some Jvm.ClassFile.FieldType.int) 6 0 0) (l0 : Nat) (n : Nat) : ∀ (l2 : Int32) (M : q_Mem) (e : ((Int32 × q_Mem) ⊕ (q_Mem))), q_lp (fun s => B_X2_daysToNothing_10 l0 s.1 s.2) n (l2, M) = some e → (∀ (l2 : Int32) (M : q_Mem), e = (.inl (l2, M)) → q_W K 3 Q 0 0 M 47 [none, none, some (.int l2)] []) → (∀ (M : q_Mem), e = (.inr M) → q_W K 3 Q 0 0 M 55 [none, none, none] []) → q_W K 3 Q 0 0 M 10 [some (.ref l0), none, some (.int l2)] [] := by
  induction n with
  | zero => intro l2 M e h; cases h
  | succ n ih =>
    intro l2 M e h kE0 kE1
    obtain ⟨stp, e1, e2⟩ := q_bind h
    refine bW_X2_daysToNothing_10 C l0 l2 M e1 (fun a0 a1 hs => ?_) (fun b0 b1 hs => ?_) (fun b0 hs => ?_)
    · subst hs; exact ih _ _ _ e2 kE0 kE1
    · subst hs; exact kE0 _ _ (Option.some.inj e2).symm
    · subst hs; exact kE1 _ (Option.some.inj e2).symm
noncomputable def F_X2_daysToNothing (l0 : Nat) (l1 : Nat) (M : q_Mem) : Option (Int32 × q_Mem) := (q_gR M l0 2 3 (fun c1 => q_nn c1 (fun r2 => (q_ob M r2 8 ((F_X8_copyFrom r2 l1 M).bind (fun x => match x with | (_, M4) => (q_lp (fun s => B_X2_daysToNothing_10 l0 s.1 s.2) q_fu ((0 : Int32), M4)).bind (fun e17 => match e17 with | .inl (w18, M19) => some (w18, M19) | .inr M20 => some ((-1 : Int32), M20))))))))
set_option maxRecDepth 100000 in
set_option maxHeartbeats 4000000 in
theorem c_X2_daysToNothing (l : Launch) (G : q_G) (l0 : Nat) (l1 : Nat) (M : q_Mem) {r : Int32} {M' : q_Mem} (h : F_X2_daysToNothing l0 l1 M = some (r, M')) : q_Met l G yX2_daysToNothing cX2_daysToNothing 3 (Option.some Jvm.ClassFile.FieldType.int) 6 0 0 [.ref l0, .ref l1] M (some (.int r)) M' := by
  unfold F_X2_daysToNothing at h
  refine q_enter [some (.ref l0), some (.ref l1), none] (by decide) (Nat.le_of_ble_eq_true rfl) rfl (fun K C => ?_)
  refine q_aload_n C dX2_daysToNothing_0 rfl ?_
  refine x_getR (ci := 2) (j := 3) C dX2_daysToNothing_1 lkF_X2_14 rfl h (fun c1 h => ?_)
  refine x_nn h (fun r2 h => ?_)
  refine q_aload_n C dX2_daysToNothing_4 rfl ?_
  obtain ⟨hk, h⟩ := q_obE h
  obtain ⟨⟨_, M4⟩, e1, h⟩ := q_bind h
  refine x_callVv0 C dX2_daysToNothing_5 lkM_X2_57 mV_X8_copyFrom ⟨_, rfl, rfl⟩ hk (c_X8_copyFrom _ _ _ _ _ e1) rfl rfl (Nat.le_of_ble_eq_true rfl) (by decide) (by decide) ?_
  refine x_iconst (v := (0 : Int32)) C dX2_daysToNothing_8 (by decide) ?_
  refine q_istore_n (L' := [some (.ref l0), some (.ref l1), some (.int (0 : Int32))]) C dX2_daysToNothing_9 (by decide) rfl rfl ?_
  obtain ⟨e17, he, h⟩ := q_bind h
  refine q_msk [true, false, true] (lW_X2_daysToNothing_10 C l0 q_fu _ _ _ he (fun w18 M19 hs => ?_) (fun M20 hs => ?_))
  · have hs := hs.symm
    subst hs
    refine q_iload_n C dX2_daysToNothing_47 rfl ?_
    exact q_iret C dX2_daysToNothing_48 rfl (by decide) (by decide) (Option.some.inj h)
  · have hs := hs.symm
    subst hs
    refine x_iconst (v := (-1 : Int32)) C dX2_daysToNothing_55 (by decide) ?_
    exact q_iret C dX2_daysToNothing_56 rfl (by decide) (by decide) (Option.some.inj h)
noncomputable def J_X2_fullestDay_55_15 (l0 : Nat) (l2 : Int32) (l3 : Int32) (l4 : Int32) (M : q_Mem) : Option ((Int32 × Int32 × Int32 × q_Mem) ⊕ (Int32 × q_Mem)) := some (.inl (l2, l3, (l4 + (1 : Int32)), M))
set_option maxRecDepth 100000 in
set_option maxHeartbeats 4000000 in
theorem jW_X2_fullestDay_55_15 {K : q_K} {Q : State → Prop} (C : q_C K yX2_fullestDay cX2_fullestDay 5 (Option.some Jvm.ClassFile.FieldType.int) 6 0 0) (l0 : Nat) (l2 : Int32) (l3 : Int32) (l4 : Int32) (M : q_Mem) {stp : (Int32 × Int32 × Int32 × q_Mem) ⊕ (Int32 × q_Mem)} (h : J_X2_fullestDay_55_15 l0 l2 l3 l4 M = some stp) (kC : ∀ (l2 : Int32) (l3 : Int32) (l4 : Int32) (M : q_Mem), stp = .inl (l2, l3, l4, M) → q_W K 5 Q 0 0 M 15 [some (.ref l0), none, some (.int l2), some (.int l3), some (.int l4)] []) (kE0 : ∀ (l2 : Int32) (M : q_Mem), stp = .inr (l2, M) → q_W K 5 Q 0 0 M 61 [none, none, some (.int l2), none, none] []) : q_W K 5 Q 0 0 M 55 [some (.ref l0), none, some (.int l2), some (.int l3), some (.int l4)] [] := by
  unfold J_X2_fullestDay_55_15 at h
  refine x_iinc (w := (1 : Int32)) (L' := [some (.ref l0), none, some (.int l2), some (.int l3), some (.int (l4 + (1 : Int32)))]) C dX2_fullestDay_55 rfl (by decide) (by decide) rfl rfl ?_
  refine q_goto (tgt := 15) C dX2_fullestDay_58 (by decide) ?_
  exact q_msk [true, false, true, true, true] (kC _ _ _ _ (Option.some.inj h).symm)
noncomputable def B_X2_fullestDay_15 (l0 : Nat) (l2 : Int32) (l3 : Int32) (l4 : Int32) (M : q_Mem) : Option ((Int32 × Int32 × Int32 × q_Mem) ⊕ (Int32 × q_Mem)) := (if l4 < (20 : Int32) then (q_gR M l0 2 1 (fun c5 => q_nn c5 (fun r6 => (q_gR M l0 2 3 (fun c7 => q_nn c7 (fun r8 => (q_ob M r6 1 ((F_X1_pass r6 r8 M).bind (fun x => match x with | (_, M10) => (q_gR M10 l0 2 1 (fun c11 => q_nn c11 (fun r12 => (q_gI M10 r12 1 6 (fun v13 => (if l3 < v13 then (q_gR M10 l0 2 1 (fun c14 => q_nn c14 (fun r15 => (q_gI M10 r15 1 6 (fun v16 => J_X2_fullestDay_55_15 l0 l4 v16 l4 M10))))) else J_X2_fullestDay_55_15 l0 l2 l3 l4 M10))))))))))))))) else some (.inr (l2, M)))
set_option maxRecDepth 100000 in
set_option maxHeartbeats 4000000 in
theorem bW_X2_fullestDay_15 {K : q_K} {Q : State → Prop} (C : q_C K yX2_fullestDay cX2_fullestDay 5 (Option.some Jvm.ClassFile.FieldType.int) 6 0 0) (l0 : Nat) (l2 : Int32) (l3 : Int32) (l4 : Int32) (M : q_Mem) {stp : (Int32 × Int32 × Int32 × q_Mem) ⊕ (Int32 × q_Mem)} (h : B_X2_fullestDay_15 l0 l2 l3 l4 M = some stp) (kC : ∀ (l2 : Int32) (l3 : Int32) (l4 : Int32) (M : q_Mem), stp = .inl (l2, l3, l4, M) → q_W K 5 Q 0 0 M 15 [some (.ref l0), none, some (.int l2), some (.int l3), some (.int l4)] []) (kE0 : ∀ (l2 : Int32) (M : q_Mem), stp = .inr (l2, M) → q_W K 5 Q 0 0 M 61 [none, none, some (.int l2), none, none] []) : q_W K 5 Q 0 0 M 15 [some (.ref l0), none, some (.int l2), some (.int l3), some (.int l4)] [] := by
  unfold B_X2_fullestDay_15 at h
  refine q_iload C dX2_fullestDay_15 rfl ?_
  refine x_bipush (v := (20 : Int32)) C dX2_fullestDay_17 (by decide) ?_
  refine q_icmp_ge (tgt := 61) C dX2_fullestDay_19 (by decide) h (fun _ h => ?_) (fun _ h => ?_)
  · refine q_aload_n C dX2_fullestDay_22 rfl ?_
    refine x_getR (ci := 2) (j := 1) C dX2_fullestDay_23 lkF_X2_49 rfl h (fun c5 h => ?_)
    refine x_nn h (fun r6 h => ?_)
    refine q_aload_n C dX2_fullestDay_26 rfl ?_
    refine x_getR (ci := 2) (j := 3) C dX2_fullestDay_27 lkF_X2_14 rfl h (fun c7 h => ?_)
    refine x_nn h (fun r8 h => ?_)
    obtain ⟨hk, h⟩ := q_obE h
    obtain ⟨⟨_, M10⟩, e1, h⟩ := q_bind h
    refine x_callVv0 C dX2_fullestDay_30 lkM_X2_80 mV_X1_pass ⟨_, rfl, rfl⟩ hk (c_X1_pass _ _ _ _ _ e1) rfl rfl (Nat.le_of_ble_eq_true rfl) (by decide) (by decide) ?_
    refine q_aload_n C dX2_fullestDay_33 rfl ?_
    refine x_getR (ci := 2) (j := 1) C dX2_fullestDay_34 lkF_X2_49 rfl h (fun c11 h => ?_)
    refine x_nn h (fun r12 h => ?_)
    refine x_getI (ci := 1) (j := 6) C dX2_fullestDay_37 lkF_X2_121 rfl h (fun v13 h => ?_)
    refine q_iload_n C dX2_fullestDay_40 rfl ?_
    refine q_icmp_le (tgt := 55) C dX2_fullestDay_41 (by decide) h (fun _ h => ?_) (fun _ h => ?_)
    · refine q_aload_n C dX2_fullestDay_44 rfl ?_
      refine x_getR (ci := 2) (j := 1) C dX2_fullestDay_45 lkF_X2_49 rfl h (fun c14 h => ?_)
      refine x_nn h (fun r15 h => ?_)
      refine x_getI (ci := 1) (j := 6) C dX2_fullestDay_48 lkF_X2_121 rfl h (fun v16 h => ?_)
      refine q_istore_n (L' := [some (.ref l0), none, some (.int l2), some (.int v16), some (.int l4)]) C dX2_fullestDay_51 (by decide) rfl rfl ?_
      refine q_iload C dX2_fullestDay_52 rfl ?_
      refine q_istore_n (L' := [some (.ref l0), none, some (.int l4), some (.int v16), some (.int l4)]) C dX2_fullestDay_54 (by decide) rfl rfl ?_
      exact q_msk [true, false, true, true, true] (jW_X2_fullestDay_55_15 C l0 l4 v16 l4 M10 h kC kE0)
    · exact q_msk [true, false, true, true, true] (jW_X2_fullestDay_55_15 C l0 l2 l3 l4 M10 h kC kE0)
  · exact q_msk [false, false, true, false, false] (kE0 _ _ (Option.some.inj h).symm)
set_option maxRecDepth 100000 in
set_option maxHeartbeats 4000000 in
theorem lW_X2_fullestDay_15 {K : q_K} {Q : State → Prop} (C : q_C K yX2_fullestDay cX2_fullestDay 5 (Option.some Jvm.ClassFile.FieldType.int) 6 0 0) (l0 : Nat) (n : Nat) : ∀ (l2 : Int32) (l3 : Int32) (l4 : Int32) (M : q_Mem) (e : (Int32 × q_Mem)), q_lp (fun s => B_X2_fullestDay_15 l0 s.1 s.2.1 s.2.2.1 s.2.2.2) n (l2, l3, l4, M) = some e → (∀ (l2 : Int32) (M : q_Mem), e = (l2, M) → q_W K 5 Q 0 0 M 61 [none, none, some (.int l2), none, none] []) → q_W K 5 Q 0 0 M 15 [some (.ref l0), none, some (.int l2), some (.int l3), some (.int l4)] [] := by
  induction n with
  | zero => intro l2 l3 l4 M e h; cases h
  | succ n ih =>
    intro l2 l3 l4 M e h kE0
    obtain ⟨stp, e1, e2⟩ := q_bind h
    refine bW_X2_fullestDay_15 C l0 l2 l3 l4 M e1 (fun a0 a1 a2 a3 hs => ?_) (fun b0 b1 hs => ?_)
    · subst hs; exact ih _ _ _ _ _ e2 kE0
    · subst hs; exact kE0 _ _ (Option.some.inj e2).symm
noncomputable def F_X2_fullestDay (l0 : Nat) (l1 : Nat) (M : q_Mem) : Option (Int32 × q_Mem) := (q_gR M l0 2 3 (fun c1 => q_nn c1 (fun r2 => (q_ob M r2 8 ((F_X8_copyFrom r2 l1 M).bind (fun x => match x with | (_, M4) => (q_lp (fun s => B_X2_fullestDay_15 l0 s.1 s.2.1 s.2.2.1 s.2.2.2) q_fu ((0 : Int32), (-1 : Int32), (0 : Int32), M4)).bind (fun e17 => match e17 with | (w18, M19) => some (w18, M19))))))))
set_option maxRecDepth 100000 in
set_option maxHeartbeats 4000000 in
theorem c_X2_fullestDay (l : Launch) (G : q_G) (l0 : Nat) (l1 : Nat) (M : q_Mem) {r : Int32} {M' : q_Mem} (h : F_X2_fullestDay l0 l1 M = some (r, M')) : q_Met l G yX2_fullestDay cX2_fullestDay 5 (Option.some Jvm.ClassFile.FieldType.int) 6 0 0 [.ref l0, .ref l1] M (some (.int r)) M' := by
  unfold F_X2_fullestDay at h
  refine q_enter [some (.ref l0), some (.ref l1), none, none, none] (by decide) (Nat.le_of_ble_eq_true rfl) rfl (fun K C => ?_)
  refine q_aload_n C dX2_fullestDay_0 rfl ?_
  refine x_getR (ci := 2) (j := 3) C dX2_fullestDay_1 lkF_X2_14 rfl h (fun c1 h => ?_)
  refine x_nn h (fun r2 h => ?_)
  refine q_aload_n C dX2_fullestDay_4 rfl ?_
  obtain ⟨hk, h⟩ := q_obE h
  obtain ⟨⟨_, M4⟩, e1, h⟩ := q_bind h
  refine x_callVv0 C dX2_fullestDay_5 lkM_X2_57 mV_X8_copyFrom ⟨_, rfl, rfl⟩ hk (c_X8_copyFrom _ _ _ _ _ e1) rfl rfl (Nat.le_of_ble_eq_true rfl) (by decide) (by decide) ?_
  refine x_iconst (v := (0 : Int32)) C dX2_fullestDay_8 (by decide) ?_
  refine q_istore_n (L' := [some (.ref l0), some (.ref l1), some (.int (0 : Int32)), none, none]) C dX2_fullestDay_9 (by decide) rfl rfl ?_
  refine x_iconst (v := (-1 : Int32)) C dX2_fullestDay_10 (by decide) ?_
  refine q_istore_n (L' := [some (.ref l0), some (.ref l1), some (.int (0 : Int32)), some (.int (-1 : Int32)), none]) C dX2_fullestDay_11 (by decide) rfl rfl ?_
  refine x_iconst (v := (0 : Int32)) C dX2_fullestDay_12 (by decide) ?_
  refine q_istore (L' := [some (.ref l0), some (.ref l1), some (.int (0 : Int32)), some (.int (-1 : Int32)), some (.int (0 : Int32))]) C dX2_fullestDay_13 (by decide) rfl rfl ?_
  obtain ⟨e17, he, h⟩ := q_bind h
  refine q_msk [true, false, true, true, true] (lW_X2_fullestDay_15 C l0 q_fu _ _ _ _ _ he (fun w18 M19 hs => ?_))
  · have hs := hs.symm
    subst hs
    refine q_iload_n C dX2_fullestDay_61 rfl ?_
    exact q_iret C dX2_fullestDay_62 rfl (by decide) (by decide) (Option.some.inj h)
noncomputable def J_X2_gainBesideJoy_19 (l0 : Nat) (l1 : Int32) (s0 : Int32) (M : q_Mem) : Option (Int32) := (q_gR M l0 2 1 (fun c4 => q_nn c4 (fun r5 => (q_gI M r5 1 4 (fun v6 => (if ((v6 >>> (l1 &&& 31)) &&& (1 : Int32)) = 0 then some s0 else (q_gR M l0 2 0 (fun c7 => q_nn c7 (fun r8 => (q_ob M r8 3 ((F_X3_ofGuest r8 l1 (3 : Int32) M).bind (fun u9 => some (s0 - u9)))))))))))))
set_option maxRecDepth 100000 in
set_option maxHeartbeats 4000000 in
theorem jW_X2_gainBesideJoy_19 {K : q_K} (C : q_C K yX2_gainBesideJoy cX2_gainBesideJoy 3 (Option.some Jvm.ClassFile.FieldType.int) 2 0 0) (l0 : Nat) (l1 : Int32) (s0 : Int32) (M : q_Mem) {r : Int32} (h : J_X2_gainBesideJoy_19 l0 l1 s0 M = some r) : q_W K 3 (q_Q K (some (.int r)) M 0 0) 0 0 M 19 [some (.ref l0), some (.int l1), none] [.int s0] := by
  unfold J_X2_gainBesideJoy_19 at h
  refine q_istore_n (L' := [some (.ref l0), some (.int l1), some (.int s0)]) C dX2_gainBesideJoy_19 (by decide) rfl rfl ?_
  refine q_aload_n C dX2_gainBesideJoy_20 rfl ?_
  refine x_getR (ci := 2) (j := 1) C dX2_gainBesideJoy_21 lkF_X2_49 rfl h (fun c4 h => ?_)
  refine x_nn h (fun r5 h => ?_)
  refine x_getI (ci := 1) (j := 4) C dX2_gainBesideJoy_24 lkF_X2_115 rfl h (fun v6 h => ?_)
  refine q_iload_n C dX2_gainBesideJoy_27 rfl ?_
  refine q_ishr C dX2_gainBesideJoy_28 ?_
  refine x_iconst (v := (1 : Int32)) C dX2_gainBesideJoy_29 (by decide) ?_
  refine q_iand C dX2_gainBesideJoy_30 ?_
  refine q_if_eq (tgt := 48) C dX2_gainBesideJoy_31 (by decide) h (fun _ h => ?_) (fun _ h => ?_)
  · refine q_iload_n C dX2_gainBesideJoy_48 rfl ?_
    exact q_iret (res := (r, M)) C dX2_gainBesideJoy_49 rfl (by decide) (by decide) (congrArg (fun z => (z, M)) (Option.some.inj h))
  · refine q_iload_n C dX2_gainBesideJoy_34 rfl ?_
    refine q_aload_n C dX2_gainBesideJoy_35 rfl ?_
    refine x_getR (ci := 2) (j := 0) C dX2_gainBesideJoy_36 lkF_X2_45 rfl h (fun c7 h => ?_)
    refine x_nn h (fun r8 h => ?_)
    refine q_iload_n C dX2_gainBesideJoy_39 rfl ?_
    refine x_iconst (v := (3 : Int32)) C dX2_gainBesideJoy_40 (by decide) ?_
    obtain ⟨hk, h⟩ := q_obE h
    obtain ⟨u9, e1, h⟩ := q_bind h
    refine x_callV0 C dX2_gainBesideJoy_41 lkM_X2_128 mV_X3_ofGuest ⟨_, rfl, rfl⟩ hk (c_X3_ofGuest _ _ _ _ _ _ e1) rfl rfl (Nat.le_of_ble_eq_true rfl) (by decide) (by decide) ?_
    refine q_isub C dX2_gainBesideJoy_44 ?_
    refine q_goto (tgt := 49) C dX2_gainBesideJoy_45 (by decide) ?_
    exact q_iret (res := (r, M)) C dX2_gainBesideJoy_49 rfl (by decide) (by decide) (congrArg (fun z => (z, M)) (Option.some.inj h))
noncomputable def F_X2_gainBesideJoy (l0 : Nat) (l1 : Int32) (M : q_Mem) : Option (Int32) := (q_gR M l0 2 1 (fun c1 => q_nn c1 (fun r2 => (q_gI M r2 1 10 (fun v3 => (if ((v3 >>> (l1 &&& 31)) &&& (1 : Int32)) = 0 then J_X2_gainBesideJoy_19 l0 l1 (0 : Int32) M else J_X2_gainBesideJoy_19 l0 l1 (2 : Int32) M))))))
set_option maxRecDepth 100000 in
set_option maxHeartbeats 4000000 in
theorem c_X2_gainBesideJoy (l : Launch) (G : q_G) (l0 : Nat) (l1 : Int32) (M : q_Mem) {r : Int32} (h : F_X2_gainBesideJoy l0 l1 M = some r) : q_Met l G yX2_gainBesideJoy cX2_gainBesideJoy 3 (Option.some Jvm.ClassFile.FieldType.int) 2 0 0 [.ref l0, .int l1] M (some (.int r)) M := by
  unfold F_X2_gainBesideJoy at h
  refine q_enter [some (.ref l0), some (.int l1), none] (by decide) (Nat.le_of_ble_eq_true rfl) rfl (fun K C => ?_)
  refine q_aload_n C dX2_gainBesideJoy_0 rfl ?_
  refine x_getR (ci := 2) (j := 1) C dX2_gainBesideJoy_1 lkF_X2_49 rfl h (fun c1 h => ?_)
  refine x_nn h (fun r2 h => ?_)
  refine x_getI (ci := 1) (j := 10) C dX2_gainBesideJoy_4 lkF_X2_118 rfl h (fun v3 h => ?_)
  refine q_iload_n C dX2_gainBesideJoy_7 rfl ?_
  refine q_ishr C dX2_gainBesideJoy_8 ?_
  refine x_iconst (v := (1 : Int32)) C dX2_gainBesideJoy_9 (by decide) ?_
  refine q_iand C dX2_gainBesideJoy_10 ?_
  refine q_if_eq (tgt := 18) C dX2_gainBesideJoy_11 (by decide) h (fun _ h => ?_) (fun _ h => ?_)
  · refine x_iconst (v := (0 : Int32)) C dX2_gainBesideJoy_18 (by decide) ?_
    exact q_msk [true, true, false] (jW_X2_gainBesideJoy_19 C l0 l1 (0 : Int32) M h)
  · refine x_iconst (v := (2 : Int32)) C dX2_gainBesideJoy_14 (by decide) ?_
    refine q_goto (tgt := 19) C dX2_gainBesideJoy_15 (by decide) ?_
    exact q_msk [true, true, false] (jW_X2_gainBesideJoy_19 C l0 l1 (2 : Int32) M h)
noncomputable def B_X2_play_55 (l0 : Nat) (l1 : Nat) (l2 : Int32) (l3 : Int32) (l6 : Int32) (M : q_Mem) : Option ((Int32 × q_Mem) ⊕ (q_Mem)) := (if l6 < (8 : Int32) then (q_gR M l0 2 1 (fun c19 => q_nn c19 (fun r20 => (q_gR M l0 2 3 (fun c21 => q_nn c21 (fun r22 => (q_ob M r20 1 ((F_X1_pass r20 r22 M).bind (fun x => match x with | (_, M24) => (q_gI M24 l0 2 10 (fun v25 => (q_ob M24 l0 2 ((F_X2_gainBesideJoy l0 l2 M24).bind (fun u26 => (q_pI M24 l0 2 10 (v25 + u26) (fun M27 => (q_gI M27 l0 2 11 (fun v28 => (q_ob M27 l0 2 ((F_X2_gainBesideJoy l0 l3 M27).bind (fun u29 => (q_pI M27 l0 2 11 (v28 + u29) (fun M30 => some (.inl ((l6 + (1 : Int32)), M30))))))))))))))))))))))))) else some (.inr M))
set_option maxRecDepth 100000 in
set_option maxHeartbeats 4000000 in
theorem bW_X2_play_55 {K : q_K} {Q : State → Prop} (C : q_C K yX2_play cX2_play 7 (Option.none : Option Jvm.ClassFile.FieldType) 6 0 0) (l0 : Nat) (l1 : Nat) (l2 : Int32) (l3 : Int32) (l6 : Int32) (M : q_Mem) {stp : (Int32 × q_Mem) ⊕ (q_Mem)} (h : B_X2_play_55 l0 l1 l2 l3 l6 M = some stp) (kC : ∀ (l6 : Int32) (M : q_Mem), stp = .inl (l6, M) → q_W K 7 Q 0 0 M 55 [some (.ref l0), some (.ref l1), some (.int l2), some (.int l3), none, none, some (.int l6)] []) (kE0 : ∀ (M : q_Mem), stp = .inr M → q_W K 7 Q 0 0 M 107 [some (.ref l0), some (.ref l1), some (.int l2), some (.int l3), none, none, none] []) : q_W K 7 Q 0 0 M 55 [some (.ref l0), some (.ref l1), some (.int l2), some (.int l3), none, none, some (.int l6)] [] := by
  unfold B_X2_play_55 at h
  refine q_iload C dX2_play_55 rfl ?_
  refine x_bipush (v := (8 : Int32)) C dX2_play_57 (by decide) ?_
  refine q_icmp_ge (tgt := 107) C dX2_play_59 (by decide) h (fun _ h => ?_) (fun _ h => ?_)
  · refine q_aload_n C dX2_play_62 rfl ?_
    refine x_getR (ci := 2) (j := 1) C dX2_play_63 lkF_X2_49 rfl h (fun c19 h => ?_)
    refine x_nn h (fun r20 h => ?_)
    refine q_aload_n C dX2_play_66 rfl ?_
    refine x_getR (ci := 2) (j := 3) C dX2_play_67 lkF_X2_14 rfl h (fun c21 h => ?_)
    refine x_nn h (fun r22 h => ?_)
    obtain ⟨hk, h⟩ := q_obE h
    obtain ⟨⟨_, M24⟩, e1, h⟩ := q_bind h
    refine x_callVv0 C dX2_play_70 lkM_X2_80 mV_X1_pass ⟨_, rfl, rfl⟩ hk (c_X1_pass _ _ _ _ _ e1) rfl rfl (Nat.le_of_ble_eq_true rfl) (by decide) (by decide) ?_
    refine q_aload_n C dX2_play_73 rfl ?_
    refine q_dup C dX2_play_74 rfl ?_
    refine x_getI (ci := 2) (j := 10) C dX2_play_75 lkF_X2_39 rfl h (fun v25 h => ?_)
    refine q_aload_n C dX2_play_78 rfl ?_
    refine q_iload_n C dX2_play_79 rfl ?_
    obtain ⟨hk, h⟩ := q_obE h
    obtain ⟨u26, e1, h⟩ := q_bind h
    refine x_callV0 C dX2_play_80 lkM_X2_124 mV_X2_gainBesideJoy ⟨_, rfl, rfl⟩ hk (c_X2_gainBesideJoy _ _ _ _ _ e1) rfl rfl (Nat.le_of_ble_eq_true rfl) (by decide) (by decide) ?_
    refine q_iadd C dX2_play_83 ?_
    refine x_putI (ci := 2) (j := 10) C dX2_play_84 lkF_X2_39 (fun r hr => by cases hr; rfl) rfl h (fun M27 h => ?_)
    refine q_aload_n C dX2_play_87 rfl ?_
    refine q_dup C dX2_play_88 rfl ?_
    refine x_getI (ci := 2) (j := 11) C dX2_play_89 lkF_X2_42 rfl h (fun v28 h => ?_)
    refine q_aload_n C dX2_play_92 rfl ?_
    refine q_iload_n C dX2_play_93 rfl ?_
    obtain ⟨hk, h⟩ := q_obE h
    obtain ⟨u29, e1, h⟩ := q_bind h
    refine x_callV0 C dX2_play_94 lkM_X2_124 mV_X2_gainBesideJoy ⟨_, rfl, rfl⟩ hk (c_X2_gainBesideJoy _ _ _ _ _ e1) rfl rfl (Nat.le_of_ble_eq_true rfl) (by decide) (by decide) ?_
    refine q_iadd C dX2_play_97 ?_
    refine x_putI (ci := 2) (j := 11) C dX2_play_98 lkF_X2_42 (fun r hr => by cases hr; rfl) rfl h (fun M30 h => ?_)
    refine x_iinc (w := (1 : Int32)) (L' := [some (.ref l0), some (.ref l1), some (.int l2), some (.int l3), none, none, some (.int (l6 + (1 : Int32)))]) C dX2_play_101 rfl (by decide) (by decide) rfl rfl ?_
    refine q_goto (tgt := 55) C dX2_play_104 (by decide) ?_
    exact q_msk [true, true, true, true, false, false, true] (kC _ _ (Option.some.inj h).symm)
  · exact q_msk [true, true, true, true, false, false, false] (kE0 _ (Option.some.inj h).symm)
set_option maxRecDepth 100000 in
set_option maxHeartbeats 4000000 in
theorem lW_X2_play_55 {K : q_K} {Q : State → Prop} (C : q_C K yX2_play cX2_play 7 (Option.none : Option Jvm.ClassFile.FieldType) 6 0 0) (l0 : Nat) (l1 : Nat) (l2 : Int32) (l3 : Int32) (n : Nat) : ∀ (l6 : Int32) (M : q_Mem) (e : (q_Mem)), q_lp (fun s => B_X2_play_55 l0 l1 l2 l3 s.1 s.2) n (l6, M) = some e → (∀ (M : q_Mem), e = M → q_W K 7 Q 0 0 M 107 [some (.ref l0), some (.ref l1), some (.int l2), some (.int l3), none, none, none] []) → q_W K 7 Q 0 0 M 55 [some (.ref l0), some (.ref l1), some (.int l2), some (.int l3), none, none, some (.int l6)] [] := by
  induction n with
  | zero => intro l6 M e h; cases h
  | succ n ih =>
    intro l6 M e h kE0
    obtain ⟨stp, e1, e2⟩ := q_bind h
    refine bW_X2_play_55 C l0 l1 l2 l3 l6 M e1 (fun a0 a1 hs => ?_) (fun b0 hs => ?_)
    · subst hs; exact ih _ _ _ e2 kE0
    · subst hs; exact kE0 _ (Option.some.inj e2).symm
noncomputable def F_X2_play (l0 : Nat) (l1 : Nat) (l2 : Int32) (l3 : Int32) (l4 : Int32) (l5 : Int32) (M : q_Mem) : Option (Unit × q_Mem) := (q_gR M l0 2 3 (fun c1 => q_nn c1 (fun r2 => (q_ob M r2 8 ((F_X8_copyFrom r2 l1 M).bind (fun x => match x with | (_, M4) => (q_gR M4 l0 2 3 (fun c5 => q_nn c5 (fun r6 => (q_gR M4 r6 8 0 (fun c7 => q_nn c7 (fun r8 => (q_lI M4 0 r8 ((13 : Int32) + l2) (fun v9 => (q_tI M4 r8 ((13 : Int32) + l2) (v9 + l4) (fun M10 => (q_gR M10 l0 2 3 (fun c11 => q_nn c11 (fun r12 => (q_gR M10 r12 8 0 (fun c13 => q_nn c13 (fun r14 => (q_lI M10 0 r14 ((13 : Int32) + l3) (fun v15 => (q_tI M10 r14 ((13 : Int32) + l3) (v15 + l5) (fun M16 => (q_pI M16 l0 2 10 (0 : Int32) (fun M17 => (q_pI M17 l0 2 11 (0 : Int32) (fun M18 => (q_lp (fun s => B_X2_play_55 l0 l1 l2 l3 s.1 s.2) q_fu ((0 : Int32), M18)).bind (fun e31 => match e31 with | M32 => (q_gI M32 l0 2 10 (fun v33 => (q_gR M32 l0 2 3 (fun c34 => q_nn c34 (fun r35 => (q_gR M32 r35 8 0 (fun c36 => q_nn c36 (fun r37 => (q_lI M32 0 r37 ((25 : Int32) + l2) (fun v38 => (q_gR M32 l1 8 0 (fun c39 => q_nn c39 (fun r40 => (q_lI M32 0 r40 ((25 : Int32) + l2) (fun v41 => (q_pI M32 l0 2 10 (v33 + (v38 - v41)) (fun M42 => (q_gI M42 l0 2 11 (fun v43 => (q_gR M42 l0 2 3 (fun c44 => q_nn c44 (fun r45 => (q_gR M42 r45 8 0 (fun c46 => q_nn c46 (fun r47 => (q_lI M42 0 r47 ((25 : Int32) + l3) (fun v48 => (q_gR M42 l1 8 0 (fun c49 => q_nn c49 (fun r50 => (q_lI M42 0 r50 ((25 : Int32) + l3) (fun v51 => (q_pI M42 l0 2 11 (v43 + (v48 - v51)) (fun M52 => some ((), M52))))))))))))))))))))))))))))))))))))))))))))))))))))))))))))))))))
set_option maxRecDepth 100000 in
set_option maxHeartbeats 4000000 in
theorem c_X2_play (l : Launch) (G : q_G) (l0 : Nat) (l1 : Nat) (l2 : Int32) (l3 : Int32) (l4 : Int32) (l5 : Int32) (M : q_Mem) {r : Unit} {M' : q_Mem} (h : F_X2_play l0 l1 l2 l3 l4 l5 M = some (r, M')) : q_Met l G yX2_play cX2_play 7 (Option.none : Option Jvm.ClassFile.FieldType) 6 0 0 [.ref l0, .ref l1, .int l2, .int l3, .int l4, .int l5] M none M' := by
  unfold F_X2_play at h
  refine q_enter [some (.ref l0), some (.ref l1), some (.int l2), some (.int l3), some (.int l4), some (.int l5), none] (by decide) (Nat.le_of_ble_eq_true rfl) rfl (fun K C => ?_)
  refine q_aload_n C dX2_play_0 rfl ?_
  refine x_getR (ci := 2) (j := 3) C dX2_play_1 lkF_X2_14 rfl h (fun c1 h => ?_)
  refine x_nn h (fun r2 h => ?_)
  refine q_aload_n C dX2_play_4 rfl ?_
  obtain ⟨hk, h⟩ := q_obE h
  obtain ⟨⟨_, M4⟩, e1, h⟩ := q_bind h
  refine x_callVv0 C dX2_play_5 lkM_X2_57 mV_X8_copyFrom ⟨_, rfl, rfl⟩ hk (c_X8_copyFrom _ _ _ _ _ e1) rfl rfl (Nat.le_of_ble_eq_true rfl) (by decide) (by decide) ?_
  refine q_aload_n C dX2_play_8 rfl ?_
  refine x_getR (ci := 2) (j := 3) C dX2_play_9 lkF_X2_14 rfl h (fun c5 h => ?_)
  refine x_nn h (fun r6 h => ?_)
  refine x_getR (ci := 8) (j := 0) C dX2_play_12 lkF_X2_98 rfl h (fun c7 h => ?_)
  refine x_nn h (fun r8 h => ?_)
  refine x_bipush (v := (13 : Int32)) C dX2_play_15 (by decide) ?_
  refine q_iload_n C dX2_play_17 rfl ?_
  refine q_iadd C dX2_play_18 ?_
  refine q_dup2 C dX2_play_19 rfl rfl ?_
  refine x_iald C dX2_play_20 h (fun v9 h => ?_)
  refine q_iload C dX2_play_21 rfl ?_
  refine q_iadd C dX2_play_23 ?_
  refine x_iast C dX2_play_24 h (fun M10 h => ?_)
  refine q_aload_n C dX2_play_25 rfl ?_
  refine x_getR (ci := 2) (j := 3) C dX2_play_26 lkF_X2_14 rfl h (fun c11 h => ?_)
  refine x_nn h (fun r12 h => ?_)
  refine x_getR (ci := 8) (j := 0) C dX2_play_29 lkF_X2_98 rfl h (fun c13 h => ?_)
  refine x_nn h (fun r14 h => ?_)
  refine x_bipush (v := (13 : Int32)) C dX2_play_32 (by decide) ?_
  refine q_iload_n C dX2_play_34 rfl ?_
  refine q_iadd C dX2_play_35 ?_
  refine q_dup2 C dX2_play_36 rfl rfl ?_
  refine x_iald C dX2_play_37 h (fun v15 h => ?_)
  refine q_iload C dX2_play_38 rfl ?_
  refine q_iadd C dX2_play_40 ?_
  refine x_iast C dX2_play_41 h (fun M16 h => ?_)
  refine q_aload_n C dX2_play_42 rfl ?_
  refine x_iconst (v := (0 : Int32)) C dX2_play_43 (by decide) ?_
  refine x_putI (ci := 2) (j := 10) C dX2_play_44 lkF_X2_39 (fun r hr => by cases hr; rfl) rfl h (fun M17 h => ?_)
  refine q_aload_n C dX2_play_47 rfl ?_
  refine x_iconst (v := (0 : Int32)) C dX2_play_48 (by decide) ?_
  refine x_putI (ci := 2) (j := 11) C dX2_play_49 lkF_X2_42 (fun r hr => by cases hr; rfl) rfl h (fun M18 h => ?_)
  refine x_iconst (v := (0 : Int32)) C dX2_play_52 (by decide) ?_
  refine q_istore (L' := [some (.ref l0), some (.ref l1), some (.int l2), some (.int l3), some (.int l4), some (.int l5), some (.int (0 : Int32))]) C dX2_play_53 (by decide) rfl rfl ?_
  obtain ⟨e31, he, h⟩ := q_bind h
  refine q_msk [true, true, true, true, false, false, true] (lW_X2_play_55 C l0 l1 l2 l3 q_fu _ _ _ he (fun M32 hs => ?_))
  · have hs := hs.symm
    subst hs
    refine q_aload_n C dX2_play_107 rfl ?_
    refine q_dup C dX2_play_108 rfl ?_
    refine x_getI (ci := 2) (j := 10) C dX2_play_109 lkF_X2_39 rfl h (fun v33 h => ?_)
    refine q_aload_n C dX2_play_112 rfl ?_
    refine x_getR (ci := 2) (j := 3) C dX2_play_113 lkF_X2_14 rfl h (fun c34 h => ?_)
    refine x_nn h (fun r35 h => ?_)
    refine x_getR (ci := 8) (j := 0) C dX2_play_116 lkF_X2_98 rfl h (fun c36 h => ?_)
    refine x_nn h (fun r37 h => ?_)
    refine x_bipush (v := (25 : Int32)) C dX2_play_119 (by decide) ?_
    refine q_iload_n C dX2_play_121 rfl ?_
    refine q_iadd C dX2_play_122 ?_
    refine x_iald C dX2_play_123 h (fun v38 h => ?_)
    refine q_aload_n C dX2_play_124 rfl ?_
    refine x_getR (ci := 8) (j := 0) C dX2_play_125 lkF_X2_98 rfl h (fun c39 h => ?_)
    refine x_nn h (fun r40 h => ?_)
    refine x_bipush (v := (25 : Int32)) C dX2_play_128 (by decide) ?_
    refine q_iload_n C dX2_play_130 rfl ?_
    refine q_iadd C dX2_play_131 ?_
    refine x_iald C dX2_play_132 h (fun v41 h => ?_)
    refine q_isub C dX2_play_133 ?_
    refine q_iadd C dX2_play_134 ?_
    refine x_putI (ci := 2) (j := 10) C dX2_play_135 lkF_X2_39 (fun r hr => by cases hr; rfl) rfl h (fun M42 h => ?_)
    refine q_aload_n C dX2_play_138 rfl ?_
    refine q_dup C dX2_play_139 rfl ?_
    refine x_getI (ci := 2) (j := 11) C dX2_play_140 lkF_X2_42 rfl h (fun v43 h => ?_)
    refine q_aload_n C dX2_play_143 rfl ?_
    refine x_getR (ci := 2) (j := 3) C dX2_play_144 lkF_X2_14 rfl h (fun c44 h => ?_)
    refine x_nn h (fun r45 h => ?_)
    refine x_getR (ci := 8) (j := 0) C dX2_play_147 lkF_X2_98 rfl h (fun c46 h => ?_)
    refine x_nn h (fun r47 h => ?_)
    refine x_bipush (v := (25 : Int32)) C dX2_play_150 (by decide) ?_
    refine q_iload_n C dX2_play_152 rfl ?_
    refine q_iadd C dX2_play_153 ?_
    refine x_iald C dX2_play_154 h (fun v48 h => ?_)
    refine q_aload_n C dX2_play_155 rfl ?_
    refine x_getR (ci := 8) (j := 0) C dX2_play_156 lkF_X2_98 rfl h (fun c49 h => ?_)
    refine x_nn h (fun r50 h => ?_)
    refine x_bipush (v := (25 : Int32)) C dX2_play_159 (by decide) ?_
    refine q_iload_n C dX2_play_161 rfl ?_
    refine q_iadd C dX2_play_162 ?_
    refine x_iald C dX2_play_163 h (fun v51 h => ?_)
    refine q_isub C dX2_play_164 ?_
    refine q_iadd C dX2_play_165 ?_
    refine x_putI (ci := 2) (j := 11) C dX2_play_166 lkF_X2_42 (fun r hr => by cases hr; rfl) rfl h (fun M52 h => ?_)
    exact q_vret C dX2_play_169 rfl (by decide) (by decide) (Option.some.inj h)
noncomputable def B_X2_playAll_3 (l0 : Nat) (l1 : Nat) (l2 : Int32) (l3 : Int32) (l4 : Int32) (M : q_Mem) : Option ((Int32 × q_Mem) ⊕ (q_Mem)) := (if l4 < (16 : Int32) then (q_dvi l4 (4 : Int32) (fun v1 => (q_rmi l4 (4 : Int32) (fun v2 => (q_ob M l0 2 ((F_X2_play l0 l1 l2 l3 v1 v2 M).bind (fun x => match x with | (_, M4) => (q_gR M4 l0 2 5 (fun c5 => q_nn c5 (fun r6 => (q_gI M4 l0 2 10 (fun v7 => (q_tI M4 r6 l4 v7 (fun M8 => (q_gR M8 l0 2 6 (fun c9 => q_nn c9 (fun r10 => (q_gI M8 l0 2 11 (fun v11 => (q_tI M8 r10 l4 v11 (fun M12 => some (.inl ((l4 + (1 : Int32)), M12))))))))))))))))))))))) else some (.inr M))
set_option maxRecDepth 100000 in
set_option maxHeartbeats 4000000 in
theorem bW_X2_playAll_3 {K : q_K} {Q : State → Prop} (C : q_C K yX2_playAll cX2_playAll 5 (Option.none : Option Jvm.ClassFile.FieldType) 7 0 0) (l0 : Nat) (l1 : Nat) (l2 : Int32) (l3 : Int32) (l4 : Int32) (M : q_Mem) {stp : (Int32 × q_Mem) ⊕ (q_Mem)} (h : B_X2_playAll_3 l0 l1 l2 l3 l4 M = some stp) (kC : ∀ (l4 : Int32) (M : q_Mem), stp = .inl (l4, M) → q_W K 5 Q 0 0 M 3 [some (.ref l0), some (.ref l1), some (.int l2), some (.int l3), some (.int l4)] []) (kE0 : ∀ (M : q_Mem), stp = .inr M → q_W K 5 Q 0 0 M 53 [none, none, none, none, none] []) : q_W K 5 Q 0 0 M 3 [some (.ref l0), some (.ref l1), some (.int l2), some (.int l3), some (.int l4)] [] := by
  unfold B_X2_playAll_3 at h
  refine q_iload C dX2_playAll_3 rfl ?_
  refine x_bipush (v := (16 : Int32)) C dX2_playAll_5 (by decide) ?_
  refine q_icmp_ge (tgt := 53) C dX2_playAll_7 (by decide) h (fun _ h => ?_) (fun _ h => ?_)
  · refine q_aload_n C dX2_playAll_10 rfl ?_
    refine q_aload_n C dX2_playAll_11 rfl ?_
    refine q_iload_n C dX2_playAll_12 rfl ?_
    refine q_iload_n C dX2_playAll_13 rfl ?_
    refine q_iload C dX2_playAll_14 rfl ?_
    refine x_iconst (v := (4 : Int32)) C dX2_playAll_16 (by decide) ?_
    refine q_idiv C dX2_playAll_17 h (fun v1 h => ?_)
    refine q_iload C dX2_playAll_18 rfl ?_
    refine x_iconst (v := (4 : Int32)) C dX2_playAll_20 (by decide) ?_
    refine q_irem C dX2_playAll_21 h (fun v2 h => ?_)
    obtain ⟨hk, h⟩ := q_obE h
    obtain ⟨⟨_, M4⟩, e1, h⟩ := q_bind h
    refine x_callVv0 C dX2_playAll_22 lkM_X2_131 mV_X2_play ⟨_, rfl, rfl⟩ hk (c_X2_play _ _ _ _ _ _ _ _ _ e1) rfl rfl (Nat.le_of_ble_eq_true rfl) (by decide) (by decide) ?_
    refine q_aload_n C dX2_playAll_25 rfl ?_
    refine x_getR (ci := 2) (j := 5) C dX2_playAll_26 lkF_X2_22 rfl h (fun c5 h => ?_)
    refine x_nn h (fun r6 h => ?_)
    refine q_iload C dX2_playAll_29 rfl ?_
    refine q_aload_n C dX2_playAll_31 rfl ?_
    refine x_getI (ci := 2) (j := 10) C dX2_playAll_32 lkF_X2_39 rfl h (fun v7 h => ?_)
    refine x_iast C dX2_playAll_35 h (fun M8 h => ?_)
    refine q_aload_n C dX2_playAll_36 rfl ?_
    refine x_getR (ci := 2) (j := 6) C dX2_playAll_37 lkF_X2_26 rfl h (fun c9 h => ?_)
    refine x_nn h (fun r10 h => ?_)
    refine q_iload C dX2_playAll_40 rfl ?_
    refine q_aload_n C dX2_playAll_42 rfl ?_
    refine x_getI (ci := 2) (j := 11) C dX2_playAll_43 lkF_X2_42 rfl h (fun v11 h => ?_)
    refine x_iast C dX2_playAll_46 h (fun M12 h => ?_)
    refine x_iinc (w := (1 : Int32)) (L' := [some (.ref l0), some (.ref l1), some (.int l2), some (.int l3), some (.int (l4 + (1 : Int32)))]) C dX2_playAll_47 rfl (by decide) (by decide) rfl rfl ?_
    refine q_goto (tgt := 3) C dX2_playAll_50 (by decide) ?_
    exact q_msk [true, true, true, true, true] (kC _ _ (Option.some.inj h).symm)
  · exact q_msk [false, false, false, false, false] (kE0 _ (Option.some.inj h).symm)
set_option maxRecDepth 100000 in
set_option maxHeartbeats 4000000 in
theorem lW_X2_playAll_3 {K : q_K} {Q : State → Prop} (C : q_C K yX2_playAll cX2_playAll 5 (Option.none : Option Jvm.ClassFile.FieldType) 7 0 0) (l0 : Nat) (l1 : Nat) (l2 : Int32) (l3 : Int32) (n : Nat) : ∀ (l4 : Int32) (M : q_Mem) (e : (q_Mem)), q_lp (fun s => B_X2_playAll_3 l0 l1 l2 l3 s.1 s.2) n (l4, M) = some e → (∀ (M : q_Mem), e = M → q_W K 5 Q 0 0 M 53 [none, none, none, none, none] []) → q_W K 5 Q 0 0 M 3 [some (.ref l0), some (.ref l1), some (.int l2), some (.int l3), some (.int l4)] [] := by
  induction n with
  | zero => intro l4 M e h; cases h
  | succ n ih =>
    intro l4 M e h kE0
    obtain ⟨stp, e1, e2⟩ := q_bind h
    refine bW_X2_playAll_3 C l0 l1 l2 l3 l4 M e1 (fun a0 a1 hs => ?_) (fun b0 hs => ?_)
    · subst hs; exact ih _ _ _ e2 kE0
    · subst hs; exact kE0 _ (Option.some.inj e2).symm
noncomputable def F_X2_playAll (l0 : Nat) (l1 : Nat) (l2 : Int32) (l3 : Int32) (M : q_Mem) : Option (Unit × q_Mem) := (q_lp (fun s => B_X2_playAll_3 l0 l1 l2 l3 s.1 s.2) q_fu ((0 : Int32), M)).bind (fun e13 => match e13 with | M14 => some ((), M14))
set_option maxRecDepth 100000 in
set_option maxHeartbeats 4000000 in
theorem c_X2_playAll (l : Launch) (G : q_G) (l0 : Nat) (l1 : Nat) (l2 : Int32) (l3 : Int32) (M : q_Mem) {r : Unit} {M' : q_Mem} (h : F_X2_playAll l0 l1 l2 l3 M = some (r, M')) : q_Met l G yX2_playAll cX2_playAll 5 (Option.none : Option Jvm.ClassFile.FieldType) 7 0 0 [.ref l0, .ref l1, .int l2, .int l3] M none M' := by
  unfold F_X2_playAll at h
  refine q_enter [some (.ref l0), some (.ref l1), some (.int l2), some (.int l3), none] (by decide) (Nat.le_of_ble_eq_true rfl) rfl (fun K C => ?_)
  refine x_iconst (v := (0 : Int32)) C dX2_playAll_0 (by decide) ?_
  refine q_istore (L' := [some (.ref l0), some (.ref l1), some (.int l2), some (.int l3), some (.int (0 : Int32))]) C dX2_playAll_1 (by decide) rfl rfl ?_
  obtain ⟨e13, he, h⟩ := q_bind h
  refine q_msk [true, true, true, true, true] (lW_X2_playAll_3 C l0 l1 l2 l3 q_fu _ _ _ he (fun M14 hs => ?_))
  · have hs := hs.symm
    subst hs
    exact q_vret C dX2_playAll_53 rfl (by decide) (by decide) (Option.some.inj h)
noncomputable def B_X2_isRest_9 (l0 : Nat) (l1 : Int32) (l2 : Int32) (l3 : Int32) (l4 : Int32) (M : q_Mem) : Option ((Int32) ⊕ ((Unit) ⊕ (Unit))) := (if l4 < (4 : Int32) then (q_gR M l0 2 5 (fun c1 => q_nn c1 (fun r2 => (q_lI M 0 r2 ((l4 * (4 : Int32)) + l2) (fun v3 => (q_gR M l0 2 5 (fun c4 => q_nn c4 (fun r5 => (q_lI M 0 r5 l3 (fun v6 => (if v6 < v3 then some (.inr (.inl ())) else (q_gR M l0 2 6 (fun c7 => q_nn c7 (fun r8 => (q_lI M 0 r8 ((l1 * (4 : Int32)) + l4) (fun v9 => (q_gR M l0 2 6 (fun c10 => q_nn c10 (fun r11 => (q_lI M 0 r11 l3 (fun v12 => (if v12 < v9 then some (.inr (.inl ())) else some (.inl (l4 + (1 : Int32))))))))))))))))))))))))) else some (.inr (.inr ())))
set_option maxRecDepth 100000 in
set_option maxHeartbeats 4000000 in
theorem bW_X2_isRest_9 {K : q_K} {Q : State → Prop} (C : q_C K yX2_isRest cX2_isRest 5 (Option.some Jvm.ClassFile.FieldType.boolean) 1 0 0) (l0 : Nat) (l1 : Int32) (l2 : Int32) (l3 : Int32) (l4 : Int32) (M : q_Mem) {stp : (Int32) ⊕ ((Unit) ⊕ (Unit))} (h : B_X2_isRest_9 l0 l1 l2 l3 l4 M = some stp) (kC : ∀ (l4 : Int32), stp = .inl l4 → q_W K 5 Q 0 0 M 9 [some (.ref l0), some (.int l1), some (.int l2), some (.int l3), some (.int l4)] []) (kE0 : stp = .inr (.inl ()) → q_W K 5 Q 0 0 M 55 [none, none, none, none, none] []) (kE1 : stp = .inr (.inr ()) → q_W K 5 Q 0 0 M 63 [none, none, none, none, none] []) : q_W K 5 Q 0 0 M 9 [some (.ref l0), some (.int l1), some (.int l2), some (.int l3), some (.int l4)] [] := by
  unfold B_X2_isRest_9 at h
  refine q_iload C dX2_isRest_9 rfl ?_
  refine x_iconst (v := (4 : Int32)) C dX2_isRest_11 (by decide) ?_
  refine q_icmp_ge (tgt := 63) C dX2_isRest_12 (by decide) h (fun _ h => ?_) (fun _ h => ?_)
  · refine q_aload_n C dX2_isRest_15 rfl ?_
    refine x_getR (ci := 2) (j := 5) C dX2_isRest_16 lkF_X2_22 rfl h (fun c1 h => ?_)
    refine x_nn h (fun r2 h => ?_)
    refine q_iload C dX2_isRest_19 rfl ?_
    refine x_iconst (v := (4 : Int32)) C dX2_isRest_21 (by decide) ?_
    refine q_imul C dX2_isRest_22 ?_
    refine q_iload_n C dX2_isRest_23 rfl ?_
    refine q_iadd C dX2_isRest_24 ?_
    refine x_iald C dX2_isRest_25 h (fun v3 h => ?_)
    refine q_aload_n C dX2_isRest_26 rfl ?_
    refine x_getR (ci := 2) (j := 5) C dX2_isRest_27 lkF_X2_22 rfl h (fun c4 h => ?_)
    refine x_nn h (fun r5 h => ?_)
    refine q_iload_n C dX2_isRest_30 rfl ?_
    refine x_iald C dX2_isRest_31 h (fun v6 h => ?_)
    refine q_icmp_gt (tgt := 55) C dX2_isRest_32 (by decide) h (fun _ h => ?_) (fun _ h => ?_)
    · exact q_msk [false, false, false, false, false] (kE0 (Option.some.inj h).symm)
    · refine q_aload_n C dX2_isRest_35 rfl ?_
      refine x_getR (ci := 2) (j := 6) C dX2_isRest_36 lkF_X2_26 rfl h (fun c7 h => ?_)
      refine x_nn h (fun r8 h => ?_)
      refine q_iload_n C dX2_isRest_39 rfl ?_
      refine x_iconst (v := (4 : Int32)) C dX2_isRest_40 (by decide) ?_
      refine q_imul C dX2_isRest_41 ?_
      refine q_iload C dX2_isRest_42 rfl ?_
      refine q_iadd C dX2_isRest_44 ?_
      refine x_iald C dX2_isRest_45 h (fun v9 h => ?_)
      refine q_aload_n C dX2_isRest_46 rfl ?_
      refine x_getR (ci := 2) (j := 6) C dX2_isRest_47 lkF_X2_26 rfl h (fun c10 h => ?_)
      refine x_nn h (fun r11 h => ?_)
      refine q_iload_n C dX2_isRest_50 rfl ?_
      refine x_iald C dX2_isRest_51 h (fun v12 h => ?_)
      refine q_icmp_le (tgt := 57) C dX2_isRest_52 (by decide) h (fun _ h => ?_) (fun _ h => ?_)
      · exact q_msk [false, false, false, false, false] (kE0 (Option.some.inj h).symm)
      · refine x_iinc (w := (1 : Int32)) (L' := [some (.ref l0), some (.int l1), some (.int l2), some (.int l3), some (.int (l4 + (1 : Int32)))]) C dX2_isRest_57 rfl (by decide) (by decide) rfl rfl ?_
        refine q_goto (tgt := 9) C dX2_isRest_60 (by decide) ?_
        exact q_msk [true, true, true, true, true] (kC _ (Option.some.inj h).symm)
  · exact q_msk [false, false, false, false, false] (kE1 (Option.some.inj h).symm)
set_option maxRecDepth 100000 in
set_option maxHeartbeats 4000000 in
theorem lW_X2_isRest_9 {K : q_K} {Q : State → Prop} (C : q_C K yX2_isRest cX2_isRest 5 (Option.some Jvm.ClassFile.FieldType.boolean) 1 0 0) (l0 : Nat) (l1 : Int32) (l2 : Int32) (l3 : Int32) (M : q_Mem) (n : Nat) : ∀ (l4 : Int32) (e : ((Unit) ⊕ (Unit))), q_lp (fun s => B_X2_isRest_9 l0 l1 l2 l3 s M) n l4 = some e → (e = (.inl ()) → q_W K 5 Q 0 0 M 55 [none, none, none, none, none] []) → (e = (.inr ()) → q_W K 5 Q 0 0 M 63 [none, none, none, none, none] []) → q_W K 5 Q 0 0 M 9 [some (.ref l0), some (.int l1), some (.int l2), some (.int l3), some (.int l4)] [] := by
  induction n with
  | zero => intro l4 e h; cases h
  | succ n ih =>
    intro l4 e h kE0 kE1
    obtain ⟨stp, e1, e2⟩ := q_bind h
    refine bW_X2_isRest_9 C l0 l1 l2 l3 l4 M e1 (fun a0 hs => ?_) (fun hs => ?_) (fun hs => ?_)
    · subst hs; exact ih _ _ e2 kE0 kE1
    · subst hs; exact kE0 (Option.some.inj e2).symm
    · subst hs; exact kE1 (Option.some.inj e2).symm
noncomputable def F_X2_isRest (l0 : Nat) (l1 : Int32) (l2 : Int32) (M : q_Mem) : Option (Int32) := (q_lp (fun s => B_X2_isRest_9 l0 l1 l2 ((l1 * (4 : Int32)) + l2) s M) q_fu (0 : Int32)).bind (fun e13 => match e13 with | .inl () => q_rq (0 : Int32) | .inr () => q_rq (1 : Int32))
set_option maxRecDepth 100000 in
set_option maxHeartbeats 4000000 in
theorem c_X2_isRest (l : Launch) (G : q_G) (l0 : Nat) (l1 : Int32) (l2 : Int32) (M : q_Mem) {r : Int32} (h : F_X2_isRest l0 l1 l2 M = some r) : q_Met l G yX2_isRest cX2_isRest 5 (Option.some Jvm.ClassFile.FieldType.boolean) 1 0 0 [.ref l0, .int l1, .int l2] M (some (.int r)) M := by
  unfold F_X2_isRest at h
  refine q_enter [some (.ref l0), some (.int l1), some (.int l2), none, none] (by decide) (Nat.le_of_ble_eq_true rfl) rfl (fun K C => ?_)
  refine q_iload_n C dX2_isRest_0 rfl ?_
  refine x_iconst (v := (4 : Int32)) C dX2_isRest_1 (by decide) ?_
  refine q_imul C dX2_isRest_2 ?_
  refine q_iload_n C dX2_isRest_3 rfl ?_
  refine q_iadd C dX2_isRest_4 ?_
  refine q_istore_n (L' := [some (.ref l0), some (.int l1), some (.int l2), some (.int ((l1 * (4 : Int32)) + l2)), none]) C dX2_isRest_5 (by decide) rfl rfl ?_
  refine x_iconst (v := (0 : Int32)) C dX2_isRest_6 (by decide) ?_
  refine q_istore (L' := [some (.ref l0), some (.int l1), some (.int l2), some (.int ((l1 * (4 : Int32)) + l2)), some (.int (0 : Int32))]) C dX2_isRest_7 (by decide) rfl rfl ?_
  obtain ⟨e13, he, h⟩ := q_bind h
  refine q_msk [true, true, true, true, true] (lW_X2_isRest_9 C l0 l1 l2 ((l1 * (4 : Int32)) + l2) M q_fu _ _ he (fun hs => ?_) (fun hs => ?_))
  · have hs := hs.symm
    subst hs
    refine x_iconst (v := (0 : Int32)) C dX2_isRest_55 (by decide) ?_
    exact q_zret (res := (r, M)) C dX2_isRest_56 rfl (by decide) (by decide) (q_rqE h).1 (congrArg (fun z => (z, M)) (q_rqE h).2)
  · have hs := hs.symm
    subst hs
    refine x_iconst (v := (1 : Int32)) C dX2_isRest_63 (by decide) ?_
    exact q_zret (res := (r, M)) C dX2_isRest_64 rfl (by decide) (by decide) (q_rqE h).1 (congrArg (fun z => (z, M)) (q_rqE h).2)
noncomputable def J_X2_restCount_26_4 (l0 : Nat) (l1 : Int32) (l2 : Int32) (M : q_Mem) : Option ((Int32 × Int32) ⊕ (Int32)) := some (.inl (l1, (l2 + (1 : Int32))))
set_option maxRecDepth 100000 in
set_option maxHeartbeats 4000000 in
theorem jW_X2_restCount_26_4 {K : q_K} {Q : State → Prop} (C : q_C K yX2_restCount cX2_restCount 3 (Option.some Jvm.ClassFile.FieldType.int) 2 0 0) (l0 : Nat) (l1 : Int32) (l2 : Int32) (M : q_Mem) {stp : (Int32 × Int32) ⊕ (Int32)} (h : J_X2_restCount_26_4 l0 l1 l2 M = some stp) (kC : ∀ (l1 : Int32) (l2 : Int32), stp = .inl (l1, l2) → q_W K 3 Q 0 0 M 4 [some (.ref l0), some (.int l1), some (.int l2)] []) (kE0 : ∀ (l1 : Int32), stp = .inr l1 → q_W K 3 Q 0 0 M 32 [none, some (.int l1), none] []) : q_W K 3 Q 0 0 M 26 [some (.ref l0), some (.int l1), some (.int l2)] [] := by
  unfold J_X2_restCount_26_4 at h
  refine x_iinc (w := (1 : Int32)) (L' := [some (.ref l0), some (.int l1), some (.int (l2 + (1 : Int32)))]) C dX2_restCount_26 rfl (by decide) (by decide) rfl rfl ?_
  refine q_goto (tgt := 4) C dX2_restCount_29 (by decide) ?_
  exact q_msk [true, true, true] (kC _ _ (Option.some.inj h).symm)
noncomputable def B_X2_restCount_4 (l0 : Nat) (l1 : Int32) (l2 : Int32) (M : q_Mem) : Option ((Int32 × Int32) ⊕ (Int32)) := (if l2 < (16 : Int32) then (q_dvi l2 (4 : Int32) (fun v1 => (q_rmi l2 (4 : Int32) (fun v2 => (q_ob M l0 2 ((F_X2_isRest l0 v1 v2 M).bind (fun u3 => (if u3 = 0 then J_X2_restCount_26_4 l0 l1 l2 M else J_X2_restCount_26_4 l0 (l1 + (1 : Int32)) l2 M)))))))) else some (.inr l1))
set_option maxRecDepth 100000 in
set_option maxHeartbeats 4000000 in
theorem bW_X2_restCount_4 {K : q_K} {Q : State → Prop} (C : q_C K yX2_restCount cX2_restCount 3 (Option.some Jvm.ClassFile.FieldType.int) 2 0 0) (l0 : Nat) (l1 : Int32) (l2 : Int32) (M : q_Mem) {stp : (Int32 × Int32) ⊕ (Int32)} (h : B_X2_restCount_4 l0 l1 l2 M = some stp) (kC : ∀ (l1 : Int32) (l2 : Int32), stp = .inl (l1, l2) → q_W K 3 Q 0 0 M 4 [some (.ref l0), some (.int l1), some (.int l2)] []) (kE0 : ∀ (l1 : Int32), stp = .inr l1 → q_W K 3 Q 0 0 M 32 [none, some (.int l1), none] []) : q_W K 3 Q 0 0 M 4 [some (.ref l0), some (.int l1), some (.int l2)] [] := by
  unfold B_X2_restCount_4 at h
  refine q_iload_n C dX2_restCount_4 rfl ?_
  refine x_bipush (v := (16 : Int32)) C dX2_restCount_5 (by decide) ?_
  refine q_icmp_ge (tgt := 32) C dX2_restCount_7 (by decide) h (fun _ h => ?_) (fun _ h => ?_)
  · refine q_aload_n C dX2_restCount_10 rfl ?_
    refine q_iload_n C dX2_restCount_11 rfl ?_
    refine x_iconst (v := (4 : Int32)) C dX2_restCount_12 (by decide) ?_
    refine q_idiv C dX2_restCount_13 h (fun v1 h => ?_)
    refine q_iload_n C dX2_restCount_14 rfl ?_
    refine x_iconst (v := (4 : Int32)) C dX2_restCount_15 (by decide) ?_
    refine q_irem C dX2_restCount_16 h (fun v2 h => ?_)
    obtain ⟨hk, h⟩ := q_obE h
    obtain ⟨u3, e1, h⟩ := q_bind h
    refine x_callV0 C dX2_restCount_17 lkM_X2_135 mV_X2_isRest ⟨_, rfl, rfl⟩ hk (c_X2_isRest _ _ _ _ _ _ e1) rfl rfl (Nat.le_of_ble_eq_true rfl) (by decide) (by decide) ?_
    refine q_if_eq (tgt := 26) C dX2_restCount_20 (by decide) h (fun _ h => ?_) (fun _ h => ?_)
    · exact q_msk [true, true, true] (jW_X2_restCount_26_4 C l0 l1 l2 M h kC kE0)
    · refine x_iinc (w := (1 : Int32)) (L' := [some (.ref l0), some (.int (l1 + (1 : Int32))), some (.int l2)]) C dX2_restCount_23 rfl (by decide) (by decide) rfl rfl ?_
      exact q_msk [true, true, true] (jW_X2_restCount_26_4 C l0 (l1 + (1 : Int32)) l2 M h kC kE0)
  · exact q_msk [false, true, false] (kE0 _ (Option.some.inj h).symm)
set_option maxRecDepth 100000 in
set_option maxHeartbeats 4000000 in
theorem lW_X2_restCount_4 {K : q_K} {Q : State → Prop} (C : q_C K yX2_restCount cX2_restCount 3 (Option.some Jvm.ClassFile.FieldType.int) 2 0 0) (l0 : Nat) (M : q_Mem) (n : Nat) : ∀ (l1 : Int32) (l2 : Int32) (e : (Int32)), q_lp (fun s => B_X2_restCount_4 l0 s.1 s.2 M) n (l1, l2) = some e → (∀ (l1 : Int32), e = l1 → q_W K 3 Q 0 0 M 32 [none, some (.int l1), none] []) → q_W K 3 Q 0 0 M 4 [some (.ref l0), some (.int l1), some (.int l2)] [] := by
  induction n with
  | zero => intro l1 l2 e h; cases h
  | succ n ih =>
    intro l1 l2 e h kE0
    obtain ⟨stp, e1, e2⟩ := q_bind h
    refine bW_X2_restCount_4 C l0 l1 l2 M e1 (fun a0 a1 hs => ?_) (fun b0 hs => ?_)
    · subst hs; exact ih _ _ _ e2 kE0
    · subst hs; exact kE0 _ (Option.some.inj e2).symm
noncomputable def F_X2_restCount (l0 : Nat) (M : q_Mem) : Option (Int32) := (q_lp (fun s => B_X2_restCount_4 l0 s.1 s.2 M) q_fu ((0 : Int32), (0 : Int32))).bind (fun e4 => match e4 with | w5 => some w5)
set_option maxRecDepth 100000 in
set_option maxHeartbeats 4000000 in
theorem c_X2_restCount (l : Launch) (G : q_G) (l0 : Nat) (M : q_Mem) {r : Int32} (h : F_X2_restCount l0 M = some r) : q_Met l G yX2_restCount cX2_restCount 3 (Option.some Jvm.ClassFile.FieldType.int) 2 0 0 [.ref l0] M (some (.int r)) M := by
  unfold F_X2_restCount at h
  refine q_enter [some (.ref l0), none, none] (by decide) (Nat.le_of_ble_eq_true rfl) rfl (fun K C => ?_)
  refine x_iconst (v := (0 : Int32)) C dX2_restCount_0 (by decide) ?_
  refine q_istore_n (L' := [some (.ref l0), some (.int (0 : Int32)), none]) C dX2_restCount_1 (by decide) rfl rfl ?_
  refine x_iconst (v := (0 : Int32)) C dX2_restCount_2 (by decide) ?_
  refine q_istore_n (L' := [some (.ref l0), some (.int (0 : Int32)), some (.int (0 : Int32))]) C dX2_restCount_3 (by decide) rfl rfl ?_
  obtain ⟨e4, he, h⟩ := q_bind h
  refine q_msk [true, true, true] (lW_X2_restCount_4 C l0 M q_fu _ _ _ he (fun w5 hs => ?_))
  · have hs := hs.symm
    subst hs
    refine q_iload_n C dX2_restCount_32 rfl ?_
    exact q_iret (res := (r, M)) C dX2_restCount_33 rfl (by decide) (by decide) (congrArg (fun z => (z, M)) (Option.some.inj h))
