noncomputable def F_J0_indexOf_7cf53 (l0 : Nat) (l1 : Int32) (l2 : Int32) (M : q_Mem) : Option (Int32) := (q_ob M l0 14 ((F_J0_isLatin1_aae02 l0 M).bind (fun u1 => (if u1 = 0 then none else (q_gR M l0 14 0 (fun c2 => q_nn c2 (fun r3 => (q_ob M l0 14 ((F_J0_length_8abf5 l0 M).bind (fun u4 => ((F_J1_indexOf_4cfef r3 l1 l2 u4 M).bind (fun u5 => some u5))))))))))))
set_option maxRecDepth 100000 in
set_option maxHeartbeats 4000000 in
theorem c_J0_indexOf_7cf53 (l : Launch) (G : q_G) (l0 : Nat) (l1 : Int32) (l2 : Int32) (M : q_Mem) {r : Int32} (h : F_J0_indexOf_7cf53 l0 l1 l2 M = some r) : q_Met l G yJ0_indexOf_7cf53 cJ0_indexOf_7cf53 3 (Option.some Jvm.ClassFile.FieldType.int) 3 0 0 [.ref l0, .int l1, .int l2] M (some (.int r)) M := by
  unfold F_J0_indexOf_7cf53 at h
  refine q_enter [some (.ref l0), some (.int l1), some (.int l2)] (by decide) (Nat.le_of_ble_eq_true rfl) rfl (fun K C => ?_)
  refine q_aload_n C dJ0_indexOf_7cf53_0 rfl ?_
  obtain ⟨hk, h⟩ := q_obE h
  obtain ⟨u1, e1, h⟩ := q_bind h
  refine x_callT C dJ0_indexOf_7cf53_1 wd_455 mV_J0_isLatin1_aae02 rfl hk (c_J0_isLatin1_aae02 _ _ _ _ e1) rfl rfl (Nat.le_of_ble_eq_true rfl) (by decide) (by decide) ?_
  refine q_if_eq (tgt := 23) C dJ0_indexOf_7cf53_4 (by decide) h (fun _ h => ?_) (fun _ h => ?_)
  · cases h
  · refine q_aload_n C dJ0_indexOf_7cf53_7 rfl ?_
    refine x_getSV C dJ0_indexOf_7cf53_8 wd_1859 h (fun c2 h => ?_)
    refine x_nn h (fun r3 h => ?_)
    refine q_iload_n C dJ0_indexOf_7cf53_11 rfl ?_
    refine q_iload_n C dJ0_indexOf_7cf53_12 rfl ?_
    refine q_aload_n C dJ0_indexOf_7cf53_13 rfl ?_
    obtain ⟨hk, h⟩ := q_obE h
    obtain ⟨u4, e1, h⟩ := q_bind h
    refine x_callT C dJ0_indexOf_7cf53_14 wd_459 mV_J0_length_8abf5 rfl hk (c_J0_length_8abf5 _ _ _ _ e1) rfl rfl (Nat.le_of_ble_eq_true rfl) (by decide) (by decide) ?_
    obtain ⟨u5, e1, h⟩ := q_bind h
    refine x_callS0 C dJ0_indexOf_7cf53_17 lkM_J0_637 mS_J1_indexOf_4cfef (c_J1_indexOf_4cfef _ _ _ _ _ _ _ e1) rfl rfl (Nat.le_of_ble_eq_true rfl) (by decide) (by decide) ?_
    refine q_goto (tgt := 36) C dJ0_indexOf_7cf53_20 (by decide) ?_
    exact q_iret (res := (r, M)) C dJ0_indexOf_7cf53_36 rfl (by decide) (by decide) (congrArg (fun z => (z, M)) (Option.some.inj h))
noncomputable def F_J0_indexOf_0f7a4 (l0 : Nat) (l1 : Int32) (M : q_Mem) : Option (Int32) := (q_ob M l0 14 ((F_J0_indexOf_7cf53 l0 l1 (0 : Int32) M).bind (fun u1 => some u1)))
set_option maxRecDepth 100000 in
set_option maxHeartbeats 4000000 in
theorem c_J0_indexOf_0f7a4 (l : Launch) (G : q_G) (l0 : Nat) (l1 : Int32) (M : q_Mem) {r : Int32} (h : F_J0_indexOf_0f7a4 l0 l1 M = some r) : q_Met l G yJ0_indexOf_0f7a4 cJ0_indexOf_0f7a4 2 (Option.some Jvm.ClassFile.FieldType.int) 4 0 0 [.ref l0, .int l1] M (some (.int r)) M := by
  unfold F_J0_indexOf_0f7a4 at h
  refine q_enter [some (.ref l0), some (.int l1)] (by decide) (Nat.le_of_ble_eq_true rfl) rfl (fun K C => ?_)
  refine q_aload_n C dJ0_indexOf_0f7a4_0 rfl ?_
  refine q_iload_n C dJ0_indexOf_0f7a4_1 rfl ?_
  refine x_iconst (v := (0 : Int32)) C dJ0_indexOf_0f7a4_2 (by decide) ?_
  obtain ⟨hk, h⟩ := q_obE h
  obtain ⟨u1, e1, h⟩ := q_bind h
  refine x_callT C dJ0_indexOf_0f7a4_3 wd_451 mV_J0_indexOf_7cf53 rfl hk (c_J0_indexOf_7cf53 _ _ _ _ _ _ e1) rfl rfl (Nat.le_of_ble_eq_true rfl) (by decide) (by decide) ?_
  exact q_iret (res := (r, M)) C dJ0_indexOf_0f7a4_6 rfl (by decide) (by decide) (congrArg (fun z => (z, M)) (Option.some.inj h))
noncomputable def F_X9_peekAmong (l0 : Nat) (l1 : Nat) (M : q_Mem) : Option (Int32 × q_Mem) := (q_ob M l0 9 ((F_X9_peek l0 M).bind (fun x => match x with | (u1, M2) => (if u1 = (-1 : Int32) then some ((-1 : Int32), M2) else (q_ob M2 l1 14 ((F_J0_indexOf_0f7a4 l1 ((u1.toUInt32 % 65536).toInt32) M2).bind (fun u3 => some (u3, M2))))))))
set_option maxRecDepth 100000 in
set_option maxHeartbeats 4000000 in
theorem c_X9_peekAmong (l : Launch) (G : q_G) (l0 : Nat) (l1 : Nat) (M : q_Mem) {r : Int32} {M' : q_Mem} (h : F_X9_peekAmong l0 l1 M = some (r, M')) : q_Met l G yX9_peekAmong cX9_peekAmong 3 (Option.some Jvm.ClassFile.FieldType.int) 5 0 0 [.ref l0, .ref l1] M (some (.int r)) M' := by
  unfold F_X9_peekAmong at h
  refine q_enter [some (.ref l0), some (.ref l1), none] (by decide) (Nat.le_of_ble_eq_true rfl) rfl (fun K C => ?_)
  refine q_aload_n C dX9_peekAmong_0 rfl ?_
  obtain ⟨hk, h⟩ := q_obE h
  obtain ⟨⟨u1, M2⟩, e1, h⟩ := q_bind h
  refine x_callV0 C dX9_peekAmong_1 lkM_X9_25 mV_X9_peek ⟨_, rfl, rfl⟩ hk (c_X9_peek _ _ _ _ e1) rfl rfl (Nat.le_of_ble_eq_true rfl) (by decide) (by decide) ?_
  refine q_istore_n (L' := [some (.ref l0), some (.ref l1), some (.int u1)]) C dX9_peekAmong_4 (by decide) rfl rfl ?_
  refine q_iload_n C dX9_peekAmong_5 rfl ?_
  refine x_iconst (v := (-1 : Int32)) C dX9_peekAmong_6 (by decide) ?_
  refine q_icmp_ne (tgt := 14) C dX9_peekAmong_7 (by decide) h (fun _ h => ?_) (fun _ h => ?_)
  · refine x_iconst (v := (-1 : Int32)) C dX9_peekAmong_10 (by decide) ?_
    refine q_goto (tgt := 20) C dX9_peekAmong_11 (by decide) ?_
    exact q_iret C dX9_peekAmong_20 rfl (by decide) (by decide) (Option.some.inj h)
  · refine q_aload_n C dX9_peekAmong_14 rfl ?_
    refine q_iload_n C dX9_peekAmong_15 rfl ?_
    refine q_i2c C dX9_peekAmong_16 ?_
    obtain ⟨hk, h⟩ := q_obE h
    obtain ⟨u3, e1, h⟩ := q_bind h
    refine x_callT C dX9_peekAmong_17 wd_447 mV_J0_indexOf_0f7a4 rfl hk (c_J0_indexOf_0f7a4 _ _ _ _ _ e1) rfl rfl (Nat.le_of_ble_eq_true rfl) (by decide) (by decide) ?_
    exact q_iret C dX9_peekAmong_20 rfl (by decide) (by decide) (Option.some.inj h)
noncomputable def F_X9_isDigit (l0 : Int32) (M : q_Mem) : Option (Int32) := (if l0 < (48 : Int32) then q_rq (0 : Int32) else (if (57 : Int32) < l0 then q_rq (0 : Int32) else q_rq (1 : Int32)))
set_option maxRecDepth 100000 in
set_option maxHeartbeats 4000000 in
theorem c_X9_isDigit (l : Launch) (G : q_G) (l0 : Int32) (M : q_Mem) {r : Int32} (h : F_X9_isDigit l0 M = some r) : q_Met l G yX9_isDigit cX9_isDigit 1 (Option.some Jvm.ClassFile.FieldType.boolean) 1 0 0 [.int l0] M (some (.int r)) M := by
  unfold F_X9_isDigit at h
  refine q_enter [some (.int l0)] (by decide) (Nat.le_of_ble_eq_true rfl) rfl (fun K C => ?_)
  refine q_iload_n C dX9_isDigit_0 rfl ?_
  refine x_bipush (v := (48 : Int32)) C dX9_isDigit_1 (by decide) ?_
  refine q_icmp_lt (tgt := 16) C dX9_isDigit_3 (by decide) h (fun _ h => ?_) (fun _ h => ?_)
  · refine x_iconst (v := (0 : Int32)) C dX9_isDigit_16 (by decide) ?_
    exact q_zret (res := (r, M)) C dX9_isDigit_17 rfl (by decide) (by decide) (q_rqE h).1 (congrArg (fun z => (z, M)) (q_rqE h).2)
  · refine q_iload_n C dX9_isDigit_6 rfl ?_
    refine x_bipush (v := (57 : Int32)) C dX9_isDigit_7 (by decide) ?_
    refine q_icmp_gt (tgt := 16) C dX9_isDigit_9 (by decide) h (fun _ h => ?_) (fun _ h => ?_)
    · refine x_iconst (v := (0 : Int32)) C dX9_isDigit_16 (by decide) ?_
      exact q_zret (res := (r, M)) C dX9_isDigit_17 rfl (by decide) (by decide) (q_rqE h).1 (congrArg (fun z => (z, M)) (q_rqE h).2)
    · refine x_iconst (v := (1 : Int32)) C dX9_isDigit_12 (by decide) ?_
      refine q_goto (tgt := 17) C dX9_isDigit_13 (by decide) ?_
      exact q_zret (res := (r, M)) C dX9_isDigit_17 rfl (by decide) (by decide) (q_rqE h).1 (congrArg (fun z => (z, M)) (q_rqE h).2)
noncomputable def J_X9_readNumber_79_22 (l0 : Nat) (l1 : Int32) (l2 : Int32) (l3 : Int32) (l5 : Int32) (l6 : Int32) (s0 : Int32) (M : q_Mem) : Option ((Int32 × Int32 × Int32 × q_Mem) ⊕ ((Int32 × q_Mem) ⊕ (q_Mem))) := ((F_X9_isDigit s0 M).bind (fun u12 => (if u12 = 0 then some (.inr (.inl (l5, M))) else some (.inl (s0, l5, (l6 + (1 : Int32)), M)))))
set_option maxRecDepth 100000 in
set_option maxHeartbeats 4000000 in
theorem jW_X9_readNumber_79_22 {K : q_K} {Q : State → Prop} (C : q_C K yX9_readNumber cX9_readNumber 8 (Option.some Jvm.ClassFile.FieldType.boolean) 2 0 0) (l0 : Nat) (l1 : Int32) (l2 : Int32) (l3 : Int32) (l5 : Int32) (l6 : Int32) (s0 : Int32) (M : q_Mem) {stp : (Int32 × Int32 × Int32 × q_Mem) ⊕ ((Int32 × q_Mem) ⊕ (q_Mem))} (h : J_X9_readNumber_79_22 l0 l1 l2 l3 l5 l6 s0 M = some stp) (kC : ∀ (l4 : Int32) (l5 : Int32) (l6 : Int32) (M : q_Mem), stp = .inl (l4, l5, l6, M) → q_W K 8 Q 0 0 M 22 [some (.ref l0), some (.int l1), some (.int l2), some (.int l3), some (.int l4), some (.int l5), some (.int l6), none] []) (kE0 : ∀ (l5 : Int32) (M : q_Mem), stp = .inr (.inl (l5, M)) → q_W K 8 Q 0 0 M 89 [some (.ref l0), none, some (.int l2), some (.int l3), none, some (.int l5), none, none] []) (kE1 : ∀ (M : q_Mem), stp = .inr (.inr M) → q_W K 8 Q 0 0 M 142 [none, none, none, none, none, none, none, none] []) : q_W K 8 Q 0 0 M 79 [some (.ref l0), some (.int l1), some (.int l2), some (.int l3), none, some (.int l5), some (.int l6), none] [.int s0] := by
  unfold J_X9_readNumber_79_22 at h
  refine q_istore (L' := [some (.ref l0), some (.int l1), some (.int l2), some (.int l3), some (.int s0), some (.int l5), some (.int l6), none]) C dX9_readNumber_79 (by decide) rfl rfl ?_
  refine q_iload C dX9_readNumber_81 rfl ?_
  obtain ⟨u12, e1, h⟩ := q_bind h
  refine x_callS0 C dX9_readNumber_83 lkM_X9_35 mS_X9_isDigit (c_X9_isDigit _ _ _ _ e1) rfl rfl (Nat.le_of_ble_eq_true rfl) (by decide) (by decide) ?_
  refine q_if_ne (tgt := 136) C dX9_readNumber_86 (by decide) h (fun _ h => ?_) (fun _ h => ?_)
  · exact q_msk [true, false, true, true, false, true, false, false] (kE0 _ _ (Option.some.inj h).symm)
  · refine x_iinc (w := (1 : Int32)) (L' := [some (.ref l0), some (.int l1), some (.int l2), some (.int l3), some (.int s0), some (.int l5), some (.int (l6 + (1 : Int32))), none]) C dX9_readNumber_136 rfl (by decide) (by decide) rfl rfl ?_
    refine q_goto (tgt := 22) C dX9_readNumber_139 (by decide) ?_
    exact q_msk [true, true, true, true, true, true, true, false] (kC _ _ _ _ (Option.some.inj h).symm)
noncomputable def B_X9_readNumber_22 (l0 : Nat) (l1 : Int32) (l2 : Int32) (l3 : Int32) (l4 : Int32) (l5 : Int32) (l6 : Int32) (M : q_Mem) : Option ((Int32 × Int32 × Int32 × q_Mem) ⊕ ((Int32 × q_Mem) ⊕ (q_Mem))) := (if l6 < l1 then (q_gI M l0 9 2 (fun v4 => (q_pI M l0 9 2 (v4 + (1 : Int32)) (fun M5 => (q_gI M5 l0 9 2 (fun v6 => (q_gI M5 l0 9 1 (fun v7 => (if v6 < v7 then (q_gR M5 l0 9 0 (fun c8 => q_nn c8 (fun r9 => (q_gI M5 l0 9 2 (fun v10 => (q_lI M5 1 r9 v10 (fun v11 => J_X9_readNumber_79_22 l0 l1 l2 l3 (((l5 * (10 : Int32)) + l4) - (48 : Int32)) l6 (v11 &&& (255 : Int32)) M5))))))) else J_X9_readNumber_79_22 l0 l1 l2 l3 (((l5 * (10 : Int32)) + l4) - (48 : Int32)) l6 (-1 : Int32) M5))))))))) else some (.inr (.inr M)))
set_option maxRecDepth 100000 in
set_option maxHeartbeats 4000000 in
theorem bW_X9_readNumber_22 {K : q_K} {Q : State → Prop} (C : q_C K yX9_readNumber cX9_readNumber 8 (Option.some Jvm.ClassFile.FieldType.boolean) 2 0 0) (l0 : Nat) (l1 : Int32) (l2 : Int32) (l3 : Int32) (l4 : Int32) (l5 : Int32) (l6 : Int32) (M : q_Mem) {stp : (Int32 × Int32 × Int32 × q_Mem) ⊕ ((Int32 × q_Mem) ⊕ (q_Mem))} (h : B_X9_readNumber_22 l0 l1 l2 l3 l4 l5 l6 M = some stp) (kC : ∀ (l4 : Int32) (l5 : Int32) (l6 : Int32) (M : q_Mem), stp = .inl (l4, l5, l6, M) → q_W K 8 Q 0 0 M 22 [some (.ref l0), some (.int l1), some (.int l2), some (.int l3), some (.int l4), some (.int l5), some (.int l6), none] []) (kE0 : ∀ (l5 : Int32) (M : q_Mem), stp = .inr (.inl (l5, M)) → q_W K 8 Q 0 0 M 89 [some (.ref l0), none, some (.int l2), some (.int l3), none, some (.int l5), none, none] []) (kE1 : ∀ (M : q_Mem), stp = .inr (.inr M) → q_W K 8 Q 0 0 M 142 [none, none, none, none, none, none, none, none] []) : q_W K 8 Q 0 0 M 22 [some (.ref l0), some (.int l1), some (.int l2), some (.int l3), some (.int l4), some (.int l5), some (.int l6), none] [] := by
  unfold B_X9_readNumber_22 at h
  refine q_iload C dX9_readNumber_22 rfl ?_
  refine q_iload_n C dX9_readNumber_24 rfl ?_
  refine q_icmp_ge (tgt := 142) C dX9_readNumber_25 (by decide) h (fun _ h => ?_) (fun _ h => ?_)
  · refine q_iload C dX9_readNumber_28 rfl ?_
    refine x_bipush (v := (10 : Int32)) C dX9_readNumber_30 (by decide) ?_
    refine q_imul C dX9_readNumber_32 ?_
    refine q_iload C dX9_readNumber_33 rfl ?_
    refine q_iadd C dX9_readNumber_35 ?_
    refine x_bipush (v := (48 : Int32)) C dX9_readNumber_36 (by decide) ?_
    refine q_isub C dX9_readNumber_38 ?_
    refine q_istore (L' := [some (.ref l0), some (.int l1), some (.int l2), some (.int l3), some (.int l4), some (.int (((l5 * (10 : Int32)) + l4) - (48 : Int32))), some (.int l6), none]) C dX9_readNumber_39 (by decide) rfl rfl ?_
    refine q_aload_n C dX9_readNumber_41 rfl ?_
    refine q_dup C dX9_readNumber_42 rfl ?_
    refine x_getI (ci := 9) (j := 2) C dX9_readNumber_43 lkF_X9_19 rfl h (fun v4 h => ?_)
    refine x_iconst (v := (1 : Int32)) C dX9_readNumber_46 (by decide) ?_
    refine q_iadd C dX9_readNumber_47 ?_
    refine x_putI (ci := 9) (j := 2) C dX9_readNumber_48 lkF_X9_19 (fun r hr => by cases hr; rfl) rfl h (fun M5 h => ?_)
    refine q_aload_n C dX9_readNumber_51 rfl ?_
    refine x_getI (ci := 9) (j := 2) C dX9_readNumber_52 lkF_X9_19 rfl h (fun v6 h => ?_)
    refine q_aload_n C dX9_readNumber_55 rfl ?_
    refine x_getI (ci := 9) (j := 1) C dX9_readNumber_56 lkF_X9_15 rfl h (fun v7 h => ?_)
    refine q_icmp_ge (tgt := 78) C dX9_readNumber_59 (by decide) h (fun _ h => ?_) (fun _ h => ?_)
    · refine q_aload_n C dX9_readNumber_62 rfl ?_
      refine x_getR (ci := 9) (j := 0) C dX9_readNumber_63 lkF_X9_9 rfl h (fun c8 h => ?_)
      refine x_nn h (fun r9 h => ?_)
      refine q_aload_n C dX9_readNumber_66 rfl ?_
      refine x_getI (ci := 9) (j := 2) C dX9_readNumber_67 lkF_X9_19 rfl h (fun v10 h => ?_)
      refine x_bald C dX9_readNumber_70 h (fun v11 h => ?_)
      refine x_sipush (v := (255 : Int32)) C dX9_readNumber_71 (by decide) ?_
      refine q_iand C dX9_readNumber_74 ?_
      refine q_goto (tgt := 79) C dX9_readNumber_75 (by decide) ?_
      exact q_msk [true, true, true, true, false, true, true, false] (jW_X9_readNumber_79_22 C l0 l1 l2 l3 (((l5 * (10 : Int32)) + l4) - (48 : Int32)) l6 (v11 &&& (255 : Int32)) M5 h kC kE0 kE1)
    · refine x_iconst (v := (-1 : Int32)) C dX9_readNumber_78 (by decide) ?_
      exact q_msk [true, true, true, true, false, true, true, false] (jW_X9_readNumber_79_22 C l0 l1 l2 l3 (((l5 * (10 : Int32)) + l4) - (48 : Int32)) l6 (-1 : Int32) M5 h kC kE0 kE1)
  · exact q_msk [false, false, false, false, false, false, false, false] (kE1 _ (Option.some.inj h).symm)
set_option maxRecDepth 100000 in
set_option maxHeartbeats 4000000 in
theorem lW_X9_readNumber_22 {K : q_K} {Q : State → Prop} (C : q_C K yX9_readNumber cX9_readNumber 8 (Option.some Jvm.ClassFile.FieldType.boolean) 2 0 0) (l0 : Nat) (l1 : Int32) (l2 : Int32) (l3 : Int32) (n : Nat) : ∀ (l4 : Int32) (l5 : Int32) (l6 : Int32) (M : q_Mem) (e : ((Int32 × q_Mem) ⊕ (q_Mem))), q_lp (fun s => B_X9_readNumber_22 l0 l1 l2 l3 s.1 s.2.1 s.2.2.1 s.2.2.2) n (l4, l5, l6, M) = some e → (∀ (l5 : Int32) (M : q_Mem), e = (.inl (l5, M)) → q_W K 8 Q 0 0 M 89 [some (.ref l0), none, some (.int l2), some (.int l3), none, some (.int l5), none, none] []) → (∀ (M : q_Mem), e = (.inr M) → q_W K 8 Q 0 0 M 142 [none, none, none, none, none, none, none, none] []) → q_W K 8 Q 0 0 M 22 [some (.ref l0), some (.int l1), some (.int l2), some (.int l3), some (.int l4), some (.int l5), some (.int l6), none] [] := by
  induction n with
  | zero => intro l4 l5 l6 M e h; cases h
  | succ n ih =>
    intro l4 l5 l6 M e h kE0 kE1
    obtain ⟨stp, e1, e2⟩ := q_bind h
    refine bW_X9_readNumber_22 C l0 l1 l2 l3 l4 l5 l6 M e1 (fun a0 a1 a2 a3 hs => ?_) (fun b0 b1 hs => ?_) (fun b0 hs => ?_)
    · subst hs; exact ih _ _ _ _ _ e2 kE0 kE1
    · subst hs; exact kE0 _ _ (Option.some.inj e2).symm
    · subst hs; exact kE1 _ (Option.some.inj e2).symm
noncomputable def J_X9_readNumber_129 (l7 : Int32) (s0 : Nat) (s1 : Int32) (s2 : Int32) (M : q_Mem) : Option (Int32 × q_Mem) := (q_pI M s0 9 2 (s1 - s2) (fun M18 => q_rz l7 M18))
set_option maxRecDepth 100000 in
set_option maxHeartbeats 4000000 in
theorem jW_X9_readNumber_129 {K : q_K} (C : q_C K yX9_readNumber cX9_readNumber 8 (Option.some Jvm.ClassFile.FieldType.boolean) 2 0 0) (l7 : Int32) (s0 : Nat) (s1 : Int32) (s2 : Int32) (M : q_Mem) {r : Int32} {M' : q_Mem} (h : J_X9_readNumber_129 l7 s0 s1 s2 M = some (r, M')) : q_W K 8 (q_Q K (some (.int r)) M' 0 0) 0 0 M 129 [none, none, none, none, none, none, none, some (.int l7)] [.int s2, .int s1, .ref s0] := by
  unfold J_X9_readNumber_129 at h
  refine q_isub C dX9_readNumber_129 ?_
  refine x_putI (ci := 9) (j := 2) C dX9_readNumber_130 lkF_X9_19 (fun r hr => by cases hr; rfl) rfl h (fun M18 h => ?_)
  refine q_iload C dX9_readNumber_133 rfl ?_
  exact q_zret C dX9_readNumber_135 rfl (by decide) (by decide) (q_rzE h).1 (q_rzE h).2
noncomputable def J_X9_readNumber_112 (l0 : Nat) (s0 : Int32) (M : q_Mem) : Option (Int32 × q_Mem) := (q_gI M l0 9 2 (fun v17 => (if s0 = 0 then J_X9_readNumber_129 s0 l0 v17 (1 : Int32) M else J_X9_readNumber_129 s0 l0 v17 (0 : Int32) M)))
set_option maxRecDepth 100000 in
set_option maxHeartbeats 4000000 in
theorem jW_X9_readNumber_112 {K : q_K} (C : q_C K yX9_readNumber cX9_readNumber 8 (Option.some Jvm.ClassFile.FieldType.boolean) 2 0 0) (l0 : Nat) (s0 : Int32) (M : q_Mem) {r : Int32} {M' : q_Mem} (h : J_X9_readNumber_112 l0 s0 M = some (r, M')) : q_W K 8 (q_Q K (some (.int r)) M' 0 0) 0 0 M 112 [some (.ref l0), none, none, none, none, none, none, none] [.int s0] := by
  unfold J_X9_readNumber_112 at h
  refine q_istore (L' := [some (.ref l0), none, none, none, none, none, none, some (.int s0)]) C dX9_readNumber_112 (by decide) rfl rfl ?_
  refine q_aload_n C dX9_readNumber_114 rfl ?_
  refine q_dup C dX9_readNumber_115 rfl ?_
  refine x_getI (ci := 9) (j := 2) C dX9_readNumber_116 lkF_X9_19 rfl h (fun v17 h => ?_)
  refine q_iload C dX9_readNumber_119 rfl ?_
  refine q_if_eq (tgt := 128) C dX9_readNumber_121 (by decide) h (fun _ h => ?_) (fun _ h => ?_)
  · refine x_iconst (v := (1 : Int32)) C dX9_readNumber_128 (by decide) ?_
    exact q_msk [false, false, false, false, false, false, false, true] (jW_X9_readNumber_129 C s0 l0 v17 (1 : Int32) M h)
  · refine x_iconst (v := (0 : Int32)) C dX9_readNumber_124 (by decide) ?_
    refine q_goto (tgt := 129) C dX9_readNumber_125 (by decide) ?_
    exact q_msk [false, false, false, false, false, false, false, true] (jW_X9_readNumber_129 C s0 l0 v17 (0 : Int32) M h)
noncomputable def J_X9_readNumber_111 (l0 : Nat) (M : q_Mem) : Option (Int32 × q_Mem) := J_X9_readNumber_112 l0 (0 : Int32) M
set_option maxRecDepth 100000 in
set_option maxHeartbeats 4000000 in
theorem jW_X9_readNumber_111 {K : q_K} (C : q_C K yX9_readNumber cX9_readNumber 8 (Option.some Jvm.ClassFile.FieldType.boolean) 2 0 0) (l0 : Nat) (M : q_Mem) {r : Int32} {M' : q_Mem} (h : J_X9_readNumber_111 l0 M = some (r, M')) : q_W K 8 (q_Q K (some (.int r)) M' 0 0) 0 0 M 111 [some (.ref l0), none, none, none, none, none, none, none] [] := by
  unfold J_X9_readNumber_111 at h
  refine x_iconst (v := (0 : Int32)) C dX9_readNumber_111 (by decide) ?_
  exact q_msk [true, false, false, false, false, false, false, false] (jW_X9_readNumber_112 C l0 (0 : Int32) M h)
noncomputable def F_X9_readNumber (l0 : Nat) (l1 : Int32) (l2 : Int32) (l3 : Int32) (M : q_Mem) : Option (Int32 × q_Mem) := (q_ob M l0 9 ((F_X9_peek l0 M).bind (fun x => match x with | (u1, M2) => ((F_X9_isDigit u1 M2).bind (fun u3 => (if u3 = 0 then q_rz (0 : Int32) M2 else (q_lp (fun s => B_X9_readNumber_22 l0 l1 l2 l3 s.1 s.2.1 s.2.2.1 s.2.2.2) q_fu (u1, (0 : Int32), (0 : Int32), M2)).bind (fun e13 => match e13 with | .inl (w14, M15) => (q_pI M15 l0 9 3 w14 (fun M16 => (if w14 < l2 then J_X9_readNumber_111 l0 M16 else (if l3 < w14 then J_X9_readNumber_111 l0 M16 else J_X9_readNumber_112 l0 (1 : Int32) M16)))) | .inr M19 => q_rz (0 : Int32) M19)))))))
set_option maxRecDepth 100000 in
set_option maxHeartbeats 4000000 in
theorem c_X9_readNumber (l : Launch) (G : q_G) (l0 : Nat) (l1 : Int32) (l2 : Int32) (l3 : Int32) (M : q_Mem) {r : Int32} {M' : q_Mem} (h : F_X9_readNumber l0 l1 l2 l3 M = some (r, M')) : q_Met l G yX9_readNumber cX9_readNumber 8 (Option.some Jvm.ClassFile.FieldType.boolean) 2 0 0 [.ref l0, .int l1, .int l2, .int l3] M (some (.int r)) M' := by
  unfold F_X9_readNumber at h
  refine q_enter [some (.ref l0), some (.int l1), some (.int l2), some (.int l3), none, none, none, none] (by decide) (Nat.le_of_ble_eq_true rfl) rfl (fun K C => ?_)
  refine q_aload_n C dX9_readNumber_0 rfl ?_
  obtain ⟨hk, h⟩ := q_obE h
  obtain ⟨⟨u1, M2⟩, e1, h⟩ := q_bind h
  refine x_callV0 C dX9_readNumber_1 lkM_X9_25 mV_X9_peek ⟨_, rfl, rfl⟩ hk (c_X9_peek _ _ _ _ e1) rfl rfl (Nat.le_of_ble_eq_true rfl) (by decide) (by decide) ?_
  refine q_istore (L' := [some (.ref l0), some (.int l1), some (.int l2), some (.int l3), some (.int u1), none, none, none]) C dX9_readNumber_4 (by decide) rfl rfl ?_
  refine q_iload C dX9_readNumber_6 rfl ?_
  obtain ⟨u3, e1, h⟩ := q_bind h
  refine x_callS0 C dX9_readNumber_8 lkM_X9_35 mS_X9_isDigit (c_X9_isDigit _ _ _ _ e1) rfl rfl (Nat.le_of_ble_eq_true rfl) (by decide) (by decide) ?_
  refine q_if_ne (tgt := 16) C dX9_readNumber_11 (by decide) h (fun _ h => ?_) (fun _ h => ?_)
  · refine x_iconst (v := (0 : Int32)) C dX9_readNumber_14 (by decide) ?_
    exact q_zret C dX9_readNumber_15 rfl (by decide) (by decide) (q_rzE h).1 (q_rzE h).2
  · refine x_iconst (v := (0 : Int32)) C dX9_readNumber_16 (by decide) ?_
    refine q_istore (L' := [some (.ref l0), some (.int l1), some (.int l2), some (.int l3), some (.int u1), some (.int (0 : Int32)), none, none]) C dX9_readNumber_17 (by decide) rfl rfl ?_
    refine x_iconst (v := (0 : Int32)) C dX9_readNumber_19 (by decide) ?_
    refine q_istore (L' := [some (.ref l0), some (.int l1), some (.int l2), some (.int l3), some (.int u1), some (.int (0 : Int32)), some (.int (0 : Int32)), none]) C dX9_readNumber_20 (by decide) rfl rfl ?_
    obtain ⟨e13, he, h⟩ := q_bind h
    refine q_msk [true, true, true, true, true, true, true, false] (lW_X9_readNumber_22 C l0 l1 l2 l3 q_fu _ _ _ _ _ he (fun w14 M15 hs => ?_) (fun M19 hs => ?_))
    · have hs := hs.symm
      subst hs
      refine q_aload_n C dX9_readNumber_89 rfl ?_
      refine q_iload C dX9_readNumber_90 rfl ?_
      refine x_putI (ci := 9) (j := 3) C dX9_readNumber_92 lkF_X9_22 (fun r hr => by cases hr; rfl) rfl h (fun M16 h => ?_)
      refine q_iload C dX9_readNumber_95 rfl ?_
      refine q_iload_n C dX9_readNumber_97 rfl ?_
      refine q_icmp_lt (tgt := 111) C dX9_readNumber_98 (by decide) h (fun _ h => ?_) (fun _ h => ?_)
      · exact q_msk [true, false, false, false, false, false, false, false] (jW_X9_readNumber_111 C l0 M16 h)
      · refine q_iload C dX9_readNumber_101 rfl ?_
        refine q_iload_n C dX9_readNumber_103 rfl ?_
        refine q_icmp_gt (tgt := 111) C dX9_readNumber_104 (by decide) h (fun _ h => ?_) (fun _ h => ?_)
        · exact q_msk [true, false, false, false, false, false, false, false] (jW_X9_readNumber_111 C l0 M16 h)
        · refine x_iconst (v := (1 : Int32)) C dX9_readNumber_107 (by decide) ?_
          refine q_goto (tgt := 112) C dX9_readNumber_108 (by decide) ?_
          exact q_msk [true, false, false, false, false, false, false, false] (jW_X9_readNumber_112 C l0 (1 : Int32) M16 h)
    · have hs := hs.symm
      subst hs
      refine x_iconst (v := (0 : Int32)) C dX9_readNumber_142 (by decide) ?_
      exact q_zret C dX9_readNumber_143 rfl (by decide) (by decide) (q_rzE h).1 (q_rzE h).2
noncomputable def B_X3_readItems_17 (l0 : Nat) (l1 : Nat) (l2 : Nat) (l3 : Nat) (l4 : Int32) (l5 : Int32) (l6 : Int32) (M : q_Mem) : Option ((Int32 × Int32 × q_Mem) ⊕ ((q_Mem) ⊕ ((q_Mem) ⊕ ((q_Mem) ⊕ (q_Mem))))) := (q_ob M l1 14 ((F_J0_length_8abf5 l1 M).bind (fun u4 => (if u4 < l6 then some (.inr (.inr (.inr (.inr M)))) else (q_ob M l0 9 ((F_X9_peekAmong l0 l1 M).bind (fun x => match x with | (u5, M6) => (if u5 = (-1 : Int32) then some (.inr (.inl M6)) else (if ((l5 >>> (u5 &&& 31)) &&& (1 : Int32)) = 0 then (q_al M6 l3 (fun v7 => (if (l4 + u5) < v7 then (q_gI M6 l0 9 2 (fun v8 => (q_pI M6 l0 9 2 (v8 + (1 : Int32)) (fun M9 => (q_lI M9 0 l2 ((3 : Int32) * u5) (fun v10 => (q_lI M9 0 l2 (((3 : Int32) * u5) + (1 : Int32)) (fun v11 => (q_ob M9 l0 9 ((F_X9_readNumber l0 (2 : Int32) v10 v11 M9).bind (fun x => match x with | (u12, M13) => (if u12 = 0 then some (.inr (.inr (.inr (.inl M13)))) else (q_gI M13 l0 9 3 (fun v14 => (q_tI M13 l3 (l4 + u5) v14 (fun M15 => some (.inl ((l5 ||| ((1 : Int32) <<< (u5 &&& 31))), (l6 + (1 : Int32)), M15)))))))))))))))))) else some (.inr (.inr (.inl M6)))))) else some (.inr (.inr (.inl M6))))))))))))
set_option maxRecDepth 100000 in
set_option maxHeartbeats 4000000 in
theorem bW_X3_readItems_17 {K : q_K} {Q : State → Prop} (C : q_C K yX3_readItems cX3_readItems 8 (Option.some Jvm.ClassFile.FieldType.boolean) 6 0 0) (l0 : Nat) (l1 : Nat) (l2 : Nat) (l3 : Nat) (l4 : Int32) (l5 : Int32) (l6 : Int32) (M : q_Mem) {stp : (Int32 × Int32 × q_Mem) ⊕ ((q_Mem) ⊕ ((q_Mem) ⊕ ((q_Mem) ⊕ (q_Mem))))} (h : B_X3_readItems_17 l0 l1 l2 l3 l4 l5 l6 M = some stp) (kC : ∀ (l5 : Int32) (l6 : Int32) (M : q_Mem), stp = .inl (l5, l6, M) → q_W K 8 Q 0 0 M 17 [some (.ref l0), some (.ref l1), some (.ref l2), some (.ref l3), some (.int l4), some (.int l5), some (.int l6), none] []) (kE0 : ∀ (M : q_Mem), stp = .inr (.inl M) → q_W K 8 Q 0 0 M 39 [none, none, none, none, none, none, none, none] []) (kE1 : ∀ (M : q_Mem), stp = .inr (.inr (.inl M)) → q_W K 8 Q 0 0 M 61 [none, none, none, none, none, none, none, none] []) (kE2 : ∀ (M : q_Mem), stp = .inr (.inr (.inr (.inl M))) → q_W K 8 Q 0 0 M 104 [none, none, none, none, none, none, none, none] []) (kE3 : ∀ (M : q_Mem), stp = .inr (.inr (.inr (.inr M))) → q_W K 8 Q 0 0 M 123 [none, none, none, none, none, none, none, none] []) : q_W K 8 Q 0 0 M 17 [some (.ref l0), some (.ref l1), some (.ref l2), some (.ref l3), some (.int l4), some (.int l5), some (.int l6), none] [] := by
  unfold B_X3_readItems_17 at h
  refine q_iload C dX3_readItems_17 rfl ?_
  refine q_aload_n C dX3_readItems_19 rfl ?_
  obtain ⟨hk, h⟩ := q_obE h
  obtain ⟨u4, e1, h⟩ := q_bind h
  refine x_callT C dX3_readItems_20 wd_432 mV_J0_length_8abf5 rfl hk (c_J0_length_8abf5 _ _ _ _ e1) rfl rfl (Nat.le_of_ble_eq_true rfl) (by decide) (by decide) ?_
  refine q_icmp_gt (tgt := 123) C dX3_readItems_23 (by decide) h (fun _ h => ?_) (fun _ h => ?_)
  · exact q_msk [false, false, false, false, false, false, false, false] (kE3 _ (Option.some.inj h).symm)
  · refine q_aload_n C dX3_readItems_26 rfl ?_
    refine q_aload_n C dX3_readItems_27 rfl ?_
    obtain ⟨hk, h⟩ := q_obE h
    obtain ⟨⟨u5, M6⟩, e1, h⟩ := q_bind h
    refine x_callV0 C dX3_readItems_28 lkM_X3_93 mV_X9_peekAmong ⟨_, rfl, rfl⟩ hk (c_X9_peekAmong _ _ _ _ _ e1) rfl rfl (Nat.le_of_ble_eq_true rfl) (by decide) (by decide) ?_
    refine q_istore (L' := [some (.ref l0), some (.ref l1), some (.ref l2), some (.ref l3), some (.int l4), some (.int l5), some (.int l6), some (.int u5)]) C dX3_readItems_31 (by decide) rfl rfl ?_
    refine q_iload C dX3_readItems_33 rfl ?_
    refine x_iconst (v := (-1 : Int32)) C dX3_readItems_35 (by decide) ?_
    refine q_icmp_ne (tgt := 41) C dX3_readItems_36 (by decide) h (fun _ h => ?_) (fun _ h => ?_)
    · exact q_msk [false, false, false, false, false, false, false, false] (kE0 _ (Option.some.inj h).symm)
    · refine q_iload C dX3_readItems_41 rfl ?_
      refine q_iload C dX3_readItems_43 rfl ?_
      refine q_ishr C dX3_readItems_45 ?_
      refine x_iconst (v := (1 : Int32)) C dX3_readItems_46 (by decide) ?_
      refine q_iand C dX3_readItems_47 ?_
      refine q_if_ne (tgt := 61) C dX3_readItems_48 (by decide) h (fun _ h => ?_) (fun _ h => ?_)
      · refine q_iload C dX3_readItems_51 rfl ?_
        refine q_iload C dX3_readItems_53 rfl ?_
        refine q_iadd C dX3_readItems_55 ?_
        refine q_aload_n C dX3_readItems_56 rfl ?_
        refine x_alen C dX3_readItems_57 h (fun v7 h => ?_)
        refine q_icmp_lt (tgt := 63) C dX3_readItems_58 (by decide) h (fun _ h => ?_) (fun _ h => ?_)
        · refine q_iload C dX3_readItems_63 rfl ?_
          refine x_iconst (v := (1 : Int32)) C dX3_readItems_65 (by decide) ?_
          refine q_iload C dX3_readItems_66 rfl ?_
          refine q_ishl C dX3_readItems_68 ?_
          refine q_ior C dX3_readItems_69 ?_
          refine q_istore (L' := [some (.ref l0), some (.ref l1), some (.ref l2), some (.ref l3), some (.int l4), some (.int (l5 ||| ((1 : Int32) <<< (u5 &&& 31)))), some (.int l6), some (.int u5)]) C dX3_readItems_70 (by decide) rfl rfl ?_
          refine q_aload_n C dX3_readItems_72 rfl ?_
          refine q_dup C dX3_readItems_73 rfl ?_
          refine x_getI (ci := 9) (j := 2) C dX3_readItems_74 lkF_X3_72 rfl h (fun v8 h => ?_)
          refine x_iconst (v := (1 : Int32)) C dX3_readItems_77 (by decide) ?_
          refine q_iadd C dX3_readItems_78 ?_
          refine x_putI (ci := 9) (j := 2) C dX3_readItems_79 lkF_X3_72 (fun r hr => by cases hr; rfl) rfl h (fun M9 h => ?_)
          refine q_aload_n C dX3_readItems_82 rfl ?_
          refine x_iconst (v := (2 : Int32)) C dX3_readItems_83 (by decide) ?_
          refine q_aload_n C dX3_readItems_84 rfl ?_
          refine x_iconst (v := (3 : Int32)) C dX3_readItems_85 (by decide) ?_
          refine q_iload C dX3_readItems_86 rfl ?_
          refine q_imul C dX3_readItems_88 ?_
          refine x_iald C dX3_readItems_89 h (fun v10 h => ?_)
          refine q_aload_n C dX3_readItems_90 rfl ?_
          refine x_iconst (v := (3 : Int32)) C dX3_readItems_91 (by decide) ?_
          refine q_iload C dX3_readItems_92 rfl ?_
          refine q_imul C dX3_readItems_94 ?_
          refine x_iconst (v := (1 : Int32)) C dX3_readItems_95 (by decide) ?_
          refine q_iadd C dX3_readItems_96 ?_
          refine x_iald C dX3_readItems_97 h (fun v11 h => ?_)
          obtain ⟨hk, h⟩ := q_obE h
          obtain ⟨⟨u12, M13⟩, e1, h⟩ := q_bind h
          refine x_callV0 C dX3_readItems_98 lkM_X3_97 mV_X9_readNumber ⟨_, rfl, rfl⟩ hk (c_X9_readNumber _ _ _ _ _ _ _ e1) rfl rfl (Nat.le_of_ble_eq_true rfl) (by decide) (by decide) ?_
          refine q_if_ne (tgt := 106) C dX3_readItems_101 (by decide) h (fun _ h => ?_) (fun _ h => ?_)
          · exact q_msk [false, false, false, false, false, false, false, false] (kE2 _ (Option.some.inj h).symm)
          · refine q_aload_n C dX3_readItems_106 rfl ?_
            refine q_iload C dX3_readItems_107 rfl ?_
            refine q_iload C dX3_readItems_109 rfl ?_
            refine q_iadd C dX3_readItems_111 ?_
            refine q_aload_n C dX3_readItems_112 rfl ?_
            refine x_getI (ci := 9) (j := 3) C dX3_readItems_113 lkF_X3_101 rfl h (fun v14 h => ?_)
            refine x_iast C dX3_readItems_116 h (fun M15 h => ?_)
            refine x_iinc (w := (1 : Int32)) (L' := [some (.ref l0), some (.ref l1), some (.ref l2), some (.ref l3), some (.int l4), some (.int (l5 ||| ((1 : Int32) <<< (u5 &&& 31)))), some (.int (l6 + (1 : Int32))), some (.int u5)]) C dX3_readItems_117 rfl (by decide) (by decide) rfl rfl ?_
            refine q_goto (tgt := 17) C dX3_readItems_120 (by decide) ?_
            exact q_msk [true, true, true, true, true, true, true, false] (kC _ _ _ (Option.some.inj h).symm)
        · exact q_msk [false, false, false, false, false, false, false, false] (kE1 _ (Option.some.inj h).symm)
      · exact q_msk [false, false, false, false, false, false, false, false] (kE1 _ (Option.some.inj h).symm)
set_option maxRecDepth 100000 in
set_option maxHeartbeats 4000000 in
theorem lW_X3_readItems_17 {K : q_K} {Q : State → Prop} (C : q_C K yX3_readItems cX3_readItems 8 (Option.some Jvm.ClassFile.FieldType.boolean) 6 0 0) (l0 : Nat) (l1 : Nat) (l2 : Nat) (l3 : Nat) (l4 : Int32) (n : Nat) : ∀ (l5 : Int32) (l6 : Int32) (M : q_Mem) (e : ((q_Mem) ⊕ ((q_Mem) ⊕ ((q_Mem) ⊕ (q_Mem))))), q_lp (fun s => B_X3_readItems_17 l0 l1 l2 l3 l4 s.1 s.2.1 s.2.2) n (l5, l6, M) = some e → (∀ (M : q_Mem), e = (.inl M) → q_W K 8 Q 0 0 M 39 [none, none, none, none, none, none, none, none] []) → (∀ (M : q_Mem), e = (.inr (.inl M)) → q_W K 8 Q 0 0 M 61 [none, none, none, none, none, none, none, none] []) → (∀ (M : q_Mem), e = (.inr (.inr (.inl M))) → q_W K 8 Q 0 0 M 104 [none, none, none, none, none, none, none, none] []) → (∀ (M : q_Mem), e = (.inr (.inr (.inr M))) → q_W K 8 Q 0 0 M 123 [none, none, none, none, none, none, none, none] []) → q_W K 8 Q 0 0 M 17 [some (.ref l0), some (.ref l1), some (.ref l2), some (.ref l3), some (.int l4), some (.int l5), some (.int l6), none] [] := by
  induction n with
  | zero => intro l5 l6 M e h; cases h
  | succ n ih =>
    intro l5 l6 M e h kE0 kE1 kE2 kE3
    obtain ⟨stp, e1, e2⟩ := q_bind h
    refine bW_X3_readItems_17 C l0 l1 l2 l3 l4 l5 l6 M e1 (fun a0 a1 a2 hs => ?_) (fun b0 hs => ?_) (fun b0 hs => ?_) (fun b0 hs => ?_) (fun b0 hs => ?_)
    · subst hs; exact ih _ _ _ _ e2 kE0 kE1 kE2 kE3
    · subst hs; exact kE0 _ (Option.some.inj e2).symm
    · subst hs; exact kE1 _ (Option.some.inj e2).symm
    · subst hs; exact kE2 _ (Option.some.inj e2).symm
    · subst hs; exact kE3 _ (Option.some.inj e2).symm
noncomputable def F_X3_readItems (l0 : Nat) (l1 : Nat) (l2 : Nat) (l3 : Nat) (l4 : Int32) (M : q_Mem) : Option (Int32 × q_Mem) := (q_ob M l1 14 ((F_J0_length_8abf5 l1 M).bind (fun u1 => ((F_X3_setUsual l2 l3 l4 u1 M).bind (fun x => match x with | (_, M3) => (q_lp (fun s => B_X3_readItems_17 l0 l1 l2 l3 l4 s.1 s.2.1 s.2.2) q_fu ((0 : Int32), (0 : Int32), M3)).bind (fun e16 => match e16 with | .inl M17 => q_rz (1 : Int32) M17 | .inr (.inl M18) => q_rz (0 : Int32) M18 | .inr (.inr (.inl M19)) => q_rz (0 : Int32) M19 | .inr (.inr (.inr M20)) => q_rz (0 : Int32) M20))))))
set_option maxRecDepth 100000 in
set_option maxHeartbeats 4000000 in
theorem c_X3_readItems (l : Launch) (G : q_G) (l0 : Nat) (l1 : Nat) (l2 : Nat) (l3 : Nat) (l4 : Int32) (M : q_Mem) {r : Int32} {M' : q_Mem} (h : F_X3_readItems l0 l1 l2 l3 l4 M = some (r, M')) : q_Met l G yX3_readItems cX3_readItems 8 (Option.some Jvm.ClassFile.FieldType.boolean) 6 0 0 [.ref l0, .ref l1, .ref l2, .ref l3, .int l4] M (some (.int r)) M' := by
  unfold F_X3_readItems at h
  refine q_enter [some (.ref l0), some (.ref l1), some (.ref l2), some (.ref l3), some (.int l4), none, none, none] (by decide) (Nat.le_of_ble_eq_true rfl) rfl (fun K C => ?_)
  refine q_aload_n C dX3_readItems_0 rfl ?_
  refine q_aload_n C dX3_readItems_1 rfl ?_
  refine q_iload C dX3_readItems_2 rfl ?_
  refine q_aload_n C dX3_readItems_4 rfl ?_
  obtain ⟨hk, h⟩ := q_obE h
  obtain ⟨u1, e1, h⟩ := q_bind h
  refine x_callT C dX3_readItems_5 wd_432 mV_J0_length_8abf5 rfl hk (c_J0_length_8abf5 _ _ _ _ e1) rfl rfl (Nat.le_of_ble_eq_true rfl) (by decide) (by decide) ?_
  obtain ⟨⟨_, M3⟩, e1, h⟩ := q_bind h
  refine x_callSv0 C dX3_readItems_8 lkM_X3_54 mS_X3_setUsual (c_X3_setUsual _ _ _ _ _ _ _ e1) rfl rfl (Nat.le_of_ble_eq_true rfl) (by decide) (by decide) ?_
  refine x_iconst (v := (0 : Int32)) C dX3_readItems_11 (by decide) ?_
  refine q_istore (L' := [some (.ref l0), some (.ref l1), some (.ref l2), some (.ref l3), some (.int l4), some (.int (0 : Int32)), none, none]) C dX3_readItems_12 (by decide) rfl rfl ?_
  refine x_iconst (v := (0 : Int32)) C dX3_readItems_14 (by decide) ?_
  refine q_istore (L' := [some (.ref l0), some (.ref l1), some (.ref l2), some (.ref l3), some (.int l4), some (.int (0 : Int32)), some (.int (0 : Int32)), none]) C dX3_readItems_15 (by decide) rfl rfl ?_
  obtain ⟨e16, he, h⟩ := q_bind h
  refine q_msk [true, true, true, true, true, true, true, false] (lW_X3_readItems_17 C l0 l1 l2 l3 l4 q_fu _ _ _ _ he (fun M17 hs => ?_) (fun M18 hs => ?_) (fun M19 hs => ?_) (fun M20 hs => ?_))
  · have hs := hs.symm
    subst hs
    refine x_iconst (v := (1 : Int32)) C dX3_readItems_39 (by decide) ?_
    exact q_zret C dX3_readItems_40 rfl (by decide) (by decide) (q_rzE h).1 (q_rzE h).2
  · have hs := hs.symm
    subst hs
    refine x_iconst (v := (0 : Int32)) C dX3_readItems_61 (by decide) ?_
    exact q_zret C dX3_readItems_62 rfl (by decide) (by decide) (q_rzE h).1 (q_rzE h).2
  · have hs := hs.symm
    subst hs
    refine x_iconst (v := (0 : Int32)) C dX3_readItems_104 (by decide) ?_
    exact q_zret C dX3_readItems_105 rfl (by decide) (by decide) (q_rzE h).1 (q_rzE h).2
  · have hs := hs.symm
    subst hs
    refine x_iconst (v := (0 : Int32)) C dX3_readItems_123 (by decide) ?_
    exact q_zret C dX3_readItems_124 rfl (by decide) (by decide) (q_rzE h).1 (q_rzE h).2
noncomputable def J_X3_readClause_104 (l0 : Nat) (l1 : Nat) (l2 : Int32) (M : q_Mem) : Option (Int32 × q_Mem) := (if l2 = (103 : Int32) then (q_gI M l0 3 5 (fun v21 => (if v21 < (6 : Int32) then (q_gI M l1 9 2 (fun v22 => (q_pI M l1 9 2 (v22 + (1 : Int32)) (fun M23 => (q_gI M23 l0 3 5 (fun v24 => (q_pI M23 l0 3 5 (v24 + (1 : Int32)) (fun M25 => (q_gR M25 l0 3 2 (fun c26 => q_nn c26 (fun r27 => (q_gI M25 l0 3 5 (fun v28 => ((F_X3_readItems l1 8 2 r27 ((v28 - (1 : Int32)) * (4 : Int32)) M25).bind (fun x => match x with | (u29, M30) => q_rz u29 M30))))))))))))))) else q_rz (0 : Int32) M))) else q_rz (0 : Int32) M)
set_option maxRecDepth 100000 in
set_option maxHeartbeats 4000000 in
theorem jW_X3_readClause_104 {K : q_K} (C : q_C K yX3_readClause cX3_readClause 3 (Option.some Jvm.ClassFile.FieldType.boolean) 7 0 0) (l0 : Nat) (l1 : Nat) (l2 : Int32) (M : q_Mem) {r : Int32} {M' : q_Mem} (h : J_X3_readClause_104 l0 l1 l2 M = some (r, M')) : q_W K 3 (q_Q K (some (.int r)) M' 0 0) 0 0 M 104 [some (.ref l0), some (.ref l1), some (.int l2)] [] := by
  unfold J_X3_readClause_104 at h
  refine q_iload_n C dX3_readClause_104 rfl ?_
  refine x_bipush (v := (103 : Int32)) C dX3_readClause_105 (by decide) ?_
  refine q_icmp_ne (tgt := 161) C dX3_readClause_107 (by decide) h (fun _ h => ?_) (fun _ h => ?_)
  · refine q_aload_n C dX3_readClause_110 rfl ?_
    refine x_getI (ci := 3) (j := 5) C dX3_readClause_111 lkF_X3_28 rfl h (fun v21 h => ?_)
    refine x_bipush (v := (6 : Int32)) C dX3_readClause_114 (by decide) ?_
    refine q_icmp_ge (tgt := 161) C dX3_readClause_116 (by decide) h (fun _ h => ?_) (fun _ h => ?_)
    · refine q_aload_n C dX3_readClause_119 rfl ?_
      refine q_dup C dX3_readClause_120 rfl ?_
      refine x_getI (ci := 9) (j := 2) C dX3_readClause_121 lkF_X3_72 rfl h (fun v22 h => ?_)
      refine x_iconst (v := (1 : Int32)) C dX3_readClause_124 (by decide) ?_
      refine q_iadd C dX3_readClause_125 ?_
      refine x_putI (ci := 9) (j := 2) C dX3_readClause_126 lkF_X3_72 (fun r hr => by cases hr; rfl) rfl h (fun M23 h => ?_)
      refine q_aload_n C dX3_readClause_129 rfl ?_
      refine q_dup C dX3_readClause_130 rfl ?_
      refine x_getI (ci := 3) (j := 5) C dX3_readClause_131 lkF_X3_28 rfl h (fun v24 h => ?_)
      refine x_iconst (v := (1 : Int32)) C dX3_readClause_134 (by decide) ?_
      refine q_iadd C dX3_readClause_135 ?_
      refine x_putI (ci := 3) (j := 5) C dX3_readClause_136 lkF_X3_28 (fun r hr => by cases hr; rfl) rfl h (fun M25 h => ?_)
      refine q_aload_n C dX3_readClause_139 rfl ?_
      refine q_ldcS (i := 2) C dX3_readClause_140 rfl ?_
      refine q_getsN (w := .ref 2) C dX3_readClause_142 wn_535 (by simp [q_zs, q_cv, q_ad, q_NS]) rfl ?_
      refine q_aload_n C dX3_readClause_145 rfl ?_
      refine x_getR (ci := 3) (j := 2) C dX3_readClause_146 lkF_X3_18 rfl h (fun c26 h => ?_)
      refine x_nn h (fun r27 h => ?_)
      refine q_aload_n C dX3_readClause_149 rfl ?_
      refine x_getI (ci := 3) (j := 5) C dX3_readClause_150 lkF_X3_28 rfl h (fun v28 h => ?_)
      refine x_iconst (v := (1 : Int32)) C dX3_readClause_153 (by decide) ?_
      refine q_isub C dX3_readClause_154 ?_
      refine x_iconst (v := (4 : Int32)) C dX3_readClause_155 (by decide) ?_
      refine q_imul C dX3_readClause_156 ?_
      obtain ⟨⟨u29, M30⟩, e1, h⟩ := q_bind h
      refine x_callS0 C dX3_readClause_157 lkM_X3_77 mS_X3_readItems (c_X3_readItems _ _ _ _ _ _ _ _ e1) rfl rfl (Nat.le_of_ble_eq_true rfl) (by decide) (by decide) ?_
      exact q_zret C dX3_readClause_160 rfl (by decide) (by decide) (q_rzE h).1 (q_rzE h).2
    · refine x_iconst (v := (0 : Int32)) C dX3_readClause_161 (by decide) ?_
      exact q_zret C dX3_readClause_162 rfl (by decide) (by decide) (q_rzE h).1 (q_rzE h).2
  · refine x_iconst (v := (0 : Int32)) C dX3_readClause_161 (by decide) ?_
    exact q_zret C dX3_readClause_162 rfl (by decide) (by decide) (q_rzE h).1 (q_rzE h).2
noncomputable def J_X3_readClause_48 (l0 : Nat) (l1 : Nat) (l2 : Int32) (M : q_Mem) : Option (Int32 × q_Mem) := (if l2 = (100 : Int32) then (q_gI M l0 3 4 (fun v11 => (if v11 < (5 : Int32) then (q_gI M l1 9 2 (fun v12 => (q_pI M l1 9 2 (v12 + (1 : Int32)) (fun M13 => (q_gI M13 l0 3 4 (fun v14 => (q_pI M13 l0 3 4 (v14 + (1 : Int32)) (fun M15 => (q_gR M15 l0 3 1 (fun c16 => q_nn c16 (fun r17 => (q_gI M15 l0 3 4 (fun v18 => ((F_X3_readItems l1 6 1 r17 ((v18 - (1 : Int32)) * (3 : Int32)) M15).bind (fun x => match x with | (u19, M20) => q_rz u19 M20))))))))))))))) else J_X3_readClause_104 l0 l1 l2 M))) else J_X3_readClause_104 l0 l1 l2 M)
set_option maxRecDepth 100000 in
set_option maxHeartbeats 4000000 in
theorem jW_X3_readClause_48 {K : q_K} (C : q_C K yX3_readClause cX3_readClause 3 (Option.some Jvm.ClassFile.FieldType.boolean) 7 0 0) (l0 : Nat) (l1 : Nat) (l2 : Int32) (M : q_Mem) {r : Int32} {M' : q_Mem} (h : J_X3_readClause_48 l0 l1 l2 M = some (r, M')) : q_W K 3 (q_Q K (some (.int r)) M' 0 0) 0 0 M 48 [some (.ref l0), some (.ref l1), some (.int l2)] [] := by
  unfold J_X3_readClause_48 at h
  refine q_iload_n C dX3_readClause_48 rfl ?_
  refine x_bipush (v := (100 : Int32)) C dX3_readClause_49 (by decide) ?_
  refine q_icmp_ne (tgt := 104) C dX3_readClause_51 (by decide) h (fun _ h => ?_) (fun _ h => ?_)
  · refine q_aload_n C dX3_readClause_54 rfl ?_
    refine x_getI (ci := 3) (j := 4) C dX3_readClause_55 lkF_X3_24 rfl h (fun v11 h => ?_)
    refine x_iconst (v := (5 : Int32)) C dX3_readClause_58 (by decide) ?_
    refine q_icmp_ge (tgt := 104) C dX3_readClause_59 (by decide) h (fun _ h => ?_) (fun _ h => ?_)
    · refine q_aload_n C dX3_readClause_62 rfl ?_
      refine q_dup C dX3_readClause_63 rfl ?_
      refine x_getI (ci := 9) (j := 2) C dX3_readClause_64 lkF_X3_72 rfl h (fun v12 h => ?_)
      refine x_iconst (v := (1 : Int32)) C dX3_readClause_67 (by decide) ?_
      refine q_iadd C dX3_readClause_68 ?_
      refine x_putI (ci := 9) (j := 2) C dX3_readClause_69 lkF_X3_72 (fun r hr => by cases hr; rfl) rfl h (fun M13 h => ?_)
      refine q_aload_n C dX3_readClause_72 rfl ?_
      refine q_dup C dX3_readClause_73 rfl ?_
      refine x_getI (ci := 3) (j := 4) C dX3_readClause_74 lkF_X3_24 rfl h (fun v14 h => ?_)
      refine x_iconst (v := (1 : Int32)) C dX3_readClause_77 (by decide) ?_
      refine q_iadd C dX3_readClause_78 ?_
      refine x_putI (ci := 3) (j := 4) C dX3_readClause_79 lkF_X3_24 (fun r hr => by cases hr; rfl) rfl h (fun M15 h => ?_)
      refine q_aload_n C dX3_readClause_82 rfl ?_
      refine q_ldcS (i := 1) C dX3_readClause_83 rfl ?_
      refine q_getsN (w := .ref 1) C dX3_readClause_85 wn_532 (by simp [q_zs, q_cv, q_ad, q_NS]) rfl ?_
      refine q_aload_n C dX3_readClause_88 rfl ?_
      refine x_getR (ci := 3) (j := 1) C dX3_readClause_89 lkF_X3_15 rfl h (fun c16 h => ?_)
      refine x_nn h (fun r17 h => ?_)
      refine q_aload_n C dX3_readClause_92 rfl ?_
      refine x_getI (ci := 3) (j := 4) C dX3_readClause_93 lkF_X3_24 rfl h (fun v18 h => ?_)
      refine x_iconst (v := (1 : Int32)) C dX3_readClause_96 (by decide) ?_
      refine q_isub C dX3_readClause_97 ?_
      refine x_iconst (v := (3 : Int32)) C dX3_readClause_98 (by decide) ?_
      refine q_imul C dX3_readClause_99 ?_
      obtain ⟨⟨u19, M20⟩, e1, h⟩ := q_bind h
      refine x_callS0 C dX3_readClause_100 lkM_X3_77 mS_X3_readItems (c_X3_readItems _ _ _ _ _ _ _ _ e1) rfl rfl (Nat.le_of_ble_eq_true rfl) (by decide) (by decide) ?_
      exact q_zret C dX3_readClause_103 rfl (by decide) (by decide) (q_rzE h).1 (q_rzE h).2
    · exact q_msk [true, true, true] (jW_X3_readClause_104 C l0 l1 l2 M h)
  · exact q_msk [true, true, true] (jW_X3_readClause_104 C l0 l1 l2 M h)
noncomputable def F_X3_readClause (l0 : Nat) (l1 : Nat) (M : q_Mem) : Option (Int32 × q_Mem) := (q_ob M l1 9 ((F_X9_peek l1 M).bind (fun x => match x with | (u1, M2) => (if u1 = (115 : Int32) then (q_gI M2 l0 3 6 (fun v3 => (if v3 = 0 then (q_gI M2 l1 9 2 (fun v4 => (q_pI M2 l1 9 2 (v4 + (1 : Int32)) (fun M5 => (q_pZ M5 l0 3 6 (1 : Int32) (fun M6 => (q_gR M6 l0 3 0 (fun c7 => q_nn c7 (fun r8 => ((F_X3_readItems l1 4 0 r8 (0 : Int32) M6).bind (fun x => match x with | (u9, M10) => q_rz u9 M10))))))))))) else J_X3_readClause_48 l0 l1 u1 M2))) else J_X3_readClause_48 l0 l1 u1 M2))))
set_option maxRecDepth 100000 in
set_option maxHeartbeats 4000000 in
theorem c_X3_readClause (l : Launch) (G : q_G) (l0 : Nat) (l1 : Nat) (M : q_Mem) {r : Int32} {M' : q_Mem} (h : F_X3_readClause l0 l1 M = some (r, M')) : q_Met l G yX3_readClause cX3_readClause 3 (Option.some Jvm.ClassFile.FieldType.boolean) 7 0 0 [.ref l0, .ref l1] M (some (.int r)) M' := by
  unfold F_X3_readClause at h
  refine q_enter [some (.ref l0), some (.ref l1), none] (by decide) (Nat.le_of_ble_eq_true rfl) rfl (fun K C => ?_)
  refine q_aload_n C dX3_readClause_0 rfl ?_
  obtain ⟨hk, h⟩ := q_obE h
  obtain ⟨⟨u1, M2⟩, e1, h⟩ := q_bind h
  refine x_callV0 C dX3_readClause_1 lkM_X3_62 mV_X9_peek ⟨_, rfl, rfl⟩ hk (c_X9_peek _ _ _ _ e1) rfl rfl (Nat.le_of_ble_eq_true rfl) (by decide) (by decide) ?_
  refine q_istore_n (L' := [some (.ref l0), some (.ref l1), some (.int u1)]) C dX3_readClause_4 (by decide) rfl rfl ?_
  refine q_iload_n C dX3_readClause_5 rfl ?_
  refine x_bipush (v := (115 : Int32)) C dX3_readClause_6 (by decide) ?_
  refine q_icmp_ne (tgt := 48) C dX3_readClause_8 (by decide) h (fun _ h => ?_) (fun _ h => ?_)
  · refine q_aload_n C dX3_readClause_11 rfl ?_
    refine x_getI (ci := 3) (j := 6) C dX3_readClause_12 lkF_X3_31 rfl h (fun v3 h => ?_)
    refine q_if_ne (tgt := 48) C dX3_readClause_15 (by decide) h (fun _ h => ?_) (fun _ h => ?_)
    · refine q_aload_n C dX3_readClause_18 rfl ?_
      refine q_dup C dX3_readClause_19 rfl ?_
      refine x_getI (ci := 9) (j := 2) C dX3_readClause_20 lkF_X3_72 rfl h (fun v4 h => ?_)
      refine x_iconst (v := (1 : Int32)) C dX3_readClause_23 (by decide) ?_
      refine q_iadd C dX3_readClause_24 ?_
      refine x_putI (ci := 9) (j := 2) C dX3_readClause_25 lkF_X3_72 (fun r hr => by cases hr; rfl) rfl h (fun M5 h => ?_)
      refine q_aload_n C dX3_readClause_28 rfl ?_
      refine x_iconst (v := (1 : Int32)) C dX3_readClause_29 (by decide) ?_
      refine x_putZ (ci := 3) (j := 6) C dX3_readClause_30 lkF_X3_31 (fun r hr => by cases hr; rfl) rfl h (fun M6 h => ?_)
      refine q_aload_n C dX3_readClause_33 rfl ?_
      refine q_ldcS (i := 0) C dX3_readClause_34 rfl ?_
      refine q_getsN (w := .ref 0) C dX3_readClause_36 wn_415 (by simp [q_zs, q_cv, q_ad, q_NS]) rfl ?_
      refine q_aload_n C dX3_readClause_39 rfl ?_
      refine x_getR (ci := 3) (j := 0) C dX3_readClause_40 lkF_X3_9 rfl h (fun c7 h => ?_)
      refine x_nn h (fun r8 h => ?_)
      refine x_iconst (v := (0 : Int32)) C dX3_readClause_43 (by decide) ?_
      obtain ⟨⟨u9, M10⟩, e1, h⟩ := q_bind h
      refine x_callS0 C dX3_readClause_44 lkM_X3_77 mS_X3_readItems (c_X3_readItems _ _ _ _ _ _ _ _ e1) rfl rfl (Nat.le_of_ble_eq_true rfl) (by decide) (by decide) ?_
      exact q_zret C dX3_readClause_47 rfl (by decide) (by decide) (q_rzE h).1 (q_rzE h).2
    · exact q_msk [true, true, true] (jW_X3_readClause_48 C l0 l1 u1 M2 h)
  · exact q_msk [true, true, true] (jW_X3_readClause_48 C l0 l1 u1 M2 h)
noncomputable def F_X9_take (l0 : Nat) (l1 : Int32) (M : q_Mem) : Option (Int32 × q_Mem) := (q_ob M l0 9 ((F_X9_peek l0 M).bind (fun x => match x with | (u1, M2) => (if u1 = l1 then (q_gI M2 l0 9 2 (fun v3 => (q_pI M2 l0 9 2 (v3 + (1 : Int32)) (fun M4 => q_rz (1 : Int32) M4)))) else q_rz (0 : Int32) M2))))
set_option maxRecDepth 100000 in
set_option maxHeartbeats 4000000 in
theorem c_X9_take (l : Launch) (G : q_G) (l0 : Nat) (l1 : Int32) (M : q_Mem) {r : Int32} {M' : q_Mem} (h : F_X9_take l0 l1 M = some (r, M')) : q_Met l G yX9_take cX9_take 2 (Option.some Jvm.ClassFile.FieldType.boolean) 2 0 0 [.ref l0, .int l1] M (some (.int r)) M' := by
  unfold F_X9_take at h
  refine q_enter [some (.ref l0), some (.int l1)] (by decide) (Nat.le_of_ble_eq_true rfl) rfl (fun K C => ?_)
  refine q_aload_n C dX9_take_0 rfl ?_
  obtain ⟨hk, h⟩ := q_obE h
  obtain ⟨⟨u1, M2⟩, e1, h⟩ := q_bind h
  refine x_callV0 C dX9_take_1 lkM_X9_25 mV_X9_peek ⟨_, rfl, rfl⟩ hk (c_X9_peek _ _ _ _ e1) rfl rfl (Nat.le_of_ble_eq_true rfl) (by decide) (by decide) ?_
  refine q_iload_n C dX9_take_4 rfl ?_
  refine q_icmp_eq (tgt := 10) C dX9_take_5 (by decide) h (fun _ h => ?_) (fun _ h => ?_)
  · refine q_aload_n C dX9_take_10 rfl ?_
    refine q_dup C dX9_take_11 rfl ?_
    refine x_getI (ci := 9) (j := 2) C dX9_take_12 lkF_X9_19 rfl h (fun v3 h => ?_)
    refine x_iconst (v := (1 : Int32)) C dX9_take_15 (by decide) ?_
    refine q_iadd C dX9_take_16 ?_
    refine x_putI (ci := 9) (j := 2) C dX9_take_17 lkF_X9_19 (fun r hr => by cases hr; rfl) rfl h (fun M4 h => ?_)
    refine x_iconst (v := (1 : Int32)) C dX9_take_20 (by decide) ?_
    exact q_zret C dX9_take_21 rfl (by decide) (by decide) (q_rzE h).1 (q_rzE h).2
  · refine x_iconst (v := (0 : Int32)) C dX9_take_8 (by decide) ?_
    exact q_zret C dX9_take_9 rfl (by decide) (by decide) (q_rzE h).1 (q_rzE h).2
noncomputable def B_X3_readFrom_29 (l0 : Nat) (l1 : Nat) (l2 : Int32) (M : q_Mem) : Option ((Int32 × q_Mem) ⊕ ((q_Mem) ⊕ ((q_Mem) ⊕ ((q_Mem) ⊕ (q_Mem))))) := (if (12 : Int32) < l2 then some (.inr (.inr (.inr (.inr M)))) else (q_ob M l0 3 ((F_X3_readClause l0 l1 M).bind (fun x => match x with | (u8, M9) => (if u8 = 0 then some (.inr (.inl M9)) else (q_ob M9 l1 9 ((F_X9_peek l1 M9).bind (fun x => match x with | (u10, M11) => (if u10 = (-1 : Int32) then some (.inr (.inr (.inl M11))) else (q_ob M11 l1 9 ((F_X9_take l1 (59 : Int32) M11).bind (fun x => match x with | (u12, M13) => (if u12 = 0 then some (.inr (.inr (.inr (.inl M13)))) else some (.inl ((l2 + (1 : Int32)), M13)))))))))))))))
set_option maxRecDepth 100000 in
set_option maxHeartbeats 4000000 in
theorem bW_X3_readFrom_29 {K : q_K} {Q : State → Prop} (C : q_C K yX3_readFrom cX3_readFrom 3 (Option.some Jvm.ClassFile.FieldType.boolean) 8 0 0) (l0 : Nat) (l1 : Nat) (l2 : Int32) (M : q_Mem) {stp : (Int32 × q_Mem) ⊕ ((q_Mem) ⊕ ((q_Mem) ⊕ ((q_Mem) ⊕ (q_Mem))))} (h : B_X3_readFrom_29 l0 l1 l2 M = some stp) (kC : ∀ (l2 : Int32) (M : q_Mem), stp = .inl (l2, M) → q_W K 3 Q 0 0 M 29 [some (.ref l0), some (.ref l1), some (.int l2)] []) (kE0 : ∀ (M : q_Mem), stp = .inr (.inl M) → q_W K 3 Q 0 0 M 43 [none, none, none] []) (kE1 : ∀ (M : q_Mem), stp = .inr (.inr (.inl M)) → q_W K 3 Q 0 0 M 53 [some (.ref l0), none, none] []) (kE2 : ∀ (M : q_Mem), stp = .inr (.inr (.inr (.inl M))) → q_W K 3 Q 0 0 M 82 [none, none, none] []) (kE3 : ∀ (M : q_Mem), stp = .inr (.inr (.inr (.inr M))) → q_W K 3 Q 0 0 M 90 [none, none, none] []) : q_W K 3 Q 0 0 M 29 [some (.ref l0), some (.ref l1), some (.int l2)] [] := by
  unfold B_X3_readFrom_29 at h
  refine q_iload_n C dX3_readFrom_29 rfl ?_
  refine x_bipush (v := (12 : Int32)) C dX3_readFrom_30 (by decide) ?_
  refine q_icmp_gt (tgt := 90) C dX3_readFrom_32 (by decide) h (fun _ h => ?_) (fun _ h => ?_)
  · exact q_msk [false, false, false] (kE3 _ (Option.some.inj h).symm)
  · refine q_aload_n C dX3_readFrom_35 rfl ?_
    refine q_aload_n C dX3_readFrom_36 rfl ?_
    obtain ⟨hk, h⟩ := q_obE h
    obtain ⟨⟨u8, M9⟩, e1, h⟩ := q_bind h
    refine x_callV0 C dX3_readFrom_37 lkM_X3_58 mV_X3_readClause ⟨_, rfl, rfl⟩ hk (c_X3_readClause _ _ _ _ _ e1) rfl rfl (Nat.le_of_ble_eq_true rfl) (by decide) (by decide) ?_
    refine q_if_ne (tgt := 45) C dX3_readFrom_40 (by decide) h (fun _ h => ?_) (fun _ h => ?_)
    · exact q_msk [false, false, false] (kE0 _ (Option.some.inj h).symm)
    · refine q_aload_n C dX3_readFrom_45 rfl ?_
      obtain ⟨hk, h⟩ := q_obE h
      obtain ⟨⟨u10, M11⟩, e1, h⟩ := q_bind h
      refine x_callV0 C dX3_readFrom_46 lkM_X3_62 mV_X9_peek ⟨_, rfl, rfl⟩ hk (c_X9_peek _ _ _ _ e1) rfl rfl (Nat.le_of_ble_eq_true rfl) (by decide) (by decide) ?_
      refine x_iconst (v := (-1 : Int32)) C dX3_readFrom_49 (by decide) ?_
      refine q_icmp_ne (tgt := 73) C dX3_readFrom_50 (by decide) h (fun _ h => ?_) (fun _ h => ?_)
      · exact q_msk [true, false, false] (kE1 _ (Option.some.inj h).symm)
      · refine q_aload_n C dX3_readFrom_73 rfl ?_
        refine x_bipush (v := (59 : Int32)) C dX3_readFrom_74 (by decide) ?_
        obtain ⟨hk, h⟩ := q_obE h
        obtain ⟨⟨u12, M13⟩, e1, h⟩ := q_bind h
        refine x_callV0 C dX3_readFrom_76 lkM_X3_68 mV_X9_take ⟨_, rfl, rfl⟩ hk (c_X9_take _ _ _ _ _ e1) rfl rfl (Nat.le_of_ble_eq_true rfl) (by decide) (by decide) ?_
        refine q_if_ne (tgt := 84) C dX3_readFrom_79 (by decide) h (fun _ h => ?_) (fun _ h => ?_)
        · exact q_msk [false, false, false] (kE2 _ (Option.some.inj h).symm)
        · refine x_iinc (w := (1 : Int32)) (L' := [some (.ref l0), some (.ref l1), some (.int (l2 + (1 : Int32)))]) C dX3_readFrom_84 rfl (by decide) (by decide) rfl rfl ?_
          refine q_goto (tgt := 29) C dX3_readFrom_87 (by decide) ?_
          exact q_msk [true, true, true] (kC _ _ (Option.some.inj h).symm)
set_option maxRecDepth 100000 in
set_option maxHeartbeats 4000000 in
theorem lW_X3_readFrom_29 {K : q_K} {Q : State → Prop} (C : q_C K yX3_readFrom cX3_readFrom 3 (Option.some Jvm.ClassFile.FieldType.boolean) 8 0 0) (l0 : Nat) (l1 : Nat) (n : Nat) : ∀ (l2 : Int32) (M : q_Mem) (e : ((q_Mem) ⊕ ((q_Mem) ⊕ ((q_Mem) ⊕ (q_Mem))))), q_lp (fun s => B_X3_readFrom_29 l0 l1 s.1 s.2) n (l2, M) = some e → (∀ (M : q_Mem), e = (.inl M) → q_W K 3 Q 0 0 M 43 [none, none, none] []) → (∀ (M : q_Mem), e = (.inr (.inl M)) → q_W K 3 Q 0 0 M 53 [some (.ref l0), none, none] []) → (∀ (M : q_Mem), e = (.inr (.inr (.inl M))) → q_W K 3 Q 0 0 M 82 [none, none, none] []) → (∀ (M : q_Mem), e = (.inr (.inr (.inr M))) → q_W K 3 Q 0 0 M 90 [none, none, none] []) → q_W K 3 Q 0 0 M 29 [some (.ref l0), some (.ref l1), some (.int l2)] [] := by
  induction n with
  | zero => intro l2 M e h; cases h
  | succ n ih =>
    intro l2 M e h kE0 kE1 kE2 kE3
    obtain ⟨stp, e1, e2⟩ := q_bind h
    refine bW_X3_readFrom_29 C l0 l1 l2 M e1 (fun a0 a1 hs => ?_) (fun b0 hs => ?_) (fun b0 hs => ?_) (fun b0 hs => ?_) (fun b0 hs => ?_)
    · subst hs; exact ih _ _ _ e2 kE0 kE1 kE2 kE3
    · subst hs; exact kE0 _ (Option.some.inj e2).symm
    · subst hs; exact kE1 _ (Option.some.inj e2).symm
    · subst hs; exact kE2 _ (Option.some.inj e2).symm
    · subst hs; exact kE3 _ (Option.some.inj e2).symm
noncomputable def F_X3_readFrom (l0 : Nat) (l1 : Nat) (M : q_Mem) : Option (Int32 × q_Mem) := (q_pI M l0 3 4 (0 : Int32) (fun M1 => (q_pI M1 l0 3 5 (0 : Int32) (fun M2 => (q_pZ M2 l0 3 6 (0 : Int32) (fun M3 => (q_gR M3 l0 3 0 (fun c4 => q_nn c4 (fun r5 => ((F_X3_setUsual 0 r5 (0 : Int32) (3 : Int32) M3).bind (fun x => match x with | (_, M7) => (q_lp (fun s => B_X3_readFrom_29 l0 l1 s.1 s.2) q_fu ((0 : Int32), M7)).bind (fun e14 => match e14 with | .inl M15 => q_rz (0 : Int32) M15 | .inr (.inl M16) => (q_gI M16 l0 3 4 (fun v17 => (if 0 < v17 then (q_gI M16 l0 3 5 (fun v18 => (if 0 < v18 then q_rz (1 : Int32) M16 else q_rz (0 : Int32) M16))) else q_rz (0 : Int32) M16))) | .inr (.inr (.inl M19)) => q_rz (0 : Int32) M19 | .inr (.inr (.inr M20)) => q_rz (0 : Int32) M20))))))))))))
set_option maxRecDepth 100000 in
set_option maxHeartbeats 4000000 in
theorem c_X3_readFrom (l : Launch) (G : q_G) (l0 : Nat) (l1 : Nat) (M : q_Mem) {r : Int32} {M' : q_Mem} (h : F_X3_readFrom l0 l1 M = some (r, M')) : q_Met l G yX3_readFrom cX3_readFrom 3 (Option.some Jvm.ClassFile.FieldType.boolean) 8 0 0 [.ref l0, .ref l1] M (some (.int r)) M' := by
  unfold F_X3_readFrom at h
  refine q_enter [some (.ref l0), some (.ref l1), none] (by decide) (Nat.le_of_ble_eq_true rfl) rfl (fun K C => ?_)
  refine q_aload_n C dX3_readFrom_0 rfl ?_
  refine x_iconst (v := (0 : Int32)) C dX3_readFrom_1 (by decide) ?_
  refine x_putI (ci := 3) (j := 4) C dX3_readFrom_2 lkF_X3_24 (fun r hr => by cases hr; rfl) rfl h (fun M1 h => ?_)
  refine q_aload_n C dX3_readFrom_5 rfl ?_
  refine x_iconst (v := (0 : Int32)) C dX3_readFrom_6 (by decide) ?_
  refine x_putI (ci := 3) (j := 5) C dX3_readFrom_7 lkF_X3_28 (fun r hr => by cases hr; rfl) rfl h (fun M2 h => ?_)
  refine q_aload_n C dX3_readFrom_10 rfl ?_
  refine x_iconst (v := (0 : Int32)) C dX3_readFrom_11 (by decide) ?_
  refine x_putZ (ci := 3) (j := 6) C dX3_readFrom_12 lkF_X3_31 (fun r hr => by cases hr; rfl) rfl h (fun M3 h => ?_)
  refine q_getsN (w := .ref 0) C dX3_readFrom_15 wn_415 (by simp [q_zs, q_cv, q_ad, q_NS]) rfl ?_
  refine q_aload_n C dX3_readFrom_18 rfl ?_
  refine x_getR (ci := 3) (j := 0) C dX3_readFrom_19 lkF_X3_9 rfl h (fun c4 h => ?_)
  refine x_nn h (fun r5 h => ?_)
  refine x_iconst (v := (0 : Int32)) C dX3_readFrom_22 (by decide) ?_
  refine x_iconst (v := (3 : Int32)) C dX3_readFrom_23 (by decide) ?_
  obtain ⟨⟨_, M7⟩, e1, h⟩ := q_bind h
  refine x_callSv0 C dX3_readFrom_24 lkM_X3_54 mS_X3_setUsual (c_X3_setUsual _ _ _ _ _ _ _ e1) rfl rfl (Nat.le_of_ble_eq_true rfl) (by decide) (by decide) ?_
  refine x_iconst (v := (0 : Int32)) C dX3_readFrom_27 (by decide) ?_
  refine q_istore_n (L' := [some (.ref l0), some (.ref l1), some (.int (0 : Int32))]) C dX3_readFrom_28 (by decide) rfl rfl ?_
  obtain ⟨e14, he, h⟩ := q_bind h
  refine q_msk [true, true, true] (lW_X3_readFrom_29 C l0 l1 q_fu _ _ _ he (fun M15 hs => ?_) (fun M16 hs => ?_) (fun M19 hs => ?_) (fun M20 hs => ?_))
  · have hs := hs.symm
    subst hs
    refine x_iconst (v := (0 : Int32)) C dX3_readFrom_43 (by decide) ?_
    exact q_zret C dX3_readFrom_44 rfl (by decide) (by decide) (q_rzE h).1 (q_rzE h).2
  · have hs := hs.symm
    subst hs
    refine q_aload_n C dX3_readFrom_53 rfl ?_
    refine x_getI (ci := 3) (j := 4) C dX3_readFrom_54 lkF_X3_24 rfl h (fun v17 h => ?_)
    refine q_if_le (tgt := 71) C dX3_readFrom_57 (by decide) h (fun _ h => ?_) (fun _ h => ?_)
    · refine q_aload_n C dX3_readFrom_60 rfl ?_
      refine x_getI (ci := 3) (j := 5) C dX3_readFrom_61 lkF_X3_28 rfl h (fun v18 h => ?_)
      refine q_if_le (tgt := 71) C dX3_readFrom_64 (by decide) h (fun _ h => ?_) (fun _ h => ?_)
      · refine x_iconst (v := (1 : Int32)) C dX3_readFrom_67 (by decide) ?_
        refine q_goto (tgt := 72) C dX3_readFrom_68 (by decide) ?_
        exact q_zret C dX3_readFrom_72 rfl (by decide) (by decide) (q_rzE h).1 (q_rzE h).2
      · refine x_iconst (v := (0 : Int32)) C dX3_readFrom_71 (by decide) ?_
        exact q_zret C dX3_readFrom_72 rfl (by decide) (by decide) (q_rzE h).1 (q_rzE h).2
    · refine x_iconst (v := (0 : Int32)) C dX3_readFrom_71 (by decide) ?_
      exact q_zret C dX3_readFrom_72 rfl (by decide) (by decide) (q_rzE h).1 (q_rzE h).2
  · have hs := hs.symm
    subst hs
    refine x_iconst (v := (0 : Int32)) C dX3_readFrom_82 (by decide) ?_
    exact q_zret C dX3_readFrom_83 rfl (by decide) (by decide) (q_rzE h).1 (q_rzE h).2
  · have hs := hs.symm
    subst hs
    refine x_iconst (v := (0 : Int32)) C dX3_readFrom_90 (by decide) ?_
    exact q_zret C dX3_readFrom_91 rfl (by decide) (by decide) (q_rzE h).1 (q_rzE h).2
noncomputable def F_X4_init (l0 : Nat) (l1 : Nat) (M : q_Mem) : Option (Unit × q_Mem) := (q_nA M 0 (32 : Int32) 32 (fun k1 M2 => (q_pR M2 l0 4 1 (k1 + 1) (fun M3 => (q_pR M3 l0 4 0 (l1 + 1) (fun M4 => some ((), M4)))))))
set_option maxRecDepth 100000 in
set_option maxHeartbeats 4000000 in
theorem c_X4_init (l : Launch) (G : q_G) (l0 : Nat) (l1 : Nat) (M : q_Mem) {r : Unit} {M' : q_Mem} (h : F_X4_init l0 l1 M = some (r, M')) : q_Met l G yX4_init cX4_init 2 (Option.none : Option Jvm.ClassFile.FieldType) 2 1 32 [.ref l0, .ref l1] M none M' := by
  unfold F_X4_init at h
  refine q_enter [some (.ref l0), some (.ref l1)] (by decide) (Nat.le_of_ble_eq_true rfl) rfl (fun K C => ?_)
  refine q_aload_n C dX4_init_0 rfl ?_
  refine q_objI C dX4_init_1 wd_667 wd_33 wd_34 (by decide) (Nat.le_of_ble_eq_true rfl) ?_
  refine q_aload_n C dX4_init_4 rfl ?_
  refine x_bipush (v := (32 : Int32)) C dX4_init_5 (by decide) ?_
  refine x_newa C dX4_init_7 (by simp) wd_103 (by decide) h (by decide) (fun k1 M2 h => ?_)
  refine x_putR (ci := 4) (j := 1) (k1 + 1) C dX4_init_9 lkF_X4_9 (fun r hr => by cases hr; exact Or.inr ⟨rfl, rfl, wd_669⟩) (Or.inr ⟨_, rfl⟩) rfl h (fun M3 h => ?_)
  refine q_aload_n C dX4_init_12 rfl ?_
  refine q_aload_n C dX4_init_13 rfl ?_
  refine x_putR (ci := 4) (j := 0) (l1 + 1) C dX4_init_14 lkF_X4_15 (fun r hr => by cases hr; exact Or.inr ⟨rfl, rfl, wd_668⟩) (Or.inr ⟨_, rfl⟩) rfl h (fun M4 h => ?_)
  exact q_vret C dX4_init_17 rfl (by decide) (by decide) (Option.some.inj h)
noncomputable def F_X5_init (l0 : Nat) (l1 : Nat) (M : q_Mem) : Option (Unit × q_Mem) := (q_nA M 0 (240 : Int32) 240 (fun k1 M2 => (q_pR M2 l0 5 1 (k1 + 1) (fun M3 => (q_pI M3 l0 5 2 (0 : Int32) (fun M4 => (q_pR M4 l0 5 0 (l1 + 1) (fun M5 => some ((), M5)))))))))
set_option maxRecDepth 100000 in
set_option maxHeartbeats 4000000 in
theorem c_X5_init (l : Launch) (G : q_G) (l0 : Nat) (l1 : Nat) (M : q_Mem) {r : Unit} {M' : q_Mem} (h : F_X5_init l0 l1 M = some (r, M')) : q_Met l G yX5_init cX5_init 2 (Option.none : Option Jvm.ClassFile.FieldType) 2 1 240 [.ref l0, .ref l1] M none M' := by
  unfold F_X5_init at h
  refine q_enter [some (.ref l0), some (.ref l1)] (by decide) (Nat.le_of_ble_eq_true rfl) rfl (fun K C => ?_)
  refine q_aload_n C dX5_init_0 rfl ?_
  refine q_objI C dX5_init_1 wd_109 wd_33 wd_34 (by decide) (Nat.le_of_ble_eq_true rfl) ?_
  refine q_aload_n C dX5_init_4 rfl ?_
  refine x_sipush (v := (240 : Int32)) C dX5_init_5 (by decide) ?_
  refine x_newa C dX5_init_8 (by simp) wd_103 (by decide) h (by decide) (fun k1 M2 h => ?_)
  refine x_putR (ci := 5) (j := 1) (k1 + 1) C dX5_init_10 lkF_X5_9 (fun r hr => by cases hr; exact Or.inr ⟨rfl, rfl, wd_111⟩) (Or.inr ⟨_, rfl⟩) rfl h (fun M3 h => ?_)
  refine q_aload_n C dX5_init_13 rfl ?_
  refine x_iconst (v := (0 : Int32)) C dX5_init_14 (by decide) ?_
  refine x_putI (ci := 5) (j := 2) C dX5_init_15 lkF_X5_15 (fun r hr => by cases hr; rfl) rfl h (fun M4 h => ?_)
  refine q_aload_n C dX5_init_18 rfl ?_
  refine q_aload_n C dX5_init_19 rfl ?_
  refine x_putR (ci := 5) (j := 0) (l1 + 1) C dX5_init_20 lkF_X5_19 (fun r hr => by cases hr; exact Or.inr ⟨rfl, rfl, wd_110⟩) (Or.inl ⟨_, rfl⟩) rfl h (fun M5 h => ?_)
  exact q_vret C dX5_init_23 rfl (by decide) (by decide) (Option.some.inj h)
noncomputable def F_J7_copyOf_59c91 (l0 : Nat) (l1 : Int32) (M : q_Mem) : Option (Nat × q_Mem) := (q_al M l0 (fun v1 => (if l1 = v1 then (q_cln M l0 240 (fun k2 M3 => some ((k2 + 1), M3))) else (q_nA M 0 l1 240 (fun k2 M3 => (q_al M3 l0 (fun v4 => (q_cp M3 l0 (0 : Int32) k2 (0 : Int32) (q_mn v4 l1) (fun M5 => some ((k2 + 1), M5))))))))))
set_option maxRecDepth 100000 in
set_option maxHeartbeats 4000000 in
theorem c_J7_copyOf_59c91 (l : Launch) (G : q_G) (l0 : Nat) (l1 : Int32) (M : q_Mem) {r : Nat} {M' : q_Mem} (h : F_J7_copyOf_59c91 l0 l1 M = some (r, M')) : q_Met l G yJ7_copyOf_59c91 cJ7_copyOf_59c91 3 (Option.some (Jvm.ClassFile.FieldType.array Jvm.ClassFile.FieldType.int)) 2 1 240 [.ref l0, .int l1] M (some (q_rc r)) M' := by
  unfold F_J7_copyOf_59c91 at h
  refine q_enter [some (.ref l0), some (.int l1), none] (by decide) (Nat.le_of_ble_eq_true rfl) rfl (fun K C => ?_)
  refine q_iload_n C dJ7_copyOf_59c91_0 rfl ?_
  refine q_aload_n C dJ7_copyOf_59c91_1 rfl ?_
  refine x_alen C dJ7_copyOf_59c91_2 h (fun v1 h => ?_)
  refine q_icmp_ne (tgt := 14) C dJ7_copyOf_59c91_3 (by decide) h (fun _ h => ?_) (fun _ h => ?_)
  · refine q_aload_n C dJ7_copyOf_59c91_6 rfl ?_
    refine q_clone C dJ7_copyOf_59c91_7 dJ7_copyOf_59c91_10 wd_655 wd_656 wd_657 wd_658 wd_659 wn_660 wd_661 (by decide) (by decide) h (by decide) (fun k2 M3 h => ?_)
    exact q_aret (x := (k2 + 1)) C dJ7_copyOf_59c91_13 rfl (Or.inr ⟨_, rfl⟩) (by decide) (by decide) (Option.some.inj h)
  · refine q_iload_n C dJ7_copyOf_59c91_14 rfl ?_
    refine x_newa C dJ7_copyOf_59c91_15 (by simp) wd_103 (by decide) h (by decide) (fun k2 M3 h => ?_)
    refine q_astore_n (L' := [some (.ref l0), some (.int l1), some (.ref k2)]) C dJ7_copyOf_59c91_17 (by decide) rfl rfl ?_
    refine q_aload_n C dJ7_copyOf_59c91_18 rfl ?_
    refine x_iconst (v := (0 : Int32)) C dJ7_copyOf_59c91_19 (by decide) ?_
    refine q_aload_n C dJ7_copyOf_59c91_20 rfl ?_
    refine x_iconst (v := (0 : Int32)) C dJ7_copyOf_59c91_21 (by decide) ?_
    refine q_aload_n C dJ7_copyOf_59c91_22 rfl ?_
    refine x_alen C dJ7_copyOf_59c91_23 h (fun v4 h => ?_)
    refine q_iload_n C dJ7_copyOf_59c91_24 rfl ?_
    refine q_min C dJ7_copyOf_59c91_25 wd_662 wd_470 wd_15 wd_471 (by decide) (Nat.le_of_ble_eq_true rfl) (by decide) ?_
    refine x_copy C dJ7_copyOf_59c91_28 wd_663 wd_626 wd_625 wd_19 (by decide) (Nat.le_of_ble_eq_true rfl) h (fun M5 h => ?_)
    refine q_aload_n C dJ7_copyOf_59c91_31 rfl ?_
    exact q_aret (x := (k2 + 1)) C dJ7_copyOf_59c91_32 rfl (Or.inr ⟨_, rfl⟩) (by decide) (by decide) (Option.some.inj h)
noncomputable def F_X5_written (l0 : Nat) (M : q_Mem) : Option (Nat × q_Mem) := (q_gR M l0 5 1 (fun c1 => q_nn c1 (fun r2 => (q_gI M l0 5 2 (fun v3 => ((F_J7_copyOf_59c91 r2 v3 M).bind (fun x => match x with | (u4, M5) => some (u4, M5))))))))
set_option maxRecDepth 100000 in
set_option maxHeartbeats 4000000 in
theorem c_X5_written (l : Launch) (G : q_G) (l0 : Nat) (M : q_Mem) {r : Nat} {M' : q_Mem} (h : F_X5_written l0 M = some (r, M')) : q_Met l G yX5_written cX5_written 1 (Option.some (Jvm.ClassFile.FieldType.array Jvm.ClassFile.FieldType.int)) 3 1 240 [.ref l0] M (some (q_rc r)) M' := by
  unfold F_X5_written at h
  refine q_enter [some (.ref l0)] (by decide) (Nat.le_of_ble_eq_true rfl) rfl (fun K C => ?_)
  refine q_aload_n C dX5_written_0 rfl ?_
  refine x_getR (ci := 5) (j := 1) C dX5_written_1 lkF_X5_9 rfl h (fun c1 h => ?_)
  refine x_nn h (fun r2 h => ?_)
  refine q_aload_n C dX5_written_4 rfl ?_
  refine x_getI (ci := 5) (j := 2) C dX5_written_5 lkF_X5_15 rfl h (fun v3 h => ?_)
  obtain ⟨⟨u4, M5⟩, e1, h⟩ := q_bind h
  refine x_callS C dX5_written_8 lkM_X5_23 mS_J7_copyOf_59c91 (c_J7_copyOf_59c91 _ _ _ _ _ e1) rfl rfl (Nat.le_of_ble_eq_true rfl) (by decide) (by decide) ?_
  exact q_aret (x := u4) C dX5_written_11 rfl (Or.inr ⟨_, rfl⟩) (by decide) (by decide) (Option.some.inj h)
noncomputable def F_X5_write (l0 : Nat) (l1 : Int32) (M : q_Mem) : Option (Unit × q_Mem) := (q_gI M l0 5 2 (fun v1 => (q_gR M l0 5 1 (fun c2 => q_nn c2 (fun r3 => (q_al M r3 (fun v4 => (if v1 < v4 then (q_gR M l0 5 1 (fun c5 => q_nn c5 (fun r6 => (q_gI M l0 5 2 (fun v7 => (q_tI M r6 v7 l1 (fun M8 => (q_gI M8 l0 5 2 (fun v9 => (q_pI M8 l0 5 2 (v9 + (1 : Int32)) (fun M10 => some ((), M10)))))))))))) else some ((), M)))))))))
set_option maxRecDepth 100000 in
set_option maxHeartbeats 4000000 in
theorem c_X5_write (l : Launch) (G : q_G) (l0 : Nat) (l1 : Int32) (M : q_Mem) {r : Unit} {M' : q_Mem} (h : F_X5_write l0 l1 M = some (r, M')) : q_Met l G yX5_write cX5_write 2 (Option.none : Option Jvm.ClassFile.FieldType) 1 0 0 [.ref l0, .int l1] M none M' := by
  unfold F_X5_write at h
  refine q_enter [some (.ref l0), some (.int l1)] (by decide) (Nat.le_of_ble_eq_true rfl) rfl (fun K C => ?_)
  refine q_aload_n C dX5_write_0 rfl ?_
  refine x_getI (ci := 5) (j := 2) C dX5_write_1 lkF_X5_15 rfl h (fun v1 h => ?_)
  refine q_aload_n C dX5_write_4 rfl ?_
  refine x_getR (ci := 5) (j := 1) C dX5_write_5 lkF_X5_9 rfl h (fun c2 h => ?_)
  refine x_nn h (fun r3 h => ?_)
  refine x_alen C dX5_write_8 h (fun v4 h => ?_)
  refine q_icmp_ge (tgt := 32) C dX5_write_9 (by decide) h (fun _ h => ?_) (fun _ h => ?_)
  · refine q_aload_n C dX5_write_12 rfl ?_
    refine x_getR (ci := 5) (j := 1) C dX5_write_13 lkF_X5_9 rfl h (fun c5 h => ?_)
    refine x_nn h (fun r6 h => ?_)
    refine q_aload_n C dX5_write_16 rfl ?_
    refine x_getI (ci := 5) (j := 2) C dX5_write_17 lkF_X5_15 rfl h (fun v7 h => ?_)
    refine q_iload_n C dX5_write_20 rfl ?_
    refine x_iast C dX5_write_21 h (fun M8 h => ?_)
    refine q_aload_n C dX5_write_22 rfl ?_
    refine q_dup C dX5_write_23 rfl ?_
    refine x_getI (ci := 5) (j := 2) C dX5_write_24 lkF_X5_15 rfl h (fun v9 h => ?_)
    refine x_iconst (v := (1 : Int32)) C dX5_write_27 (by decide) ?_
    refine q_iadd C dX5_write_28 ?_
    refine x_putI (ci := 5) (j := 2) C dX5_write_29 lkF_X5_15 (fun r hr => by cases hr; rfl) rfl h (fun M10 h => ?_)
    exact q_vret C dX5_write_32 rfl (by decide) (by decide) (Option.some.inj h)
  · exact q_vret C dX5_write_32 rfl (by decide) (by decide) (Option.some.inj h)
def Hr_X5_readAtom (n0 : Nat) (rec : (Nat → Nat → Int32 → q_Mem → Option (Int32 × q_Mem))) : Prop := ∀ (l : Launch) (G : q_G), (∀ (a0 : Nat) (a1 : Int32) (M : q_Mem) (r : Int32) (M' : q_Mem), rec 0 a0 a1 M = some (r, M') → q_Met l G yX5_readAtom cX5_readAtom 3 (Option.some Jvm.ClassFile.FieldType.boolean) (n0 + 6) 0 0 [.ref a0, .int a1] M (some (.int r)) M') ∧ (∀ (a0 : Nat) (a1 : Int32) (M : q_Mem) (r : Int32) (M' : q_Mem), rec 1 a0 a1 M = some (r, M') → q_Met l G yX5_readSum cX5_readSum 4 (Option.some Jvm.ClassFile.FieldType.boolean) (n0 + 6) 0 0 [.ref a0, .int a1] M (some (.int r)) M') ∧ (∀ (a0 : Nat) (a1 : Int32) (M : q_Mem) (r : Int32) (M' : q_Mem), rec 2 a0 a1 M = some (r, M') → q_Met l G yX5_readTerm cX5_readTerm 4 (Option.some Jvm.ClassFile.FieldType.boolean) (n0 + 6) 0 0 [.ref a0, .int a1] M (some (.int r)) M')
noncomputable def J_X5_readAtom_84 (rec : (Nat → Nat → Int32 → q_Mem → Option (Int32 × q_Mem))) (l0 : Nat) (M : q_Mem) : Option (Int32 × q_Mem) := (q_gR M l0 5 0 (fun c9 => q_nn c9 (fun r10 => (q_ob M r10 9 ((F_X9_readNumber r10 (4 : Int32) (0 : Int32) (9999 : Int32) M).bind (fun x => match x with | (u11, M12) => (if u11 = 0 then q_rz (0 : Int32) M12 else (q_gR M12 l0 5 0 (fun c13 => q_nn c13 (fun r14 => (q_gI M12 r14 9 3 (fun v15 => (q_ob M12 l0 5 ((F_X5_write l0 v15 M12).bind (fun x => match x with | (_, M17) => q_rz (1 : Int32) M17)))))))))))))))
set_option maxRecDepth 100000 in
set_option maxHeartbeats 4000000 in
theorem jW_X5_readAtom_84 {K : q_K} {n0 : Nat} (C : q_C K yX5_readAtom cX5_readAtom 3 (Option.some Jvm.ClassFile.FieldType.boolean) (n0 + 6 + 1) 0 0) {rec : (Nat → Nat → Int32 → q_Mem → Option (Int32 × q_Mem))} (hr : Hr_X5_readAtom n0 rec) (l0 : Nat) (M : q_Mem) {r : Int32} {M' : q_Mem} (h : J_X5_readAtom_84 rec l0 M = some (r, M')) : q_W K 3 (q_Q K (some (.int r)) M' 0 0) 0 0 M 84 [some (.ref l0), none, none] [] := by
  unfold J_X5_readAtom_84 at h
  refine q_aload_n C dX5_readAtom_84 rfl ?_
  refine x_getR (ci := 5) (j := 0) C dX5_readAtom_85 lkF_X5_19 rfl h (fun c9 h => ?_)
  refine x_nn h (fun r10 h => ?_)
  refine x_iconst (v := (4 : Int32)) C dX5_readAtom_88 (by decide) ?_
  refine x_iconst (v := (0 : Int32)) C dX5_readAtom_89 (by decide) ?_
  refine x_sipush (v := (9999 : Int32)) C dX5_readAtom_90 (by decide) ?_
  obtain ⟨hk, h⟩ := q_obE h
  obtain ⟨⟨u11, M12⟩, e1, h⟩ := q_bind h
  refine x_callV0 C dX5_readAtom_93 lkM_X5_87 mV_X9_readNumber ⟨_, rfl, rfl⟩ hk (c_X9_readNumber _ _ _ _ _ _ _ e1) rfl rfl (Nat.le_of_ble_eq_true rfl) (⟨by omega, by decide⟩) (by decide) ?_
  refine q_if_ne (tgt := 101) C dX5_readAtom_96 (by decide) h (fun _ h => ?_) (fun _ h => ?_)
  · refine x_iconst (v := (0 : Int32)) C dX5_readAtom_99 (by decide) ?_
    exact q_zret C dX5_readAtom_100 rfl (by decide) (by decide) (q_rzE h).1 (q_rzE h).2
  · refine q_aload_n C dX5_readAtom_101 rfl ?_
    refine q_aload_n C dX5_readAtom_102 rfl ?_
    refine x_getR (ci := 5) (j := 0) C dX5_readAtom_103 lkF_X5_19 rfl h (fun c13 h => ?_)
    refine x_nn h (fun r14 h => ?_)
    refine x_getI (ci := 9) (j := 3) C dX5_readAtom_106 lkF_X5_91 rfl h (fun v15 h => ?_)
    obtain ⟨hk, h⟩ := q_obE h
    obtain ⟨⟨_, M17⟩, e1, h⟩ := q_bind h
    refine x_callVv0 C dX5_readAtom_109 lkM_X5_55 mV_X5_write ⟨_, rfl, rfl⟩ hk (c_X5_write _ _ _ _ _ e1) rfl rfl (Nat.le_of_ble_eq_true rfl) (⟨by omega, by decide⟩) (by decide) ?_
    refine x_iconst (v := (1 : Int32)) C dX5_readAtom_112 (by decide) ?_
    exact q_zret C dX5_readAtom_113 rfl (by decide) (by decide) (q_rzE h).1 (q_rzE h).2
noncomputable def F_X5_readAtom (rec : (Nat → Nat → Int32 → q_Mem → Option (Int32 × q_Mem))) (l0 : Nat) (l1 : Int32) (M : q_Mem) : Option (Int32 × q_Mem) := (q_gR M l0 5 0 (fun c1 => q_nn c1 (fun r2 => (q_ob M r2 9 ((F_X9_peekAmong r2 18 M).bind (fun x => match x with | (u3, M4) => (if u3 = (-1 : Int32) then (if l1 < (6 : Int32) then (q_gR M4 l0 5 0 (fun c5 => q_nn c5 (fun r6 => (q_ob M4 r6 9 ((F_X9_take r6 (91 : Int32) M4).bind (fun x => match x with | (u7, M8) => (if u7 = 0 then J_X5_readAtom_84 rec l0 M8 else (q_ob M8 l0 5 ((rec 1 l0 (l1 + (1 : Int32)) M8).bind (fun x => match x with | (u18, M19) => (if u18 = 0 then q_rz (0 : Int32) M19 else (q_gR M19 l0 5 0 (fun c20 => q_nn c20 (fun r21 => (q_ob M19 r21 9 ((F_X9_take r21 (93 : Int32) M19).bind (fun x => match x with | (u22, M23) => (if u22 = 0 then q_rz (0 : Int32) M23 else q_rz (1 : Int32) M23)))))))))))))))))) else J_X5_readAtom_84 rec l0 M4) else (q_gR M4 l0 5 0 (fun c24 => q_nn c24 (fun r25 => (q_gI M4 r25 9 2 (fun v26 => (q_pI M4 r25 9 2 (v26 + (1 : Int32)) (fun M27 => (q_ob M27 l0 5 ((F_X5_write l0 ((-6 : Int32) + u3) M27).bind (fun x => match x with | (_, M29) => q_rz (1 : Int32) M29)))))))))))))))))
set_option maxRecDepth 100000 in
set_option maxHeartbeats 4000000 in
theorem cr_X5_readAtom {l : Launch} {G : q_G} {n0 : Nat} {rec : (Nat → Nat → Int32 → q_Mem → Option (Int32 × q_Mem))} (hr : Hr_X5_readAtom n0 rec) (l0 : Nat) (l1 : Int32) (M : q_Mem) {r : Int32} {M' : q_Mem} (h : F_X5_readAtom rec l0 l1 M = some (r, M')) : q_Met l G yX5_readAtom cX5_readAtom 3 (Option.some Jvm.ClassFile.FieldType.boolean) (n0 + 6 + 1) 0 0 [.ref l0, .int l1] M (some (.int r)) M' := by
  unfold F_X5_readAtom at h
  refine q_enter [some (.ref l0), some (.int l1), none] (by decide) (Nat.le_of_ble_eq_true rfl) rfl (fun K C => ?_)
  refine q_aload_n C dX5_readAtom_0 rfl ?_
  refine x_getR (ci := 5) (j := 0) C dX5_readAtom_1 lkF_X5_19 rfl h (fun c1 h => ?_)
  refine x_nn h (fun r2 h => ?_)
  refine q_ldcS (i := 7) C dX5_readAtom_4 rfl ?_
  obtain ⟨hk, h⟩ := q_obE h
  obtain ⟨⟨u3, M4⟩, e1, h⟩ := q_bind h
  refine x_callV0 C dX5_readAtom_6 lkM_X5_45 mV_X9_peekAmong ⟨_, rfl, rfl⟩ hk (c_X9_peekAmong _ _ _ _ _ e1) rfl rfl (Nat.le_of_ble_eq_true rfl) (⟨by omega, by decide⟩) (by decide) ?_
  refine q_istore_n (L' := [some (.ref l0), some (.int l1), some (.int u3)]) C dX5_readAtom_9 (by decide) rfl rfl ?_
  refine q_iload_n C dX5_readAtom_10 rfl ?_
  refine x_iconst (v := (-1 : Int32)) C dX5_readAtom_11 (by decide) ?_
  refine q_icmp_eq (tgt := 38) C dX5_readAtom_12 (by decide) h (fun _ h => ?_) (fun _ h => ?_)
  · refine q_iload_n C dX5_readAtom_38 rfl ?_
    refine x_bipush (v := (6 : Int32)) C dX5_readAtom_39 (by decide) ?_
    refine q_icmp_ge (tgt := 84) C dX5_readAtom_41 (by decide) h (fun _ h => ?_) (fun _ h => ?_)
    · refine q_aload_n C dX5_readAtom_44 rfl ?_
      refine x_getR (ci := 5) (j := 0) C dX5_readAtom_45 lkF_X5_19 rfl h (fun c5 h => ?_)
      refine x_nn h (fun r6 h => ?_)
      refine x_bipush (v := (91 : Int32)) C dX5_readAtom_48 (by decide) ?_
      obtain ⟨hk, h⟩ := q_obE h
      obtain ⟨⟨u7, M8⟩, e1, h⟩ := q_bind h
      refine x_callV0 C dX5_readAtom_50 lkM_X5_39 mV_X9_take ⟨_, rfl, rfl⟩ hk (c_X9_take _ _ _ _ _ e1) rfl rfl (Nat.le_of_ble_eq_true rfl) (⟨by omega, by decide⟩) (by decide) ?_
      refine q_if_eq (tgt := 84) C dX5_readAtom_53 (by decide) h (fun _ h => ?_) (fun _ h => ?_)
      · exact q_msk [true, false, false] (jW_X5_readAtom_84 C hr l0 M8 h)
      · refine q_aload_n C dX5_readAtom_56 rfl ?_
        refine q_iload_n C dX5_readAtom_57 rfl ?_
        refine x_iconst (v := (1 : Int32)) C dX5_readAtom_58 (by decide) ?_
        refine q_iadd C dX5_readAtom_59 ?_
        obtain ⟨hk, h⟩ := q_obE h
        obtain ⟨⟨u18, M19⟩, e1, h⟩ := q_bind h
        refine x_callV0 C dX5_readAtom_60 lkM_X5_49 mV_X5_readSum ⟨_, rfl, rfl⟩ hk ((hr _ _).2.1 _ _ _ _ _ e1) rfl rfl (Nat.le_of_ble_eq_true rfl) (⟨by omega, by decide⟩) (by decide) ?_
        refine q_if_eq (tgt := 82) C dX5_readAtom_63 (by decide) h (fun _ h => ?_) (fun _ h => ?_)
        · refine x_iconst (v := (0 : Int32)) C dX5_readAtom_82 (by decide) ?_
          exact q_zret C dX5_readAtom_83 rfl (by decide) (by decide) (q_rzE h).1 (q_rzE h).2
        · refine q_aload_n C dX5_readAtom_66 rfl ?_
          refine x_getR (ci := 5) (j := 0) C dX5_readAtom_67 lkF_X5_19 rfl h (fun c20 h => ?_)
          refine x_nn h (fun r21 h => ?_)
          refine x_bipush (v := (93 : Int32)) C dX5_readAtom_70 (by decide) ?_
          obtain ⟨hk, h⟩ := q_obE h
          obtain ⟨⟨u22, M23⟩, e1, h⟩ := q_bind h
          refine x_callV0 C dX5_readAtom_72 lkM_X5_39 mV_X9_take ⟨_, rfl, rfl⟩ hk (c_X9_take _ _ _ _ _ e1) rfl rfl (Nat.le_of_ble_eq_true rfl) (⟨by omega, by decide⟩) (by decide) ?_
          refine q_if_eq (tgt := 82) C dX5_readAtom_75 (by decide) h (fun _ h => ?_) (fun _ h => ?_)
          · refine x_iconst (v := (0 : Int32)) C dX5_readAtom_82 (by decide) ?_
            exact q_zret C dX5_readAtom_83 rfl (by decide) (by decide) (q_rzE h).1 (q_rzE h).2
          · refine x_iconst (v := (1 : Int32)) C dX5_readAtom_78 (by decide) ?_
            refine q_goto (tgt := 83) C dX5_readAtom_79 (by decide) ?_
            exact q_zret C dX5_readAtom_83 rfl (by decide) (by decide) (q_rzE h).1 (q_rzE h).2
    · exact q_msk [true, false, false] (jW_X5_readAtom_84 C hr l0 M4 h)
  · refine q_aload_n C dX5_readAtom_15 rfl ?_
    refine x_getR (ci := 5) (j := 0) C dX5_readAtom_16 lkF_X5_19 rfl h (fun c24 h => ?_)
    refine x_nn h (fun r25 h => ?_)
    refine q_dup C dX5_readAtom_19 rfl ?_
    refine x_getI (ci := 9) (j := 2) C dX5_readAtom_20 lkF_X5_72 rfl h (fun v26 h => ?_)
    refine x_iconst (v := (1 : Int32)) C dX5_readAtom_23 (by decide) ?_
    refine q_iadd C dX5_readAtom_24 ?_
    refine x_putI (ci := 9) (j := 2) C dX5_readAtom_25 lkF_X5_72 (fun r hr => by cases hr; rfl) rfl h (fun M27 h => ?_)
    refine q_aload_n C dX5_readAtom_28 rfl ?_
    refine x_bipush (v := (-6 : Int32)) C dX5_readAtom_29 (by decide) ?_
    refine q_iload_n C dX5_readAtom_31 rfl ?_
    refine q_iadd C dX5_readAtom_32 ?_
    obtain ⟨hk, h⟩ := q_obE h
    obtain ⟨⟨_, M29⟩, e1, h⟩ := q_bind h
    refine x_callVv0 C dX5_readAtom_33 lkM_X5_55 mV_X5_write ⟨_, rfl, rfl⟩ hk (c_X5_write _ _ _ _ _ e1) rfl rfl (Nat.le_of_ble_eq_true rfl) (⟨by omega, by decide⟩) (by decide) ?_
    refine x_iconst (v := (1 : Int32)) C dX5_readAtom_36 (by decide) ?_
    exact q_zret C dX5_readAtom_37 rfl (by decide) (by decide) (q_rzE h).1 (q_rzE h).2
noncomputable def B_X5_readSum_12 (rec : (Nat → Nat → Int32 → q_Mem → Option (Int32 × q_Mem))) (l0 : Nat) (l1 : Int32) (l2 : Int32) (M : q_Mem) : Option ((Int32 × q_Mem) ⊕ ((q_Mem) ⊕ ((q_Mem) ⊕ (q_Mem)))) := (if l2 < (240 : Int32) then (q_gR M l0 5 0 (fun c3 => q_nn c3 (fun r4 => (q_ob M r4 9 ((F_X9_peekAmong r4 14 M).bind (fun x => match x with | (u5, M6) => (if u5 = (-1 : Int32) then some (.inr (.inl M6)) else (q_gR M6 l0 5 0 (fun c7 => q_nn c7 (fun r8 => (q_gI M6 r8 9 2 (fun v9 => (q_pI M6 r8 9 2 (v9 + (1 : Int32)) (fun M10 => (q_ob M10 l0 5 ((rec 2 l0 l1 M10).bind (fun x => match x with | (u11, M12) => (if u11 = 0 then some (.inr (.inr (.inl M12))) else (q_ob M12 l0 5 ((F_X5_write l0 ((-7 : Int32) - u5) M12).bind (fun x => match x with | (_, M14) => some (.inl ((l2 + (1 : Int32)), M14))))))))))))))))))))))) else some (.inr (.inr (.inr M))))
set_option maxRecDepth 100000 in
set_option maxHeartbeats 4000000 in
theorem bW_X5_readSum_12 {K : q_K} {Q : State → Prop} {n0 : Nat} (C : q_C K yX5_readSum cX5_readSum 4 (Option.some Jvm.ClassFile.FieldType.boolean) (n0 + 6 + 1) 0 0) {rec : (Nat → Nat → Int32 → q_Mem → Option (Int32 × q_Mem))} (hr : Hr_X5_readAtom n0 rec) (l0 : Nat) (l1 : Int32) (l2 : Int32) (M : q_Mem) {stp : (Int32 × q_Mem) ⊕ ((q_Mem) ⊕ ((q_Mem) ⊕ (q_Mem)))} (h : B_X5_readSum_12 rec l0 l1 l2 M = some stp) (kC : ∀ (l2 : Int32) (M : q_Mem), stp = .inl (l2, M) → q_W K 4 Q 0 0 M 12 [some (.ref l0), some (.int l1), some (.int l2), none] []) (kE0 : ∀ (M : q_Mem), stp = .inr (.inl M) → q_W K 4 Q 0 0 M 34 [none, none, none, none] []) (kE1 : ∀ (M : q_Mem), stp = .inr (.inr (.inl M)) → q_W K 4 Q 0 0 M 57 [none, none, none, none] []) (kE2 : ∀ (M : q_Mem), stp = .inr (.inr (.inr M)) → q_W K 4 Q 0 0 M 73 [none, none, none, none] []) : q_W K 4 Q 0 0 M 12 [some (.ref l0), some (.int l1), some (.int l2), none] [] := by
  unfold B_X5_readSum_12 at h
  refine q_iload_n C dX5_readSum_12 rfl ?_
  refine x_sipush (v := (240 : Int32)) C dX5_readSum_13 (by decide) ?_
  refine q_icmp_ge (tgt := 73) C dX5_readSum_16 (by decide) h (fun _ h => ?_) (fun _ h => ?_)
  · refine q_aload_n C dX5_readSum_19 rfl ?_
    refine x_getR (ci := 5) (j := 0) C dX5_readSum_20 lkF_X5_19 rfl h (fun c3 h => ?_)
    refine x_nn h (fun r4 h => ?_)
    refine q_ldcS (i := 5) C dX5_readSum_23 rfl ?_
    obtain ⟨hk, h⟩ := q_obE h
    obtain ⟨⟨u5, M6⟩, e1, h⟩ := q_bind h
    refine x_callV0 C dX5_readSum_25 lkM_X5_45 mV_X9_peekAmong ⟨_, rfl, rfl⟩ hk (c_X9_peekAmong _ _ _ _ _ e1) rfl rfl (Nat.le_of_ble_eq_true rfl) (⟨by omega, by decide⟩) (by decide) ?_
    refine q_istore_n (L' := [some (.ref l0), some (.int l1), some (.int l2), some (.int u5)]) C dX5_readSum_28 (by decide) rfl rfl ?_
    refine q_iload_n C dX5_readSum_29 rfl ?_
    refine x_iconst (v := (-1 : Int32)) C dX5_readSum_30 (by decide) ?_
    refine q_icmp_ne (tgt := 36) C dX5_readSum_31 (by decide) h (fun _ h => ?_) (fun _ h => ?_)
    · exact q_msk [false, false, false, false] (kE0 _ (Option.some.inj h).symm)
    · refine q_aload_n C dX5_readSum_36 rfl ?_
      refine x_getR (ci := 5) (j := 0) C dX5_readSum_37 lkF_X5_19 rfl h (fun c7 h => ?_)
      refine x_nn h (fun r8 h => ?_)
      refine q_dup C dX5_readSum_40 rfl ?_
      refine x_getI (ci := 9) (j := 2) C dX5_readSum_41 lkF_X5_72 rfl h (fun v9 h => ?_)
      refine x_iconst (v := (1 : Int32)) C dX5_readSum_44 (by decide) ?_
      refine q_iadd C dX5_readSum_45 ?_
      refine x_putI (ci := 9) (j := 2) C dX5_readSum_46 lkF_X5_72 (fun r hr => by cases hr; rfl) rfl h (fun M10 h => ?_)
      refine q_aload_n C dX5_readSum_49 rfl ?_
      refine q_iload_n C dX5_readSum_50 rfl ?_
      obtain ⟨hk, h⟩ := q_obE h
      obtain ⟨⟨u11, M12⟩, e1, h⟩ := q_bind h
      refine x_callV0 C dX5_readSum_51 lkM_X5_75 mV_X5_readTerm ⟨_, rfl, rfl⟩ hk ((hr _ _).2.2 _ _ _ _ _ e1) rfl rfl (Nat.le_of_ble_eq_true rfl) (⟨by omega, by decide⟩) (by decide) ?_
      refine q_if_ne (tgt := 59) C dX5_readSum_54 (by decide) h (fun _ h => ?_) (fun _ h => ?_)
      · exact q_msk [false, false, false, false] (kE1 _ (Option.some.inj h).symm)
      · refine q_aload_n C dX5_readSum_59 rfl ?_
        refine x_bipush (v := (-7 : Int32)) C dX5_readSum_60 (by decide) ?_
        refine q_iload_n C dX5_readSum_62 rfl ?_
        refine q_isub C dX5_readSum_63 ?_
        obtain ⟨hk, h⟩ := q_obE h
        obtain ⟨⟨_, M14⟩, e1, h⟩ := q_bind h
        refine x_callVv0 C dX5_readSum_64 lkM_X5_55 mV_X5_write ⟨_, rfl, rfl⟩ hk (c_X5_write _ _ _ _ _ e1) rfl rfl (Nat.le_of_ble_eq_true rfl) (⟨by omega, by decide⟩) (by decide) ?_
        refine x_iinc (w := (1 : Int32)) (L' := [some (.ref l0), some (.int l1), some (.int (l2 + (1 : Int32))), some (.int u5)]) C dX5_readSum_67 rfl (by decide) (by decide) rfl rfl ?_
        refine q_goto (tgt := 12) C dX5_readSum_70 (by decide) ?_
        exact q_msk [true, true, true, false] (kC _ _ (Option.some.inj h).symm)
  · exact q_msk [false, false, false, false] (kE2 _ (Option.some.inj h).symm)
set_option maxRecDepth 100000 in
set_option maxHeartbeats 4000000 in
theorem lW_X5_readSum_12 {K : q_K} {Q : State → Prop} {n0 : Nat} (C : q_C K yX5_readSum cX5_readSum 4 (Option.some Jvm.ClassFile.FieldType.boolean) (n0 + 6 + 1) 0 0) {rec : (Nat → Nat → Int32 → q_Mem → Option (Int32 × q_Mem))} (hr : Hr_X5_readAtom n0 rec) (l0 : Nat) (l1 : Int32) (n : Nat) : ∀ (l2 : Int32) (M : q_Mem) (e : ((q_Mem) ⊕ ((q_Mem) ⊕ (q_Mem)))), q_lp (fun s => B_X5_readSum_12 rec l0 l1 s.1 s.2) n (l2, M) = some e → (∀ (M : q_Mem), e = (.inl M) → q_W K 4 Q 0 0 M 34 [none, none, none, none] []) → (∀ (M : q_Mem), e = (.inr (.inl M)) → q_W K 4 Q 0 0 M 57 [none, none, none, none] []) → (∀ (M : q_Mem), e = (.inr (.inr M)) → q_W K 4 Q 0 0 M 73 [none, none, none, none] []) → q_W K 4 Q 0 0 M 12 [some (.ref l0), some (.int l1), some (.int l2), none] [] := by
  induction n with
  | zero => intro l2 M e h; cases h
  | succ n ih =>
    intro l2 M e h kE0 kE1 kE2
    obtain ⟨stp, e1, e2⟩ := q_bind h
    refine bW_X5_readSum_12 C hr l0 l1 l2 M e1 (fun a0 a1 hs => ?_) (fun b0 hs => ?_) (fun b0 hs => ?_) (fun b0 hs => ?_)
    · subst hs; exact ih _ _ _ e2 kE0 kE1 kE2
    · subst hs; exact kE0 _ (Option.some.inj e2).symm
    · subst hs; exact kE1 _ (Option.some.inj e2).symm
    · subst hs; exact kE2 _ (Option.some.inj e2).symm
noncomputable def F_X5_readSum (rec : (Nat → Nat → Int32 → q_Mem → Option (Int32 × q_Mem))) (l0 : Nat) (l1 : Int32) (M : q_Mem) : Option (Int32 × q_Mem) := (q_ob M l0 5 ((rec 2 l0 l1 M).bind (fun x => match x with | (u1, M2) => (if u1 = 0 then q_rz (0 : Int32) M2 else (q_lp (fun s => B_X5_readSum_12 rec l0 l1 s.1 s.2) q_fu ((0 : Int32), M2)).bind (fun e15 => match e15 with | .inl M16 => q_rz (1 : Int32) M16 | .inr (.inl M17) => q_rz (0 : Int32) M17 | .inr (.inr M18) => q_rz (0 : Int32) M18)))))
set_option maxRecDepth 100000 in
set_option maxHeartbeats 4000000 in
theorem cr_X5_readSum {l : Launch} {G : q_G} {n0 : Nat} {rec : (Nat → Nat → Int32 → q_Mem → Option (Int32 × q_Mem))} (hr : Hr_X5_readAtom n0 rec) (l0 : Nat) (l1 : Int32) (M : q_Mem) {r : Int32} {M' : q_Mem} (h : F_X5_readSum rec l0 l1 M = some (r, M')) : q_Met l G yX5_readSum cX5_readSum 4 (Option.some Jvm.ClassFile.FieldType.boolean) (n0 + 6 + 1) 0 0 [.ref l0, .int l1] M (some (.int r)) M' := by
  unfold F_X5_readSum at h
  refine q_enter [some (.ref l0), some (.int l1), none, none] (by decide) (Nat.le_of_ble_eq_true rfl) rfl (fun K C => ?_)
  refine q_aload_n C dX5_readSum_0 rfl ?_
  refine q_iload_n C dX5_readSum_1 rfl ?_
  obtain ⟨hk, h⟩ := q_obE h
  obtain ⟨⟨u1, M2⟩, e1, h⟩ := q_bind h
  refine x_callV0 C dX5_readSum_2 lkM_X5_75 mV_X5_readTerm ⟨_, rfl, rfl⟩ hk ((hr _ _).2.2 _ _ _ _ _ e1) rfl rfl (Nat.le_of_ble_eq_true rfl) (⟨by omega, by decide⟩) (by decide) ?_
  refine q_if_ne (tgt := 10) C dX5_readSum_5 (by decide) h (fun _ h => ?_) (fun _ h => ?_)
  · refine x_iconst (v := (0 : Int32)) C dX5_readSum_8 (by decide) ?_
    exact q_zret C dX5_readSum_9 rfl (by decide) (by decide) (q_rzE h).1 (q_rzE h).2
  · refine x_iconst (v := (0 : Int32)) C dX5_readSum_10 (by decide) ?_
    refine q_istore_n (L' := [some (.ref l0), some (.int l1), some (.int (0 : Int32)), none]) C dX5_readSum_11 (by decide) rfl rfl ?_
    obtain ⟨e15, he, h⟩ := q_bind h
    refine q_msk [true, true, true, false] (lW_X5_readSum_12 C hr l0 l1 q_fu _ _ _ he (fun M16 hs => ?_) (fun M17 hs => ?_) (fun M18 hs => ?_))
    · have hs := hs.symm
      subst hs
      refine x_iconst (v := (1 : Int32)) C dX5_readSum_34 (by decide) ?_
      exact q_zret C dX5_readSum_35 rfl (by decide) (by decide) (q_rzE h).1 (q_rzE h).2
    · have hs := hs.symm
      subst hs
      refine x_iconst (v := (0 : Int32)) C dX5_readSum_57 (by decide) ?_
      exact q_zret C dX5_readSum_58 rfl (by decide) (by decide) (q_rzE h).1 (q_rzE h).2
    · have hs := hs.symm
      subst hs
      refine x_iconst (v := (0 : Int32)) C dX5_readSum_73 (by decide) ?_
      exact q_zret C dX5_readSum_74 rfl (by decide) (by decide) (q_rzE h).1 (q_rzE h).2
noncomputable def B_X5_readTerm_12 (rec : (Nat → Nat → Int32 → q_Mem → Option (Int32 × q_Mem))) (l0 : Nat) (l1 : Int32) (l2 : Int32) (M : q_Mem) : Option ((Int32 × q_Mem) ⊕ ((q_Mem) ⊕ ((q_Mem) ⊕ (q_Mem)))) := (if l2 < (240 : Int32) then (q_gR M l0 5 0 (fun c3 => q_nn c3 (fun r4 => (q_ob M r4 9 ((F_X9_peekAmong r4 16 M).bind (fun x => match x with | (u5, M6) => (if u5 = (-1 : Int32) then some (.inr (.inl M6)) else (q_gR M6 l0 5 0 (fun c7 => q_nn c7 (fun r8 => (q_gI M6 r8 9 2 (fun v9 => (q_pI M6 r8 9 2 (v9 + (1 : Int32)) (fun M10 => (q_ob M10 l0 5 ((rec 0 l0 l1 M10).bind (fun x => match x with | (u11, M12) => (if u11 = 0 then some (.inr (.inr (.inl M12))) else (q_ob M12 l0 5 ((F_X5_write l0 ((-9 : Int32) - u5) M12).bind (fun x => match x with | (_, M14) => some (.inl ((l2 + (1 : Int32)), M14))))))))))))))))))))))) else some (.inr (.inr (.inr M))))
set_option maxRecDepth 100000 in
set_option maxHeartbeats 4000000 in
theorem bW_X5_readTerm_12 {K : q_K} {Q : State → Prop} {n0 : Nat} (C : q_C K yX5_readTerm cX5_readTerm 4 (Option.some Jvm.ClassFile.FieldType.boolean) (n0 + 6 + 1) 0 0) {rec : (Nat → Nat → Int32 → q_Mem → Option (Int32 × q_Mem))} (hr : Hr_X5_readAtom n0 rec) (l0 : Nat) (l1 : Int32) (l2 : Int32) (M : q_Mem) {stp : (Int32 × q_Mem) ⊕ ((q_Mem) ⊕ ((q_Mem) ⊕ (q_Mem)))} (h : B_X5_readTerm_12 rec l0 l1 l2 M = some stp) (kC : ∀ (l2 : Int32) (M : q_Mem), stp = .inl (l2, M) → q_W K 4 Q 0 0 M 12 [some (.ref l0), some (.int l1), some (.int l2), none] []) (kE0 : ∀ (M : q_Mem), stp = .inr (.inl M) → q_W K 4 Q 0 0 M 34 [none, none, none, none] []) (kE1 : ∀ (M : q_Mem), stp = .inr (.inr (.inl M)) → q_W K 4 Q 0 0 M 57 [none, none, none, none] []) (kE2 : ∀ (M : q_Mem), stp = .inr (.inr (.inr M)) → q_W K 4 Q 0 0 M 73 [none, none, none, none] []) : q_W K 4 Q 0 0 M 12 [some (.ref l0), some (.int l1), some (.int l2), none] [] := by
  unfold B_X5_readTerm_12 at h
  refine q_iload_n C dX5_readTerm_12 rfl ?_
  refine x_sipush (v := (240 : Int32)) C dX5_readTerm_13 (by decide) ?_
  refine q_icmp_ge (tgt := 73) C dX5_readTerm_16 (by decide) h (fun _ h => ?_) (fun _ h => ?_)
  · refine q_aload_n C dX5_readTerm_19 rfl ?_
    refine x_getR (ci := 5) (j := 0) C dX5_readTerm_20 lkF_X5_19 rfl h (fun c3 h => ?_)
    refine x_nn h (fun r4 h => ?_)
    refine q_ldcS (i := 6) C dX5_readTerm_23 rfl ?_
    obtain ⟨hk, h⟩ := q_obE h
    obtain ⟨⟨u5, M6⟩, e1, h⟩ := q_bind h
    refine x_callV0 C dX5_readTerm_25 lkM_X5_45 mV_X9_peekAmong ⟨_, rfl, rfl⟩ hk (c_X9_peekAmong _ _ _ _ _ e1) rfl rfl (Nat.le_of_ble_eq_true rfl) (⟨by omega, by decide⟩) (by decide) ?_
    refine q_istore_n (L' := [some (.ref l0), some (.int l1), some (.int l2), some (.int u5)]) C dX5_readTerm_28 (by decide) rfl rfl ?_
    refine q_iload_n C dX5_readTerm_29 rfl ?_
    refine x_iconst (v := (-1 : Int32)) C dX5_readTerm_30 (by decide) ?_
    refine q_icmp_ne (tgt := 36) C dX5_readTerm_31 (by decide) h (fun _ h => ?_) (fun _ h => ?_)
    · exact q_msk [false, false, false, false] (kE0 _ (Option.some.inj h).symm)
    · refine q_aload_n C dX5_readTerm_36 rfl ?_
      refine x_getR (ci := 5) (j := 0) C dX5_readTerm_37 lkF_X5_19 rfl h (fun c7 h => ?_)
      refine x_nn h (fun r8 h => ?_)
      refine q_dup C dX5_readTerm_40 rfl ?_
      refine x_getI (ci := 9) (j := 2) C dX5_readTerm_41 lkF_X5_72 rfl h (fun v9 h => ?_)
      refine x_iconst (v := (1 : Int32)) C dX5_readTerm_44 (by decide) ?_
      refine q_iadd C dX5_readTerm_45 ?_
      refine x_putI (ci := 9) (j := 2) C dX5_readTerm_46 lkF_X5_72 (fun r hr => by cases hr; rfl) rfl h (fun M10 h => ?_)
      refine q_aload_n C dX5_readTerm_49 rfl ?_
      refine q_iload_n C dX5_readTerm_50 rfl ?_
      obtain ⟨hk, h⟩ := q_obE h
      obtain ⟨⟨u11, M12⟩, e1, h⟩ := q_bind h
      refine x_callV0 C dX5_readTerm_51 lkM_X5_80 mV_X5_readAtom ⟨_, rfl, rfl⟩ hk ((hr _ _).1 _ _ _ _ _ e1) rfl rfl (Nat.le_of_ble_eq_true rfl) (⟨by omega, by decide⟩) (by decide) ?_
      refine q_if_ne (tgt := 59) C dX5_readTerm_54 (by decide) h (fun _ h => ?_) (fun _ h => ?_)
      · exact q_msk [false, false, false, false] (kE1 _ (Option.some.inj h).symm)
      · refine q_aload_n C dX5_readTerm_59 rfl ?_
        refine x_bipush (v := (-9 : Int32)) C dX5_readTerm_60 (by decide) ?_
        refine q_iload_n C dX5_readTerm_62 rfl ?_
        refine q_isub C dX5_readTerm_63 ?_
        obtain ⟨hk, h⟩ := q_obE h
        obtain ⟨⟨_, M14⟩, e1, h⟩ := q_bind h
        refine x_callVv0 C dX5_readTerm_64 lkM_X5_55 mV_X5_write ⟨_, rfl, rfl⟩ hk (c_X5_write _ _ _ _ _ e1) rfl rfl (Nat.le_of_ble_eq_true rfl) (⟨by omega, by decide⟩) (by decide) ?_
        refine x_iinc (w := (1 : Int32)) (L' := [some (.ref l0), some (.int l1), some (.int (l2 + (1 : Int32))), some (.int u5)]) C dX5_readTerm_67 rfl (by decide) (by decide) rfl rfl ?_
        refine q_goto (tgt := 12) C dX5_readTerm_70 (by decide) ?_
        exact q_msk [true, true, true, false] (kC _ _ (Option.some.inj h).symm)
  · exact q_msk [false, false, false, false] (kE2 _ (Option.some.inj h).symm)
set_option maxRecDepth 100000 in
set_option maxHeartbeats 4000000 in
theorem lW_X5_readTerm_12 {K : q_K} {Q : State → Prop} {n0 : Nat} (C : q_C K yX5_readTerm cX5_readTerm 4 (Option.some Jvm.ClassFile.FieldType.boolean) (n0 + 6 + 1) 0 0) {rec : (Nat → Nat → Int32 → q_Mem → Option (Int32 × q_Mem))} (hr : Hr_X5_readAtom n0 rec) (l0 : Nat) (l1 : Int32) (n : Nat) : ∀ (l2 : Int32) (M : q_Mem) (e : ((q_Mem) ⊕ ((q_Mem) ⊕ (q_Mem)))), q_lp (fun s => B_X5_readTerm_12 rec l0 l1 s.1 s.2) n (l2, M) = some e → (∀ (M : q_Mem), e = (.inl M) → q_W K 4 Q 0 0 M 34 [none, none, none, none] []) → (∀ (M : q_Mem), e = (.inr (.inl M)) → q_W K 4 Q 0 0 M 57 [none, none, none, none] []) → (∀ (M : q_Mem), e = (.inr (.inr M)) → q_W K 4 Q 0 0 M 73 [none, none, none, none] []) → q_W K 4 Q 0 0 M 12 [some (.ref l0), some (.int l1), some (.int l2), none] [] := by
  induction n with
  | zero => intro l2 M e h; cases h
  | succ n ih =>
    intro l2 M e h kE0 kE1 kE2
    obtain ⟨stp, e1, e2⟩ := q_bind h
    refine bW_X5_readTerm_12 C hr l0 l1 l2 M e1 (fun a0 a1 hs => ?_) (fun b0 hs => ?_) (fun b0 hs => ?_) (fun b0 hs => ?_)
    · subst hs; exact ih _ _ _ e2 kE0 kE1 kE2
    · subst hs; exact kE0 _ (Option.some.inj e2).symm
    · subst hs; exact kE1 _ (Option.some.inj e2).symm
    · subst hs; exact kE2 _ (Option.some.inj e2).symm
noncomputable def F_X5_readTerm (rec : (Nat → Nat → Int32 → q_Mem → Option (Int32 × q_Mem))) (l0 : Nat) (l1 : Int32) (M : q_Mem) : Option (Int32 × q_Mem) := (q_ob M l0 5 ((rec 0 l0 l1 M).bind (fun x => match x with | (u1, M2) => (if u1 = 0 then q_rz (0 : Int32) M2 else (q_lp (fun s => B_X5_readTerm_12 rec l0 l1 s.1 s.2) q_fu ((0 : Int32), M2)).bind (fun e15 => match e15 with | .inl M16 => q_rz (1 : Int32) M16 | .inr (.inl M17) => q_rz (0 : Int32) M17 | .inr (.inr M18) => q_rz (0 : Int32) M18)))))
set_option maxRecDepth 100000 in
set_option maxHeartbeats 4000000 in
theorem cr_X5_readTerm {l : Launch} {G : q_G} {n0 : Nat} {rec : (Nat → Nat → Int32 → q_Mem → Option (Int32 × q_Mem))} (hr : Hr_X5_readAtom n0 rec) (l0 : Nat) (l1 : Int32) (M : q_Mem) {r : Int32} {M' : q_Mem} (h : F_X5_readTerm rec l0 l1 M = some (r, M')) : q_Met l G yX5_readTerm cX5_readTerm 4 (Option.some Jvm.ClassFile.FieldType.boolean) (n0 + 6 + 1) 0 0 [.ref l0, .int l1] M (some (.int r)) M' := by
  unfold F_X5_readTerm at h
  refine q_enter [some (.ref l0), some (.int l1), none, none] (by decide) (Nat.le_of_ble_eq_true rfl) rfl (fun K C => ?_)
  refine q_aload_n C dX5_readTerm_0 rfl ?_
  refine q_iload_n C dX5_readTerm_1 rfl ?_
  obtain ⟨hk, h⟩ := q_obE h
  obtain ⟨⟨u1, M2⟩, e1, h⟩ := q_bind h
  refine x_callV0 C dX5_readTerm_2 lkM_X5_80 mV_X5_readAtom ⟨_, rfl, rfl⟩ hk ((hr _ _).1 _ _ _ _ _ e1) rfl rfl (Nat.le_of_ble_eq_true rfl) (⟨by omega, by decide⟩) (by decide) ?_
  refine q_if_ne (tgt := 10) C dX5_readTerm_5 (by decide) h (fun _ h => ?_) (fun _ h => ?_)
  · refine x_iconst (v := (0 : Int32)) C dX5_readTerm_8 (by decide) ?_
    exact q_zret C dX5_readTerm_9 rfl (by decide) (by decide) (q_rzE h).1 (q_rzE h).2
  · refine x_iconst (v := (0 : Int32)) C dX5_readTerm_10 (by decide) ?_
    refine q_istore_n (L' := [some (.ref l0), some (.int l1), some (.int (0 : Int32)), none]) C dX5_readTerm_11 (by decide) rfl rfl ?_
    obtain ⟨e15, he, h⟩ := q_bind h
    refine q_msk [true, true, true, false] (lW_X5_readTerm_12 C hr l0 l1 q_fu _ _ _ he (fun M16 hs => ?_) (fun M17 hs => ?_) (fun M18 hs => ?_))
    · have hs := hs.symm
      subst hs
      refine x_iconst (v := (1 : Int32)) C dX5_readTerm_34 (by decide) ?_
      exact q_zret C dX5_readTerm_35 rfl (by decide) (by decide) (q_rzE h).1 (q_rzE h).2
    · have hs := hs.symm
      subst hs
      refine x_iconst (v := (0 : Int32)) C dX5_readTerm_57 (by decide) ?_
      exact q_zret C dX5_readTerm_58 rfl (by decide) (by decide) (q_rzE h).1 (q_rzE h).2
    · have hs := hs.symm
      subst hs
      refine x_iconst (v := (0 : Int32)) C dX5_readTerm_73 (by decide) ?_
      exact q_zret C dX5_readTerm_74 rfl (by decide) (by decide) (q_rzE h).1 (q_rzE h).2
noncomputable def R_X5_readAtom : Nat → Nat → Nat → Int32 → q_Mem → Option (Int32 × q_Mem)
  | 0 => fun _ _ _ _ => none
  | n + 1 => fun tag a0 b0 M => match tag with | 0 => F_X5_readAtom (R_X5_readAtom n) a0 b0 M | 1 => F_X5_readSum (R_X5_readAtom n) a0 b0 M | _ => F_X5_readTerm (R_X5_readAtom n) a0 b0 M
set_option maxRecDepth 100000 in
theorem Rok_X5_readAtom (n : Nat) : Hr_X5_readAtom n (R_X5_readAtom n) := by
  induction n with
  | zero => exact fun l G => ⟨(fun a0 a1 M r M' h => by cases h), (fun a0 a1 M r M' h => by cases h), (fun a0 a1 M r M' h => by cases h)⟩
  | succ n ih => exact fun l G => ⟨(fun a0 a1 M r M' h => cr_X5_readAtom ih a0 a1 M h), (fun a0 a1 M r M' h => cr_X5_readSum ih a0 a1 M h), (fun a0 a1 M r M' h => cr_X5_readTerm ih a0 a1 M h)⟩
theorem c_X5_readAtom (l : Launch) (G : q_G) (a0 : Nat) (a1 : Int32) (M : q_Mem) {r : Int32} {M' : q_Mem} (h : R_X5_readAtom 60 0 a0 a1 M = some (r, M')) : q_Met l G yX5_readAtom cX5_readAtom 3 (Option.some Jvm.ClassFile.FieldType.boolean) 66 0 0 [.ref a0, .int a1] M (some (.int r)) M' := (Rok_X5_readAtom 60 l G).1 a0 a1 M r M' h
theorem c_X5_readSum (l : Launch) (G : q_G) (a0 : Nat) (a1 : Int32) (M : q_Mem) {r : Int32} {M' : q_Mem} (h : R_X5_readAtom 60 1 a0 a1 M = some (r, M')) : q_Met l G yX5_readSum cX5_readSum 4 (Option.some Jvm.ClassFile.FieldType.boolean) 66 0 0 [.ref a0, .int a1] M (some (.int r)) M' := (Rok_X5_readAtom 60 l G).2.1 a0 a1 M r M' h
theorem c_X5_readTerm (l : Launch) (G : q_G) (a0 : Nat) (a1 : Int32) (M : q_Mem) {r : Int32} {M' : q_Mem} (h : R_X5_readAtom 60 2 a0 a1 M = some (r, M')) : q_Met l G yX5_readTerm cX5_readTerm 4 (Option.some Jvm.ClassFile.FieldType.boolean) 66 0 0 [.ref a0, .int a1] M (some (.int r)) M' := (Rok_X5_readAtom 60 l G).2.2 a0 a1 M r M' h
