noncomputable def F_X9_init (l0 : Nat) (M : q_Mem) : Option (Unit × q_Mem) := (q_nA M 1 (240 : Int32) 240 (fun k1 M2 => (q_pR M2 l0 9 0 (k1 + 1) (fun M3 => (q_pI M3 l0 9 1 (0 : Int32) (fun M4 => (q_pI M4 l0 9 2 (0 : Int32) (fun M5 => (q_pI M5 l0 9 3 (0 : Int32) (fun M6 => some ((), M6)))))))))))
set_option maxRecDepth 100000 in
set_option maxHeartbeats 4000000 in
theorem c_X9_init (l : Launch) (G : q_G) (l0 : Nat) (M : q_Mem) {r : Unit} {M' : q_Mem} (h : F_X9_init l0 M = some (r, M')) : q_Met l G yX9_init cX9_init 1 (Option.none : Option Jvm.ClassFile.FieldType) 2 1 240 [.ref l0] M none M' := by
  unfold F_X9_init at h
  refine q_enter [some (.ref l0)] (by decide) (Nat.le_of_ble_eq_true rfl) rfl (fun K C => ?_)
  refine q_aload_n C dX9_init_0 rfl ?_
  refine q_objI C dX9_init_1 wd_40 wd_33 wd_34 (by decide) (Nat.le_of_ble_eq_true rfl) ?_
  refine q_aload_n C dX9_init_4 rfl ?_
  refine x_sipush (v := (240 : Int32)) C dX9_init_5 (by decide) ?_
  refine x_newa C dX9_init_8 (by simp) wd_62 (by decide) h (by decide) (fun k1 M2 h => ?_)
  refine x_putR (ci := 9) (j := 0) (k1 + 1) C dX9_init_10 lkF_X9_9 (fun r hr => by cases hr; exact Or.inr ⟨rfl, rfl, wd_41⟩) (Or.inr ⟨_, rfl⟩) rfl h (fun M3 h => ?_)
  refine q_aload_n C dX9_init_13 rfl ?_
  refine x_iconst (v := (0 : Int32)) C dX9_init_14 (by decide) ?_
  refine x_putI (ci := 9) (j := 1) C dX9_init_15 lkF_X9_15 (fun r hr => by cases hr; rfl) rfl h (fun M4 h => ?_)
  refine q_aload_n C dX9_init_18 rfl ?_
  refine x_iconst (v := (0 : Int32)) C dX9_init_19 (by decide) ?_
  refine x_putI (ci := 9) (j := 2) C dX9_init_20 lkF_X9_19 (fun r hr => by cases hr; rfl) rfl h (fun M5 h => ?_)
  refine q_aload_n C dX9_init_23 rfl ?_
  refine x_iconst (v := (0 : Int32)) C dX9_init_24 (by decide) ?_
  refine x_putI (ci := 9) (j := 3) C dX9_init_25 lkF_X9_22 (fun r hr => by cases hr; rfl) rfl h (fun M6 h => ?_)
  exact q_vret C dX9_init_28 rfl (by decide) (by decide) (Option.some.inj h)
noncomputable def J_X9_bytesIn_22_5 (l0 : Int32) (l1 : Int32) (l2 : Int32) (M : q_Mem) : Option ((Int32 × Int32) ⊕ (Int32)) := some (.inl (l1, (l2 + (-8 : Int32))))
set_option maxRecDepth 100000 in
set_option maxHeartbeats 4000000 in
theorem jW_X9_bytesIn_22_5 {K : q_K} {Q : State → Prop} (C : q_C K yX9_bytesIn cX9_bytesIn 3 (Option.some Jvm.ClassFile.FieldType.int) 1 0 0) (l0 : Int32) (l1 : Int32) (l2 : Int32) (M : q_Mem) {stp : (Int32 × Int32) ⊕ (Int32)} (h : J_X9_bytesIn_22_5 l0 l1 l2 M = some stp) (kC : ∀ (l1 : Int32) (l2 : Int32), stp = .inl (l1, l2) → q_W K 3 Q 0 0 M 5 [some (.int l0), some (.int l1), some (.int l2)] []) (kE0 : ∀ (l1 : Int32), stp = .inr l1 → q_W K 3 Q 0 0 M 28 [none, some (.int l1), none] []) : q_W K 3 Q 0 0 M 22 [some (.int l0), some (.int l1), some (.int l2)] [] := by
  unfold J_X9_bytesIn_22_5 at h
  refine x_iinc (w := (-8 : Int32)) (L' := [some (.int l0), some (.int l1), some (.int (l2 + (-8 : Int32)))]) C dX9_bytesIn_22 rfl (by decide) (by decide) rfl rfl ?_
  refine q_goto (tgt := 5) C dX9_bytesIn_25 (by decide) ?_
  exact q_msk [true, true, true] (kC _ _ (Option.some.inj h).symm)
noncomputable def B_X9_bytesIn_5 (l0 : Int32) (l1 : Int32) (l2 : Int32) (M : q_Mem) : Option ((Int32 × Int32) ⊕ (Int32)) := (if l2 < 0 then some (.inr l1) else (if ((l0.toUInt32 >>> (l2.toUInt32 &&& Int32.toUInt32 31)).toInt32 &&& (255 : Int32)) = 0 then J_X9_bytesIn_22_5 l0 l1 l2 M else J_X9_bytesIn_22_5 l0 (l1 + (1 : Int32)) l2 M))
set_option maxRecDepth 100000 in
set_option maxHeartbeats 4000000 in
theorem bW_X9_bytesIn_5 {K : q_K} {Q : State → Prop} (C : q_C K yX9_bytesIn cX9_bytesIn 3 (Option.some Jvm.ClassFile.FieldType.int) 1 0 0) (l0 : Int32) (l1 : Int32) (l2 : Int32) (M : q_Mem) {stp : (Int32 × Int32) ⊕ (Int32)} (h : B_X9_bytesIn_5 l0 l1 l2 M = some stp) (kC : ∀ (l1 : Int32) (l2 : Int32), stp = .inl (l1, l2) → q_W K 3 Q 0 0 M 5 [some (.int l0), some (.int l1), some (.int l2)] []) (kE0 : ∀ (l1 : Int32), stp = .inr l1 → q_W K 3 Q 0 0 M 28 [none, some (.int l1), none] []) : q_W K 3 Q 0 0 M 5 [some (.int l0), some (.int l1), some (.int l2)] [] := by
  unfold B_X9_bytesIn_5 at h
  refine q_iload_n C dX9_bytesIn_5 rfl ?_
  refine q_if_lt (tgt := 28) C dX9_bytesIn_6 (by decide) h (fun _ h => ?_) (fun _ h => ?_)
  · exact q_msk [false, true, false] (kE0 _ (Option.some.inj h).symm)
  · refine q_iload_n C dX9_bytesIn_9 rfl ?_
    refine q_iload_n C dX9_bytesIn_10 rfl ?_
    refine q_iushr C dX9_bytesIn_11 ?_
    refine x_sipush (v := (255 : Int32)) C dX9_bytesIn_12 (by decide) ?_
    refine q_iand C dX9_bytesIn_15 ?_
    refine q_if_eq (tgt := 22) C dX9_bytesIn_16 (by decide) h (fun _ h => ?_) (fun _ h => ?_)
    · exact q_msk [true, true, true] (jW_X9_bytesIn_22_5 C l0 l1 l2 M h kC kE0)
    · refine x_iinc (w := (1 : Int32)) (L' := [some (.int l0), some (.int (l1 + (1 : Int32))), some (.int l2)]) C dX9_bytesIn_19 rfl (by decide) (by decide) rfl rfl ?_
      exact q_msk [true, true, true] (jW_X9_bytesIn_22_5 C l0 (l1 + (1 : Int32)) l2 M h kC kE0)
set_option maxRecDepth 100000 in
set_option maxHeartbeats 4000000 in
theorem lW_X9_bytesIn_5 {K : q_K} {Q : State → Prop} (C : q_C K yX9_bytesIn cX9_bytesIn 3 (Option.some Jvm.ClassFile.FieldType.int) 1 0 0) (l0 : Int32) (M : q_Mem) (n : Nat) : ∀ (l1 : Int32) (l2 : Int32) (e : (Int32)), q_lp (fun s => B_X9_bytesIn_5 l0 s.1 s.2 M) n (l1, l2) = some e → (∀ (l1 : Int32), e = l1 → q_W K 3 Q 0 0 M 28 [none, some (.int l1), none] []) → q_W K 3 Q 0 0 M 5 [some (.int l0), some (.int l1), some (.int l2)] [] := by
  induction n with
  | zero => intro l1 l2 e h; cases h
  | succ n ih =>
    intro l1 l2 e h kE0
    obtain ⟨stp, e1, e2⟩ := q_bind h
    refine bW_X9_bytesIn_5 C l0 l1 l2 M e1 (fun a0 a1 hs => ?_) (fun b0 hs => ?_)
    · subst hs; exact ih _ _ _ e2 kE0
    · subst hs; exact kE0 _ (Option.some.inj e2).symm
noncomputable def F_X9_bytesIn (l0 : Int32) (M : q_Mem) : Option (Int32) := (q_lp (fun s => B_X9_bytesIn_5 l0 s.1 s.2 M) q_fu ((0 : Int32), (24 : Int32))).bind (fun e1 => match e1 with | w2 => some w2)
set_option maxRecDepth 100000 in
set_option maxHeartbeats 4000000 in
theorem c_X9_bytesIn (l : Launch) (G : q_G) (l0 : Int32) (M : q_Mem) {r : Int32} (h : F_X9_bytesIn l0 M = some r) : q_Met l G yX9_bytesIn cX9_bytesIn 3 (Option.some Jvm.ClassFile.FieldType.int) 1 0 0 [.int l0] M (some (.int r)) M := by
  unfold F_X9_bytesIn at h
  refine q_enter [some (.int l0), none, none] (by decide) (Nat.le_of_ble_eq_true rfl) rfl (fun K C => ?_)
  refine x_iconst (v := (0 : Int32)) C dX9_bytesIn_0 (by decide) ?_
  refine q_istore_n (L' := [some (.int l0), some (.int (0 : Int32)), none]) C dX9_bytesIn_1 (by decide) rfl rfl ?_
  refine x_bipush (v := (24 : Int32)) C dX9_bytesIn_2 (by decide) ?_
  refine q_istore_n (L' := [some (.int l0), some (.int (0 : Int32)), some (.int (24 : Int32))]) C dX9_bytesIn_4 (by decide) rfl rfl ?_
  obtain ⟨e1, he, h⟩ := q_bind h
  refine q_msk [true, true, true] (lW_X9_bytesIn_5 C l0 M q_fu _ _ _ he (fun w2 hs => ?_))
  · have hs := hs.symm
    subst hs
    refine q_iload_n C dX9_bytesIn_28 rfl ?_
    exact q_iret (res := (r, M)) C dX9_bytesIn_29 rfl (by decide) (by decide) (congrArg (fun z => (z, M)) (Option.some.inj h))
noncomputable def J_X9_append_50_3 (l0 : Nat) (l1 : Int32) (l2 : Int32) (M : q_Mem) : Option ((Int32 × q_Mem) ⊕ (q_Mem)) := some (.inl ((l2 + (-8 : Int32)), M))
set_option maxRecDepth 100000 in
set_option maxHeartbeats 4000000 in
theorem jW_X9_append_50_3 {K : q_K} {Q : State → Prop} (C : q_C K yX9_append cX9_append 4 (Option.none : Option Jvm.ClassFile.FieldType) 1 0 0) (l0 : Nat) (l1 : Int32) (l2 : Int32) (M : q_Mem) {stp : (Int32 × q_Mem) ⊕ (q_Mem)} (h : J_X9_append_50_3 l0 l1 l2 M = some stp) (kC : ∀ (l2 : Int32) (M : q_Mem), stp = .inl (l2, M) → q_W K 4 Q 0 0 M 3 [some (.ref l0), some (.int l1), some (.int l2), none] []) (kE0 : ∀ (M : q_Mem), stp = .inr M → q_W K 4 Q 0 0 M 56 [none, none, none, none] []) : q_W K 4 Q 0 0 M 50 [some (.ref l0), some (.int l1), some (.int l2), none] [] := by
  unfold J_X9_append_50_3 at h
  refine x_iinc (w := (-8 : Int32)) (L' := [some (.ref l0), some (.int l1), some (.int (l2 + (-8 : Int32))), none]) C dX9_append_50 rfl (by decide) (by decide) rfl rfl ?_
  refine q_goto (tgt := 3) C dX9_append_53 (by decide) ?_
  exact q_msk [true, true, true, false] (kC _ _ (Option.some.inj h).symm)
noncomputable def B_X9_append_3 (l0 : Nat) (l1 : Int32) (l2 : Int32) (M : q_Mem) : Option ((Int32 × q_Mem) ⊕ (q_Mem)) := (if l2 < 0 then some (.inr M) else (if ((l1.toUInt32 >>> (l2.toUInt32 &&& Int32.toUInt32 31)).toInt32 &&& (255 : Int32)) = 0 then J_X9_append_50_3 l0 l1 l2 M else (q_gI M l0 9 1 (fun v1 => (if v1 < (240 : Int32) then (q_gR M l0 9 0 (fun c2 => q_nn c2 (fun r3 => (q_gI M l0 9 1 (fun v4 => (q_tB M r3 v4 (((l1.toUInt32 >>> (l2.toUInt32 &&& Int32.toUInt32 31)).toInt32 &&& (255 : Int32)).toInt8.toInt32) (fun M5 => (q_gI M5 l0 9 1 (fun v6 => (q_pI M5 l0 9 1 (v6 + (1 : Int32)) (fun M7 => J_X9_append_50_3 l0 l1 l2 M7))))))))))) else J_X9_append_50_3 l0 l1 l2 M)))))
set_option maxRecDepth 100000 in
set_option maxHeartbeats 4000000 in
theorem bW_X9_append_3 {K : q_K} {Q : State → Prop} (C : q_C K yX9_append cX9_append 4 (Option.none : Option Jvm.ClassFile.FieldType) 1 0 0) (l0 : Nat) (l1 : Int32) (l2 : Int32) (M : q_Mem) {stp : (Int32 × q_Mem) ⊕ (q_Mem)} (h : B_X9_append_3 l0 l1 l2 M = some stp) (kC : ∀ (l2 : Int32) (M : q_Mem), stp = .inl (l2, M) → q_W K 4 Q 0 0 M 3 [some (.ref l0), some (.int l1), some (.int l2), none] []) (kE0 : ∀ (M : q_Mem), stp = .inr M → q_W K 4 Q 0 0 M 56 [none, none, none, none] []) : q_W K 4 Q 0 0 M 3 [some (.ref l0), some (.int l1), some (.int l2), none] [] := by
  unfold B_X9_append_3 at h
  refine q_iload_n C dX9_append_3 rfl ?_
  refine q_if_lt (tgt := 56) C dX9_append_4 (by decide) h (fun _ h => ?_) (fun _ h => ?_)
  · exact q_msk [false, false, false, false] (kE0 _ (Option.some.inj h).symm)
  · refine q_iload_n C dX9_append_7 rfl ?_
    refine q_iload_n C dX9_append_8 rfl ?_
    refine q_iushr C dX9_append_9 ?_
    refine x_sipush (v := (255 : Int32)) C dX9_append_10 (by decide) ?_
    refine q_iand C dX9_append_13 ?_
    refine q_istore_n (L' := [some (.ref l0), some (.int l1), some (.int l2), some (.int ((l1.toUInt32 >>> (l2.toUInt32 &&& Int32.toUInt32 31)).toInt32 &&& (255 : Int32)))]) C dX9_append_14 (by decide) rfl rfl ?_
    refine q_iload_n C dX9_append_15 rfl ?_
    refine q_if_eq (tgt := 50) C dX9_append_16 (by decide) h (fun _ h => ?_) (fun _ h => ?_)
    · exact q_msk [true, true, true, false] (jW_X9_append_50_3 C l0 l1 l2 M h kC kE0)
    · refine q_aload_n C dX9_append_19 rfl ?_
      refine x_getI (ci := 9) (j := 1) C dX9_append_20 lkF_X9_15 rfl h (fun v1 h => ?_)
      refine x_sipush (v := (240 : Int32)) C dX9_append_23 (by decide) ?_
      refine q_icmp_ge (tgt := 50) C dX9_append_26 (by decide) h (fun _ h => ?_) (fun _ h => ?_)
      · refine q_aload_n C dX9_append_29 rfl ?_
        refine x_getR (ci := 9) (j := 0) C dX9_append_30 lkF_X9_9 rfl h (fun c2 h => ?_)
        refine x_nn h (fun r3 h => ?_)
        refine q_aload_n C dX9_append_33 rfl ?_
        refine x_getI (ci := 9) (j := 1) C dX9_append_34 lkF_X9_15 rfl h (fun v4 h => ?_)
        refine q_iload_n C dX9_append_37 rfl ?_
        refine q_i2b C dX9_append_38 ?_
        refine x_bast C dX9_append_39 h (fun M5 h => ?_)
        refine q_aload_n C dX9_append_40 rfl ?_
        refine q_dup C dX9_append_41 rfl ?_
        refine x_getI (ci := 9) (j := 1) C dX9_append_42 lkF_X9_15 rfl h (fun v6 h => ?_)
        refine x_iconst (v := (1 : Int32)) C dX9_append_45 (by decide) ?_
        refine q_iadd C dX9_append_46 ?_
        refine x_putI (ci := 9) (j := 1) C dX9_append_47 lkF_X9_15 (fun r hr => by cases hr; rfl) rfl h (fun M7 h => ?_)
        exact q_msk [true, true, true, false] (jW_X9_append_50_3 C l0 l1 l2 M7 h kC kE0)
      · exact q_msk [true, true, true, false] (jW_X9_append_50_3 C l0 l1 l2 M h kC kE0)
set_option maxRecDepth 100000 in
set_option maxHeartbeats 4000000 in
theorem lW_X9_append_3 {K : q_K} {Q : State → Prop} (C : q_C K yX9_append cX9_append 4 (Option.none : Option Jvm.ClassFile.FieldType) 1 0 0) (l0 : Nat) (l1 : Int32) (n : Nat) : ∀ (l2 : Int32) (M : q_Mem) (e : (q_Mem)), q_lp (fun s => B_X9_append_3 l0 l1 s.1 s.2) n (l2, M) = some e → (∀ (M : q_Mem), e = M → q_W K 4 Q 0 0 M 56 [none, none, none, none] []) → q_W K 4 Q 0 0 M 3 [some (.ref l0), some (.int l1), some (.int l2), none] [] := by
  induction n with
  | zero => intro l2 M e h; cases h
  | succ n ih =>
    intro l2 M e h kE0
    obtain ⟨stp, e1, e2⟩ := q_bind h
    refine bW_X9_append_3 C l0 l1 l2 M e1 (fun a0 a1 hs => ?_) (fun b0 hs => ?_)
    · subst hs; exact ih _ _ _ e2 kE0
    · subst hs; exact kE0 _ (Option.some.inj e2).symm
noncomputable def F_X9_append (l0 : Nat) (l1 : Int32) (M : q_Mem) : Option (Unit × q_Mem) := (q_lp (fun s => B_X9_append_3 l0 l1 s.1 s.2) q_fu ((24 : Int32), M)).bind (fun e8 => match e8 with | M9 => some ((), M9))
set_option maxRecDepth 100000 in
set_option maxHeartbeats 4000000 in
theorem c_X9_append (l : Launch) (G : q_G) (l0 : Nat) (l1 : Int32) (M : q_Mem) {r : Unit} {M' : q_Mem} (h : F_X9_append l0 l1 M = some (r, M')) : q_Met l G yX9_append cX9_append 4 (Option.none : Option Jvm.ClassFile.FieldType) 1 0 0 [.ref l0, .int l1] M none M' := by
  unfold F_X9_append at h
  refine q_enter [some (.ref l0), some (.int l1), none, none] (by decide) (Nat.le_of_ble_eq_true rfl) rfl (fun K C => ?_)
  refine x_bipush (v := (24 : Int32)) C dX9_append_0 (by decide) ?_
  refine q_istore_n (L' := [some (.ref l0), some (.int l1), some (.int (24 : Int32)), none]) C dX9_append_2 (by decide) rfl rfl ?_
  obtain ⟨e8, he, h⟩ := q_bind h
  refine q_msk [true, true, true, false] (lW_X9_append_3 C l0 l1 q_fu _ _ _ he (fun M9 hs => ?_))
  · have hs := hs.symm
    subst hs
    exact q_vret C dX9_append_56 rfl (by decide) (by decide) (Option.some.inj h)
noncomputable def F_X9_readDigit (l0 : Nat) (M : q_Mem) : Option (Int32 × q_Mem) := (q_ob M l0 9 ((F_X9_peek l0 M).bind (fun x => match x with | (u1, M2) => ((F_X9_isDigit u1 M2).bind (fun u3 => (if u3 = 0 then q_rz (0 : Int32) M2 else (q_pI M2 l0 9 3 (u1 - (48 : Int32)) (fun M4 => (q_gI M4 l0 9 2 (fun v5 => (q_pI M4 l0 9 2 (v5 + (1 : Int32)) (fun M6 => q_rz (1 : Int32) M6))))))))))))
set_option maxRecDepth 100000 in
set_option maxHeartbeats 4000000 in
theorem c_X9_readDigit (l : Launch) (G : q_G) (l0 : Nat) (M : q_Mem) {r : Int32} {M' : q_Mem} (h : F_X9_readDigit l0 M = some (r, M')) : q_Met l G yX9_readDigit cX9_readDigit 2 (Option.some Jvm.ClassFile.FieldType.boolean) 2 0 0 [.ref l0] M (some (.int r)) M' := by
  unfold F_X9_readDigit at h
  refine q_enter [some (.ref l0), none] (by decide) (Nat.le_of_ble_eq_true rfl) rfl (fun K C => ?_)
  refine q_aload_n C dX9_readDigit_0 rfl ?_
  obtain ⟨hk, h⟩ := q_obE h
  obtain ⟨⟨u1, M2⟩, e1, h⟩ := q_bind h
  refine x_callV0 C dX9_readDigit_1 lkM_X9_25 mV_X9_peek ⟨_, rfl, rfl⟩ hk (c_X9_peek _ _ _ _ e1) rfl rfl (Nat.le_of_ble_eq_true rfl) (by decide) (by decide) ?_
  refine q_istore_n (L' := [some (.ref l0), some (.int u1)]) C dX9_readDigit_4 (by decide) rfl rfl ?_
  refine q_iload_n C dX9_readDigit_5 rfl ?_
  obtain ⟨u3, e1, h⟩ := q_bind h
  refine x_callS0 C dX9_readDigit_6 lkM_X9_35 mS_X9_isDigit (c_X9_isDigit _ _ _ _ e1) rfl rfl (Nat.le_of_ble_eq_true rfl) (by decide) (by decide) ?_
  refine q_if_ne (tgt := 14) C dX9_readDigit_9 (by decide) h (fun _ h => ?_) (fun _ h => ?_)
  · refine x_iconst (v := (0 : Int32)) C dX9_readDigit_12 (by decide) ?_
    exact q_zret C dX9_readDigit_13 rfl (by decide) (by decide) (q_rzE h).1 (q_rzE h).2
  · refine q_aload_n C dX9_readDigit_14 rfl ?_
    refine q_iload_n C dX9_readDigit_15 rfl ?_
    refine x_bipush (v := (48 : Int32)) C dX9_readDigit_16 (by decide) ?_
    refine q_isub C dX9_readDigit_18 ?_
    refine x_putI (ci := 9) (j := 3) C dX9_readDigit_19 lkF_X9_22 (fun r hr => by cases hr; rfl) rfl h (fun M4 h => ?_)
    refine q_aload_n C dX9_readDigit_22 rfl ?_
    refine q_dup C dX9_readDigit_23 rfl ?_
    refine x_getI (ci := 9) (j := 2) C dX9_readDigit_24 lkF_X9_19 rfl h (fun v5 h => ?_)
    refine x_iconst (v := (1 : Int32)) C dX9_readDigit_27 (by decide) ?_
    refine q_iadd C dX9_readDigit_28 ?_
    refine x_putI (ci := 9) (j := 2) C dX9_readDigit_29 lkF_X9_19 (fun r hr => by cases hr; rfl) rfl h (fun M6 h => ?_)
    refine x_iconst (v := (1 : Int32)) C dX9_readDigit_32 (by decide) ?_
    exact q_zret C dX9_readDigit_33 rfl (by decide) (by decide) (q_rzE h).1 (q_rzE h).2
noncomputable def F_X10_init (l0 : Nat) (M : q_Mem) : Option (Unit × q_Mem) := (q_nA M 0 (48 : Int32) 48 (fun k1 M2 => (q_pR M2 l0 10 0 (k1 + 1) (fun M3 => (q_pI M3 l0 10 1 (0 : Int32) (fun M4 => some ((), M4)))))))
set_option maxRecDepth 100000 in
set_option maxHeartbeats 4000000 in
theorem c_X10_init (l : Launch) (G : q_G) (l0 : Nat) (M : q_Mem) {r : Unit} {M' : q_Mem} (h : F_X10_init l0 M = some (r, M')) : q_Met l G yX10_init cX10_init 1 (Option.none : Option Jvm.ClassFile.FieldType) 2 1 48 [.ref l0] M none M' := by
  unfold F_X10_init at h
  refine q_enter [some (.ref l0)] (by decide) (Nat.le_of_ble_eq_true rfl) rfl (fun K C => ?_)
  refine q_aload_n C dX10_init_0 rfl ?_
  refine q_objI C dX10_init_1 wd_317 wd_33 wd_34 (by decide) (Nat.le_of_ble_eq_true rfl) ?_
  refine q_aload_n C dX10_init_4 rfl ?_
  refine x_bipush (v := (48 : Int32)) C dX10_init_5 (by decide) ?_
  refine x_newa C dX10_init_7 (by simp) wd_103 (by decide) h (by decide) (fun k1 M2 h => ?_)
  refine x_putR (ci := 10) (j := 0) (k1 + 1) C dX10_init_9 lkF_X10_11 (fun r hr => by cases hr; exact Or.inr ⟨rfl, rfl, wd_318⟩) (Or.inr ⟨_, rfl⟩) rfl h (fun M3 h => ?_)
  refine q_aload_n C dX10_init_12 rfl ?_
  refine x_iconst (v := (0 : Int32)) C dX10_init_13 (by decide) ?_
  refine x_putI (ci := 10) (j := 1) C dX10_init_14 lkF_X10_15 (fun r hr => by cases hr; rfl) rfl h (fun M4 h => ?_)
  exact q_vret C dX10_init_17 rfl (by decide) (by decide) (Option.some.inj h)
noncomputable def B_X10_readStep_63 (l0 : Nat) (l1 : Nat) (l2 : Int32) (l3 : Int32) (l4 : Int32) (M : q_Mem) : Option ((Int32 × q_Mem) ⊕ ((q_Mem) ⊕ (q_Mem))) := (q_lI M 0 3 l3 (fun v17 => (if v17 < l4 then some (.inr (.inr M)) else (q_ob M l1 9 ((F_X9_readDigit l1 M).bind (fun x => match x with | (u18, M19) => (if u18 = 0 then some (.inr (.inl M19)) else (q_gR M19 l0 10 0 (fun c20 => q_nn c20 (fun r21 => (q_gI M19 l1 9 3 (fun v22 => (q_tI M19 r21 (l2 + l4) v22 (fun M23 => some (.inl ((l4 + (1 : Int32)), M23))))))))))))))))
set_option maxRecDepth 100000 in
set_option maxHeartbeats 4000000 in
theorem bW_X10_readStep_63 {K : q_K} {Q : State → Prop} (C : q_C K yX10_readStep cX10_readStep 5 (Option.some Jvm.ClassFile.FieldType.boolean) 6 0 0) (l0 : Nat) (l1 : Nat) (l2 : Int32) (l3 : Int32) (l4 : Int32) (M : q_Mem) {stp : (Int32 × q_Mem) ⊕ ((q_Mem) ⊕ (q_Mem))} (h : B_X10_readStep_63 l0 l1 l2 l3 l4 M = some stp) (kC : ∀ (l4 : Int32) (M : q_Mem), stp = .inl (l4, M) → q_W K 5 Q 0 0 M 63 [some (.ref l0), some (.ref l1), some (.int l2), some (.int l3), some (.int l4)] []) (kE0 : ∀ (M : q_Mem), stp = .inr (.inl M) → q_W K 5 Q 0 0 M 80 [none, none, none, none, none] []) (kE1 : ∀ (M : q_Mem), stp = .inr (.inr M) → q_W K 5 Q 0 0 M 101 [none, none, none, none, none] []) : q_W K 5 Q 0 0 M 63 [some (.ref l0), some (.ref l1), some (.int l2), some (.int l3), some (.int l4)] [] := by
  unfold B_X10_readStep_63 at h
  refine q_iload C dX10_readStep_63 rfl ?_
  refine q_getsN (w := .ref 3) C dX10_readStep_65 wn_600 (by simp [q_zs, q_cv, q_ad, q_NS]) rfl ?_
  refine q_iload_n C dX10_readStep_68 rfl ?_
  refine x_iald C dX10_readStep_69 h (fun v17 h => ?_)
  refine q_icmp_gt (tgt := 101) C dX10_readStep_70 (by decide) h (fun _ h => ?_) (fun _ h => ?_)
  · exact q_msk [false, false, false, false, false] (kE1 _ (Option.some.inj h).symm)
  · refine q_aload_n C dX10_readStep_73 rfl ?_
    obtain ⟨hk, h⟩ := q_obE h
    obtain ⟨⟨u18, M19⟩, e1, h⟩ := q_bind h
    refine x_callV0 C dX10_readStep_74 lkM_X10_45 mV_X9_readDigit ⟨_, rfl, rfl⟩ hk (c_X9_readDigit _ _ _ _ e1) rfl rfl (Nat.le_of_ble_eq_true rfl) (by decide) (by decide) ?_
    refine q_if_ne (tgt := 82) C dX10_readStep_77 (by decide) h (fun _ h => ?_) (fun _ h => ?_)
    · exact q_msk [false, false, false, false, false] (kE0 _ (Option.some.inj h).symm)
    · refine q_aload_n C dX10_readStep_82 rfl ?_
      refine x_getR (ci := 10) (j := 0) C dX10_readStep_83 lkF_X10_11 rfl h (fun c20 h => ?_)
      refine x_nn h (fun r21 h => ?_)
      refine q_iload_n C dX10_readStep_86 rfl ?_
      refine q_iload C dX10_readStep_87 rfl ?_
      refine q_iadd C dX10_readStep_89 ?_
      refine q_aload_n C dX10_readStep_90 rfl ?_
      refine x_getI (ci := 9) (j := 3) C dX10_readStep_91 lkF_X10_49 rfl h (fun v22 h => ?_)
      refine x_iast C dX10_readStep_94 h (fun M23 h => ?_)
      refine x_iinc (w := (1 : Int32)) (L' := [some (.ref l0), some (.ref l1), some (.int l2), some (.int l3), some (.int (l4 + (1 : Int32)))]) C dX10_readStep_95 rfl (by decide) (by decide) rfl rfl ?_
      refine q_goto (tgt := 63) C dX10_readStep_98 (by decide) ?_
      exact q_msk [true, true, true, true, true] (kC _ _ (Option.some.inj h).symm)
set_option maxRecDepth 100000 in
set_option maxHeartbeats 4000000 in
theorem lW_X10_readStep_63 {K : q_K} {Q : State → Prop} (C : q_C K yX10_readStep cX10_readStep 5 (Option.some Jvm.ClassFile.FieldType.boolean) 6 0 0) (l0 : Nat) (l1 : Nat) (l2 : Int32) (l3 : Int32) (n : Nat) : ∀ (l4 : Int32) (M : q_Mem) (e : ((q_Mem) ⊕ (q_Mem))), q_lp (fun s => B_X10_readStep_63 l0 l1 l2 l3 s.1 s.2) n (l4, M) = some e → (∀ (M : q_Mem), e = (.inl M) → q_W K 5 Q 0 0 M 80 [none, none, none, none, none] []) → (∀ (M : q_Mem), e = (.inr M) → q_W K 5 Q 0 0 M 101 [none, none, none, none, none] []) → q_W K 5 Q 0 0 M 63 [some (.ref l0), some (.ref l1), some (.int l2), some (.int l3), some (.int l4)] [] := by
  induction n with
  | zero => intro l4 M e h; cases h
  | succ n ih =>
    intro l4 M e h kE0 kE1
    obtain ⟨stp, e1, e2⟩ := q_bind h
    refine bW_X10_readStep_63 C l0 l1 l2 l3 l4 M e1 (fun a0 a1 hs => ?_) (fun b0 hs => ?_) (fun b0 hs => ?_)
    · subst hs; exact ih _ _ _ e2 kE0 kE1
    · subst hs; exact kE0 _ (Option.some.inj e2).symm
    · subst hs; exact kE1 _ (Option.some.inj e2).symm
noncomputable def F_X10_readStep (l0 : Nat) (l1 : Nat) (l2 : Int32) (M : q_Mem) : Option (Int32 × q_Mem) := (q_ob M l1 9 ((F_X9_peekAmong l1 20 M).bind (fun x => match x with | (u1, M2) => (if u1 = (-1 : Int32) then q_rz (0 : Int32) M2 else (q_gR M2 l0 10 0 (fun c3 => q_nn c3 (fun r4 => (q_al M2 r4 (fun v5 => (if (l2 + (2 : Int32)) < v5 then (q_gI M2 l1 9 2 (fun v6 => (q_pI M2 l1 9 2 (v6 + (1 : Int32)) (fun M7 => (q_gR M7 l0 10 0 (fun c8 => q_nn c8 (fun r9 => (q_tI M7 r9 l2 u1 (fun M10 => (q_gR M10 l0 10 0 (fun c11 => q_nn c11 (fun r12 => (q_tI M10 r12 (l2 + (1 : Int32)) (-1 : Int32) (fun M13 => (q_gR M13 l0 10 0 (fun c14 => q_nn c14 (fun r15 => (q_tI M13 r15 (l2 + (2 : Int32)) (-1 : Int32) (fun M16 => (q_lp (fun s => B_X10_readStep_63 l0 l1 l2 u1 s.1 s.2) q_fu ((1 : Int32), M16)).bind (fun e24 => match e24 with | .inl M25 => q_rz (0 : Int32) M25 | .inr M26 => q_rz (1 : Int32) M26)))))))))))))))))))) else q_rz (0 : Int32) M2))))))))))
set_option maxRecDepth 100000 in
set_option maxHeartbeats 4000000 in
theorem c_X10_readStep (l : Launch) (G : q_G) (l0 : Nat) (l1 : Nat) (l2 : Int32) (M : q_Mem) {r : Int32} {M' : q_Mem} (h : F_X10_readStep l0 l1 l2 M = some (r, M')) : q_Met l G yX10_readStep cX10_readStep 5 (Option.some Jvm.ClassFile.FieldType.boolean) 6 0 0 [.ref l0, .ref l1, .int l2] M (some (.int r)) M' := by
  unfold F_X10_readStep at h
  refine q_enter [some (.ref l0), some (.ref l1), some (.int l2), none, none] (by decide) (Nat.le_of_ble_eq_true rfl) rfl (fun K C => ?_)
  refine q_aload_n C dX10_readStep_0 rfl ?_
  refine q_ldcS (i := 8) C dX10_readStep_1 rfl ?_
  obtain ⟨hk, h⟩ := q_obE h
  obtain ⟨⟨u1, M2⟩, e1, h⟩ := q_bind h
  refine x_callV0 C dX10_readStep_3 lkM_X10_35 mV_X9_peekAmong ⟨_, rfl, rfl⟩ hk (c_X9_peekAmong _ _ _ _ _ e1) rfl rfl (Nat.le_of_ble_eq_true rfl) (by decide) (by decide) ?_
  refine q_istore_n (L' := [some (.ref l0), some (.ref l1), some (.int l2), some (.int u1), none]) C dX10_readStep_6 (by decide) rfl rfl ?_
  refine q_iload_n C dX10_readStep_7 rfl ?_
  refine x_iconst (v := (-1 : Int32)) C dX10_readStep_8 (by decide) ?_
  refine q_icmp_eq (tgt := 23) C dX10_readStep_9 (by decide) h (fun _ h => ?_) (fun _ h => ?_)
  · refine x_iconst (v := (0 : Int32)) C dX10_readStep_23 (by decide) ?_
    exact q_zret C dX10_readStep_24 rfl (by decide) (by decide) (q_rzE h).1 (q_rzE h).2
  · refine q_iload_n C dX10_readStep_12 rfl ?_
    refine x_iconst (v := (2 : Int32)) C dX10_readStep_13 (by decide) ?_
    refine q_iadd C dX10_readStep_14 ?_
    refine q_aload_n C dX10_readStep_15 rfl ?_
    refine x_getR (ci := 10) (j := 0) C dX10_readStep_16 lkF_X10_11 rfl h (fun c3 h => ?_)
    refine x_nn h (fun r4 h => ?_)
    refine x_alen C dX10_readStep_19 h (fun v5 h => ?_)
    refine q_icmp_lt (tgt := 25) C dX10_readStep_20 (by decide) h (fun _ h => ?_) (fun _ h => ?_)
    · refine q_aload_n C dX10_readStep_25 rfl ?_
      refine q_dup C dX10_readStep_26 rfl ?_
      refine x_getI (ci := 9) (j := 2) C dX10_readStep_27 lkF_X10_39 rfl h (fun v6 h => ?_)
      refine x_iconst (v := (1 : Int32)) C dX10_readStep_30 (by decide) ?_
      refine q_iadd C dX10_readStep_31 ?_
      refine x_putI (ci := 9) (j := 2) C dX10_readStep_32 lkF_X10_39 (fun r hr => by cases hr; rfl) rfl h (fun M7 h => ?_)
      refine q_aload_n C dX10_readStep_35 rfl ?_
      refine x_getR (ci := 10) (j := 0) C dX10_readStep_36 lkF_X10_11 rfl h (fun c8 h => ?_)
      refine x_nn h (fun r9 h => ?_)
      refine q_iload_n C dX10_readStep_39 rfl ?_
      refine q_iload_n C dX10_readStep_40 rfl ?_
      refine x_iast C dX10_readStep_41 h (fun M10 h => ?_)
      refine q_aload_n C dX10_readStep_42 rfl ?_
      refine x_getR (ci := 10) (j := 0) C dX10_readStep_43 lkF_X10_11 rfl h (fun c11 h => ?_)
      refine x_nn h (fun r12 h => ?_)
      refine q_iload_n C dX10_readStep_46 rfl ?_
      refine x_iconst (v := (1 : Int32)) C dX10_readStep_47 (by decide) ?_
      refine q_iadd C dX10_readStep_48 ?_
      refine x_iconst (v := (-1 : Int32)) C dX10_readStep_49 (by decide) ?_
      refine x_iast C dX10_readStep_50 h (fun M13 h => ?_)
      refine q_aload_n C dX10_readStep_51 rfl ?_
      refine x_getR (ci := 10) (j := 0) C dX10_readStep_52 lkF_X10_11 rfl h (fun c14 h => ?_)
      refine x_nn h (fun r15 h => ?_)
      refine q_iload_n C dX10_readStep_55 rfl ?_
      refine x_iconst (v := (2 : Int32)) C dX10_readStep_56 (by decide) ?_
      refine q_iadd C dX10_readStep_57 ?_
      refine x_iconst (v := (-1 : Int32)) C dX10_readStep_58 (by decide) ?_
      refine x_iast C dX10_readStep_59 h (fun M16 h => ?_)
      refine x_iconst (v := (1 : Int32)) C dX10_readStep_60 (by decide) ?_
      refine q_istore (L' := [some (.ref l0), some (.ref l1), some (.int l2), some (.int u1), some (.int (1 : Int32))]) C dX10_readStep_61 (by decide) rfl rfl ?_
      obtain ⟨e24, he, h⟩ := q_bind h
      refine q_msk [true, true, true, true, true] (lW_X10_readStep_63 C l0 l1 l2 u1 q_fu _ _ _ he (fun M25 hs => ?_) (fun M26 hs => ?_))
      · have hs := hs.symm
        subst hs
        refine x_iconst (v := (0 : Int32)) C dX10_readStep_80 (by decide) ?_
        exact q_zret C dX10_readStep_81 rfl (by decide) (by decide) (q_rzE h).1 (q_rzE h).2
      · have hs := hs.symm
        subst hs
        refine x_iconst (v := (1 : Int32)) C dX10_readStep_101 (by decide) ?_
        exact q_zret C dX10_readStep_102 rfl (by decide) (by decide) (q_rzE h).1 (q_rzE h).2
    · refine x_iconst (v := (0 : Int32)) C dX10_readStep_23 (by decide) ?_
      exact q_zret C dX10_readStep_24 rfl (by decide) (by decide) (q_rzE h).1 (q_rzE h).2
noncomputable def B_X10_readFrom_7 (l0 : Nat) (l1 : Nat) (l2 : Int32) (M : q_Mem) : Option ((Int32 × q_Mem) ⊕ ((q_Mem) ⊕ ((q_Mem) ⊕ ((q_Mem) ⊕ (q_Mem))))) := (if l2 < (16 : Int32) then (q_ob M l0 10 ((F_X10_readStep l0 l1 (l2 * (3 : Int32)) M).bind (fun x => match x with | (u2, M3) => (if u2 = 0 then some (.inr (.inl M3)) else (q_gI M3 l0 10 1 (fun v4 => (q_pI M3 l0 10 1 (v4 + (1 : Int32)) (fun M5 => (q_ob M5 l1 9 ((F_X9_peek l1 M5).bind (fun x => match x with | (u6, M7) => (if u6 = (-1 : Int32) then some (.inr (.inr (.inl M7))) else (q_gI M7 l0 10 1 (fun v8 => (if v8 = (16 : Int32) then some (.inr (.inr (.inr (.inl M7)))) else (q_ob M7 l1 9 ((F_X9_take l1 (59 : Int32) M7).bind (fun x => match x with | (u9, M10) => (if u9 = 0 then some (.inr (.inr (.inr (.inl M10)))) else some (.inl ((l2 + (1 : Int32)), M10))))))))))))))))))))) else some (.inr (.inr (.inr (.inr M)))))
set_option maxRecDepth 100000 in
set_option maxHeartbeats 4000000 in
theorem bW_X10_readFrom_7 {K : q_K} {Q : State → Prop} (C : q_C K yX10_readFrom cX10_readFrom 3 (Option.some Jvm.ClassFile.FieldType.boolean) 7 0 0) (l0 : Nat) (l1 : Nat) (l2 : Int32) (M : q_Mem) {stp : (Int32 × q_Mem) ⊕ ((q_Mem) ⊕ ((q_Mem) ⊕ ((q_Mem) ⊕ (q_Mem))))} (h : B_X10_readFrom_7 l0 l1 l2 M = some stp) (kC : ∀ (l2 : Int32) (M : q_Mem), stp = .inl (l2, M) → q_W K 3 Q 0 0 M 7 [some (.ref l0), some (.ref l1), some (.int l2)] []) (kE0 : ∀ (M : q_Mem), stp = .inr (.inl M) → q_W K 3 Q 0 0 M 24 [none, none, none] []) (kE1 : ∀ (M : q_Mem), stp = .inr (.inr (.inl M)) → q_W K 3 Q 0 0 M 44 [none, none, none] []) (kE2 : ∀ (M : q_Mem), stp = .inr (.inr (.inr (.inl M))) → q_W K 3 Q 0 0 M 64 [none, none, none] []) (kE3 : ∀ (M : q_Mem), stp = .inr (.inr (.inr (.inr M))) → q_W K 3 Q 0 0 M 72 [none, none, none] []) : q_W K 3 Q 0 0 M 7 [some (.ref l0), some (.ref l1), some (.int l2)] [] := by
  unfold B_X10_readFrom_7 at h
  refine q_iload_n C dX10_readFrom_7 rfl ?_
  refine x_bipush (v := (16 : Int32)) C dX10_readFrom_8 (by decide) ?_
  refine q_icmp_ge (tgt := 72) C dX10_readFrom_10 (by decide) h (fun _ h => ?_) (fun _ h => ?_)
  · refine q_aload_n C dX10_readFrom_13 rfl ?_
    refine q_aload_n C dX10_readFrom_14 rfl ?_
    refine q_iload_n C dX10_readFrom_15 rfl ?_
    refine x_iconst (v := (3 : Int32)) C dX10_readFrom_16 (by decide) ?_
    refine q_imul C dX10_readFrom_17 ?_
    obtain ⟨hk, h⟩ := q_obE h
    obtain ⟨⟨u2, M3⟩, e1, h⟩ := q_bind h
    refine x_callV0 C dX10_readFrom_18 lkM_X10_19 mV_X10_readStep ⟨_, rfl, rfl⟩ hk (c_X10_readStep _ _ _ _ _ _ e1) rfl rfl (Nat.le_of_ble_eq_true rfl) (by decide) (by decide) ?_
    refine q_if_ne (tgt := 26) C dX10_readFrom_21 (by decide) h (fun _ h => ?_) (fun _ h => ?_)
    · exact q_msk [false, false, false] (kE0 _ (Option.some.inj h).symm)
    · refine q_aload_n C dX10_readFrom_26 rfl ?_
      refine q_dup C dX10_readFrom_27 rfl ?_
      refine x_getI (ci := 10) (j := 1) C dX10_readFrom_28 lkF_X10_15 rfl h (fun v4 h => ?_)
      refine x_iconst (v := (1 : Int32)) C dX10_readFrom_31 (by decide) ?_
      refine q_iadd C dX10_readFrom_32 ?_
      refine x_putI (ci := 10) (j := 1) C dX10_readFrom_33 lkF_X10_15 (fun r hr => by cases hr; rfl) rfl h (fun M5 h => ?_)
      refine q_aload_n C dX10_readFrom_36 rfl ?_
      obtain ⟨hk, h⟩ := q_obE h
      obtain ⟨⟨u6, M7⟩, e1, h⟩ := q_bind h
      refine x_callV0 C dX10_readFrom_37 lkM_X10_23 mV_X9_peek ⟨_, rfl, rfl⟩ hk (c_X9_peek _ _ _ _ e1) rfl rfl (Nat.le_of_ble_eq_true rfl) (by decide) (by decide) ?_
      refine x_iconst (v := (-1 : Int32)) C dX10_readFrom_40 (by decide) ?_
      refine q_icmp_ne (tgt := 46) C dX10_readFrom_41 (by decide) h (fun _ h => ?_) (fun _ h => ?_)
      · exact q_msk [false, false, false] (kE1 _ (Option.some.inj h).symm)
      · refine q_aload_n C dX10_readFrom_46 rfl ?_
        refine x_getI (ci := 10) (j := 1) C dX10_readFrom_47 lkF_X10_15 rfl h (fun v8 h => ?_)
        refine x_bipush (v := (16 : Int32)) C dX10_readFrom_50 (by decide) ?_
        refine q_icmp_eq (tgt := 64) C dX10_readFrom_52 (by decide) h (fun _ h => ?_) (fun _ h => ?_)
        · exact q_msk [false, false, false] (kE2 _ (Option.some.inj h).symm)
        · refine q_aload_n C dX10_readFrom_55 rfl ?_
          refine x_bipush (v := (59 : Int32)) C dX10_readFrom_56 (by decide) ?_
          obtain ⟨hk, h⟩ := q_obE h
          obtain ⟨⟨u9, M10⟩, e1, h⟩ := q_bind h
          refine x_callV0 C dX10_readFrom_58 lkM_X10_29 mV_X9_take ⟨_, rfl, rfl⟩ hk (c_X9_take _ _ _ _ _ e1) rfl rfl (Nat.le_of_ble_eq_true rfl) (by decide) (by decide) ?_
          refine q_if_ne (tgt := 66) C dX10_readFrom_61 (by decide) h (fun _ h => ?_) (fun _ h => ?_)
          · exact q_msk [false, false, false] (kE2 _ (Option.some.inj h).symm)
          · refine x_iinc (w := (1 : Int32)) (L' := [some (.ref l0), some (.ref l1), some (.int (l2 + (1 : Int32)))]) C dX10_readFrom_66 rfl (by decide) (by decide) rfl rfl ?_
            refine q_goto (tgt := 7) C dX10_readFrom_69 (by decide) ?_
            exact q_msk [true, true, true] (kC _ _ (Option.some.inj h).symm)
  · exact q_msk [false, false, false] (kE3 _ (Option.some.inj h).symm)
set_option maxRecDepth 100000 in
set_option maxHeartbeats 4000000 in
theorem lW_X10_readFrom_7 {K : q_K} {Q : State → Prop} (C : q_C K yX10_readFrom cX10_readFrom 3 (Option.some Jvm.ClassFile.FieldType.boolean) 7 0 0) (l0 : Nat) (l1 : Nat) (n : Nat) : ∀ (l2 : Int32) (M : q_Mem) (e : ((q_Mem) ⊕ ((q_Mem) ⊕ ((q_Mem) ⊕ (q_Mem))))), q_lp (fun s => B_X10_readFrom_7 l0 l1 s.1 s.2) n (l2, M) = some e → (∀ (M : q_Mem), e = (.inl M) → q_W K 3 Q 0 0 M 24 [none, none, none] []) → (∀ (M : q_Mem), e = (.inr (.inl M)) → q_W K 3 Q 0 0 M 44 [none, none, none] []) → (∀ (M : q_Mem), e = (.inr (.inr (.inl M))) → q_W K 3 Q 0 0 M 64 [none, none, none] []) → (∀ (M : q_Mem), e = (.inr (.inr (.inr M))) → q_W K 3 Q 0 0 M 72 [none, none, none] []) → q_W K 3 Q 0 0 M 7 [some (.ref l0), some (.ref l1), some (.int l2)] [] := by
  induction n with
  | zero => intro l2 M e h; cases h
  | succ n ih =>
    intro l2 M e h kE0 kE1 kE2 kE3
    obtain ⟨stp, e1, e2⟩ := q_bind h
    refine bW_X10_readFrom_7 C l0 l1 l2 M e1 (fun a0 a1 hs => ?_) (fun b0 hs => ?_) (fun b0 hs => ?_) (fun b0 hs => ?_) (fun b0 hs => ?_)
    · subst hs; exact ih _ _ _ e2 kE0 kE1 kE2 kE3
    · subst hs; exact kE0 _ (Option.some.inj e2).symm
    · subst hs; exact kE1 _ (Option.some.inj e2).symm
    · subst hs; exact kE2 _ (Option.some.inj e2).symm
    · subst hs; exact kE3 _ (Option.some.inj e2).symm
noncomputable def F_X10_readFrom (l0 : Nat) (l1 : Nat) (M : q_Mem) : Option (Int32 × q_Mem) := (q_pI M l0 10 1 (0 : Int32) (fun M1 => (q_lp (fun s => B_X10_readFrom_7 l0 l1 s.1 s.2) q_fu ((0 : Int32), M1)).bind (fun e11 => match e11 with | .inl M12 => q_rz (0 : Int32) M12 | .inr (.inl M13) => q_rz (1 : Int32) M13 | .inr (.inr (.inl M14)) => q_rz (0 : Int32) M14 | .inr (.inr (.inr M15)) => q_rz (0 : Int32) M15)))
set_option maxRecDepth 100000 in
set_option maxHeartbeats 4000000 in
theorem c_X10_readFrom (l : Launch) (G : q_G) (l0 : Nat) (l1 : Nat) (M : q_Mem) {r : Int32} {M' : q_Mem} (h : F_X10_readFrom l0 l1 M = some (r, M')) : q_Met l G yX10_readFrom cX10_readFrom 3 (Option.some Jvm.ClassFile.FieldType.boolean) 7 0 0 [.ref l0, .ref l1] M (some (.int r)) M' := by
  unfold F_X10_readFrom at h
  refine q_enter [some (.ref l0), some (.ref l1), none] (by decide) (Nat.le_of_ble_eq_true rfl) rfl (fun K C => ?_)
  refine q_aload_n C dX10_readFrom_0 rfl ?_
  refine x_iconst (v := (0 : Int32)) C dX10_readFrom_1 (by decide) ?_
  refine x_putI (ci := 10) (j := 1) C dX10_readFrom_2 lkF_X10_15 (fun r hr => by cases hr; rfl) rfl h (fun M1 h => ?_)
  refine x_iconst (v := (0 : Int32)) C dX10_readFrom_5 (by decide) ?_
  refine q_istore_n (L' := [some (.ref l0), some (.ref l1), some (.int (0 : Int32))]) C dX10_readFrom_6 (by decide) rfl rfl ?_
  obtain ⟨e11, he, h⟩ := q_bind h
  refine q_msk [true, true, true] (lW_X10_readFrom_7 C l0 l1 q_fu _ _ _ he (fun M12 hs => ?_) (fun M13 hs => ?_) (fun M14 hs => ?_) (fun M15 hs => ?_))
  · have hs := hs.symm
    subst hs
    refine x_iconst (v := (0 : Int32)) C dX10_readFrom_24 (by decide) ?_
    exact q_zret C dX10_readFrom_25 rfl (by decide) (by decide) (q_rzE h).1 (q_rzE h).2
  · have hs := hs.symm
    subst hs
    refine x_iconst (v := (1 : Int32)) C dX10_readFrom_44 (by decide) ?_
    exact q_zret C dX10_readFrom_45 rfl (by decide) (by decide) (q_rzE h).1 (q_rzE h).2
  · have hs := hs.symm
    subst hs
    refine x_iconst (v := (0 : Int32)) C dX10_readFrom_64 (by decide) ?_
    exact q_zret C dX10_readFrom_65 rfl (by decide) (by decide) (q_rzE h).1 (q_rzE h).2
  · have hs := hs.symm
    subst hs
    refine x_iconst (v := (0 : Int32)) C dX10_readFrom_72 (by decide) ?_
    exact q_zret C dX10_readFrom_73 rfl (by decide) (by decide) (q_rzE h).1 (q_rzE h).2
noncomputable def F_J3_checkIndex_8e157 (l0 : Int32) (l1 : Int32) (l2 : Nat) (M : q_Mem) : Option (Int32) := (if l0 < 0 then none else (if l0 < l1 then some l0 else none))
set_option maxRecDepth 100000 in
set_option maxHeartbeats 4000000 in
theorem c_J3_checkIndex_8e157 (l : Launch) (G : q_G) (l0 : Int32) (l1 : Int32) (l2 : Nat) (M : q_Mem) {r : Int32} (h : F_J3_checkIndex_8e157 l0 l1 l2 M = some r) : q_Met l G yJ3_checkIndex_8e157 cJ3_checkIndex_8e157 3 (Option.some Jvm.ClassFile.FieldType.int) 1 0 0 [.int l0, .int l1, q_rc l2] M (some (.int r)) M := by
  unfold F_J3_checkIndex_8e157 at h
  cases l2 with
  | zero =>
    refine q_enter [some (.int l0), some (.int l1), some (.null)] (by decide) (Nat.le_of_ble_eq_true rfl) rfl (fun K C => ?_)
    refine q_iload_n C dJ3_checkIndex_8e157_0 rfl ?_
    refine q_if_lt (tgt := 9) C dJ3_checkIndex_8e157_1 (by decide) h (fun _ h => ?_) (fun _ h => ?_)
    · cases h
    · refine q_iload_n C dJ3_checkIndex_8e157_4 rfl ?_
      refine q_iload_n C dJ3_checkIndex_8e157_5 rfl ?_
      refine q_icmp_lt (tgt := 16) C dJ3_checkIndex_8e157_6 (by decide) h (fun _ h => ?_) (fun _ h => ?_)
      · refine q_iload_n C dJ3_checkIndex_8e157_16 rfl ?_
        exact q_iret (res := (r, M)) C dJ3_checkIndex_8e157_17 rfl (by decide) (by decide) (congrArg (fun z => (z, M)) (Option.some.inj h))
      · cases h
  | succ l2 =>
    refine q_enter [some (.int l0), some (.int l1), some (.ref l2)] (by decide) (Nat.le_of_ble_eq_true rfl) rfl (fun K C => ?_)
    refine q_iload_n C dJ3_checkIndex_8e157_0 rfl ?_
    refine q_if_lt (tgt := 9) C dJ3_checkIndex_8e157_1 (by decide) h (fun _ h => ?_) (fun _ h => ?_)
    · cases h
    · refine q_iload_n C dJ3_checkIndex_8e157_4 rfl ?_
      refine q_iload_n C dJ3_checkIndex_8e157_5 rfl ?_
      refine q_icmp_lt (tgt := 16) C dJ3_checkIndex_8e157_6 (by decide) h (fun _ h => ?_) (fun _ h => ?_)
      · refine q_iload_n C dJ3_checkIndex_8e157_16 rfl ?_
        exact q_iret (res := (r, M)) C dJ3_checkIndex_8e157_17 rfl (by decide) (by decide) (congrArg (fun z => (z, M)) (Option.some.inj h))
      · cases h
noncomputable def F_J0_checkIndex_df160 (l0 : Int32) (l1 : Int32) (M : q_Mem) : Option (Unit × q_Mem) := ((F_J3_checkIndex_8e157 l0 l1 0 M).bind (fun u2 => some ((), M)))
set_option maxRecDepth 100000 in
set_option maxHeartbeats 4000000 in
theorem c_J0_checkIndex_df160 (l : Launch) (G : q_G) (l0 : Int32) (l1 : Int32) (M : q_Mem) {r : Unit} {M' : q_Mem} (h : F_J0_checkIndex_df160 l0 l1 M = some (r, M')) : q_Met l G yJ0_checkIndex_df160 cJ0_checkIndex_df160 2 (Option.none : Option Jvm.ClassFile.FieldType) 2 0 0 [.int l0, .int l1] M none M' := by
  unfold F_J0_checkIndex_df160 at h
  refine q_enter [some (.int l0), some (.int l1)] (by decide) (Nat.le_of_ble_eq_true rfl) rfl (fun K C => ?_)
  refine q_iload_n C dJ0_checkIndex_df160_0 rfl ?_
  refine q_iload_n C dJ0_checkIndex_df160_1 rfl ?_
  refine q_getsQ C dJ0_checkIndex_df160_2 wd_493 (fun c1 => ?_)
  obtain ⟨u2, e1, h⟩ := q_bind h
  refine x_callS0 C dJ0_checkIndex_df160_5 lkM_J0_1059 mS_J3_checkIndex_8e157 (c_J3_checkIndex_8e157 _ _ _ _ c1 _ e1) rfl rfl (Nat.le_of_ble_eq_true rfl) (by decide) (by decide) ?_
  refine q_pop C dJ0_checkIndex_df160_8 rfl ?_
  exact q_vret C dJ0_checkIndex_df160_9 rfl (by decide) (by decide) (Option.some.inj h)
noncomputable def F_J1_charAt_3b067 (l0 : Nat) (l1 : Int32) (M : q_Mem) : Option (Int32 × q_Mem) := (q_al M l0 (fun v1 => ((F_J0_checkIndex_df160 l1 v1 M).bind (fun x => match x with | (_, M3) => (q_lI M3 1 l0 l1 (fun v4 => q_rtm .char (((v4 &&& (255 : Int32)).toUInt32 % 65536).toInt32) M3))))))
set_option maxRecDepth 100000 in
set_option maxHeartbeats 4000000 in
theorem c_J1_charAt_3b067 (l : Launch) (G : q_G) (l0 : Nat) (l1 : Int32) (M : q_Mem) {r : Int32} {M' : q_Mem} (h : F_J1_charAt_3b067 l0 l1 M = some (r, M')) : q_Met l G yJ1_charAt_3b067 cJ1_charAt_3b067 2 (Option.some Jvm.ClassFile.FieldType.char) 3 0 0 [.ref l0, .int l1] M (some (.int r)) M' := by
  unfold F_J1_charAt_3b067 at h
  refine q_enter [some (.ref l0), some (.int l1)] (by decide) (Nat.le_of_ble_eq_true rfl) rfl (fun K C => ?_)
  refine q_iload_n C dJ1_charAt_3b067_0 rfl ?_
  refine q_aload_n C dJ1_charAt_3b067_1 rfl ?_
  refine x_alen C dJ1_charAt_3b067_2 h (fun v1 h => ?_)
  obtain ⟨⟨_, M3⟩, e1, h⟩ := q_bind h
  refine x_callSv0 C dJ1_charAt_3b067_3 lkM_J1_9 mS_J0_checkIndex_df160 (c_J0_checkIndex_df160 _ _ _ _ _ e1) rfl rfl (Nat.le_of_ble_eq_true rfl) (by decide) (by decide) ?_
  refine q_aload_n C dJ1_charAt_3b067_6 rfl ?_
  refine q_iload_n C dJ1_charAt_3b067_7 rfl ?_
  refine x_bald C dJ1_charAt_3b067_8 h (fun v4 h => ?_)
  refine x_sipush (v := (255 : Int32)) C dJ1_charAt_3b067_9 (by decide) ?_
  refine q_iand C dJ1_charAt_3b067_12 ?_
  refine q_i2c C dJ1_charAt_3b067_13 ?_
  exact q_nret C dJ1_charAt_3b067_14 rfl (by decide) (by decide) (q_rtmE h).1 (q_rtmE h).2
noncomputable def F_J0_charAt_5068e (l0 : Nat) (l1 : Int32) (M : q_Mem) : Option (Int32 × q_Mem) := (q_ob M l0 14 ((F_J0_isLatin1_aae02 l0 M).bind (fun u1 => (if u1 = 0 then none else (q_gR M l0 14 0 (fun c2 => q_nn c2 (fun r3 => ((F_J1_charAt_3b067 r3 l1 M).bind (fun x => match x with | (u4, M5) => q_rtm .char u4 M5)))))))))
set_option maxRecDepth 100000 in
set_option maxHeartbeats 4000000 in
theorem c_J0_charAt_5068e (l : Launch) (G : q_G) (l0 : Nat) (l1 : Int32) (M : q_Mem) {r : Int32} {M' : q_Mem} (h : F_J0_charAt_5068e l0 l1 M = some (r, M')) : q_Met l G yJ0_charAt_5068e cJ0_charAt_5068e 2 (Option.some Jvm.ClassFile.FieldType.char) 4 0 0 [.ref l0, .int l1] M (some (.int r)) M' := by
  unfold F_J0_charAt_5068e at h
  refine q_enter [some (.ref l0), some (.int l1)] (by decide) (Nat.le_of_ble_eq_true rfl) rfl (fun K C => ?_)
  refine q_aload_n C dJ0_charAt_5068e_0 rfl ?_
  obtain ⟨hk, h⟩ := q_obE h
  obtain ⟨u1, e1, h⟩ := q_bind h
  refine x_callT C dJ0_charAt_5068e_1 wd_455 mV_J0_isLatin1_aae02 rfl hk (c_J0_isLatin1_aae02 _ _ _ _ e1) rfl rfl (Nat.le_of_ble_eq_true rfl) (by decide) (by decide) ?_
  refine q_if_eq (tgt := 16) C dJ0_charAt_5068e_4 (by decide) h (fun _ h => ?_) (fun _ h => ?_)
  · cases h
  · refine q_aload_n C dJ0_charAt_5068e_7 rfl ?_
    refine x_getSV C dJ0_charAt_5068e_8 wd_1859 h (fun c2 h => ?_)
    refine x_nn h (fun r3 h => ?_)
    refine q_iload_n C dJ0_charAt_5068e_11 rfl ?_
    obtain ⟨⟨u4, M5⟩, e1, h⟩ := q_bind h
    refine x_callS0 C dJ0_charAt_5068e_12 lkM_J0_495 mS_J1_charAt_3b067 (c_J1_charAt_3b067 _ _ _ _ _ e1) rfl rfl (Nat.le_of_ble_eq_true rfl) (by decide) (by decide) ?_
    exact q_nret C dJ0_charAt_5068e_15 rfl (by decide) (by decide) (q_rtmE h).1 (q_rtmE h).2
noncomputable def F_X11_init (l0 : Nat) (M : q_Mem) : Option (Unit × q_Mem) := (q_nO M 9 (fun k1 M2 => ((F_X9_init k1 M2).bind (fun x => match x with | (_, M4) => (q_pR M4 l0 11 0 (k1 + 1) (fun M5 => (q_nO M5 3 (fun k6 M7 => ((F_X3_init k6 M7).bind (fun x => match x with | (_, M9) => (q_pR M9 l0 11 1 (k6 + 1) (fun M10 => (q_nO M10 3 (fun k11 M12 => ((F_X3_init k11 M12).bind (fun x => match x with | (_, M14) => (q_pR M14 l0 11 2 (k11 + 1) (fun M15 => (q_nO M15 5 (fun k16 M17 => (q_gR M17 l0 11 0 (fun c18 => q_nn c18 (fun r19 => ((F_X5_init k16 r19 M17).bind (fun x => match x with | (_, M21) => (q_pR M21 l0 11 3 (k16 + 1) (fun M22 => (q_nA M22 3 (4 : Int32) 4 (fun k23 M24 => (q_pR M24 l0 11 4 (k23 + 1) (fun M25 => (q_nA M25 4 (4 : Int32) 4 (fun k26 M27 => (q_pR M27 l0 11 5 (k26 + 1) (fun M28 => (q_nO M28 8 (fun k29 M30 => ((F_X8_init k29 M30).bind (fun x => match x with | (_, M32) => (q_pR M32 l0 11 6 (k29 + 1) (fun M33 => (q_nO M33 8 (fun k34 M35 => ((F_X8_init k34 M35).bind (fun x => match x with | (_, M37) => (q_pR M37 l0 11 7 (k34 + 1) (fun M38 => (q_nO M38 6 (fun k39 M40 => ((F_X6_init k39 M40).bind (fun x => match x with | (_, M42) => (q_pR M42 l0 11 8 (k39 + 1) (fun M43 => (q_nO M43 1 (fun k44 M45 => (q_gR M45 l0 11 1 (fun c46 => q_nn c46 (fun r47 => ((F_X1_init k44 r47 M45).bind (fun x => match x with | (_, M49) => (q_pR M49 l0 11 9 (k44 + 1) (fun M50 => (q_nO M50 0 (fun k51 M52 => (q_gR M52 l0 11 1 (fun c53 => q_nn c53 (fun r54 => (q_gR M52 l0 11 9 (fun c55 => q_nn c55 (fun r56 => ((F_X0_init k51 r54 r56 M52).bind (fun x => match x with | (_, M58) => (q_pR M58 l0 11 10 (k51 + 1) (fun M59 => (q_nO M59 2 (fun k60 M61 => (q_gR M61 l0 11 1 (fun c62 => q_nn c62 (fun r63 => (q_gR M61 l0 11 9 (fun c64 => q_nn c64 (fun r65 => (q_gR M61 l0 11 10 (fun c66 => q_nn c66 (fun r67 => ((F_X2_init k60 r63 r65 r67 M61).bind (fun x => match x with | (_, M69) => (q_pR M69 l0 11 11 (k60 + 1) (fun M70 => (q_nO M70 7 (fun k71 M72 => (q_gR M72 l0 11 1 (fun c73 => q_nn c73 (fun r74 => (q_gR M72 l0 11 9 (fun c75 => q_nn c75 (fun r76 => ((F_X7_init k71 r74 r76 M72).bind (fun x => match x with | (_, M78) => (q_pR M78 l0 11 12 (k71 + 1) (fun M79 => (q_nO M79 10 (fun k80 M81 => ((F_X10_init k80 M81).bind (fun x => match x with | (_, M83) => (q_pR M83 l0 11 13 (k80 + 1) (fun M84 => (q_pI M84 l0 11 14 (0 : Int32) (fun M85 => (q_pI M85 l0 11 15 (0 : Int32) (fun M86 => (q_pI M86 l0 11 16 (-1 : Int32) (fun M87 => (q_pI M87 l0 11 17 (1 : Int32) (fun M88 => (q_pZ M88 l0 11 18 (0 : Int32) (fun M89 => (q_pL M89 l0 11 19 (0 : Int64) (fun M90 => some ((), M90))))))))))))))))))))))))))))))))))))))))))))))))))))))))))))))))))))))))))))))))))))))))))))))))))))))))))))))))))))))))
set_option maxRecDepth 100000 in
set_option maxHeartbeats 4000000 in
theorem c_X11_init (l : Launch) (G : q_G) (l0 : Nat) (M : q_Mem) {r : Unit} {M' : q_Mem} (h : F_X11_init l0 M = some (r, M')) : q_Met l G yX11_init cX11_init 1 (Option.none : Option Jvm.ClassFile.FieldType) 4 50 3087 [.ref l0] M none M' := by
  unfold F_X11_init at h
  refine q_enter [some (.ref l0)] (by decide) (Nat.le_of_ble_eq_true rfl) rfl (fun K C => ?_)
  refine q_aload_n C dX11_init_0 rfl ?_
  refine q_objI C dX11_init_1 wd_32 wd_33 wd_34 (by decide) (Nat.le_of_ble_eq_true rfl) ?_
  refine q_aload_n C dX11_init_4 rfl ?_
  refine x_new (ci := 9) C dX11_init_5 rfl clok_9 wd_35 wd_36 wd_2 df_9 h (by decide) (fun k1 M2 h => ?_)
  refine q_dup C dX11_init_8 rfl ?_
  obtain ⟨⟨_, M4⟩, e1, h⟩ := q_bind h
  refine x_callI C dX11_init_9 lkM_X11_11 mI_X9_init (c_X9_init _ _ _ _ e1) rfl rfl (Nat.le_of_ble_eq_true rfl) (by decide) (by decide) ?_
  refine x_putR (ci := 11) (j := 0) (k1 + 1) C dX11_init_12 lkF_X11_12 (fun r hr => by cases hr; exact Or.inr ⟨rfl, rfl, wd_327⟩) (Or.inl ⟨_, rfl⟩) rfl h (fun M5 h => ?_)
  refine q_aload_n C dX11_init_15 rfl ?_
  refine x_new (ci := 3) C dX11_init_16 rfl clok_3 wd_63 wd_64 wd_3 df_3 h (by decide) (fun k6 M7 h => ?_)
  refine q_dup C dX11_init_19 rfl ?_
  obtain ⟨⟨_, M9⟩, e1, h⟩ := q_bind h
  refine x_callI C dX11_init_20 lkM_X11_18 mI_X3_init (c_X3_init _ _ _ _ e1) rfl rfl (Nat.le_of_ble_eq_true rfl) (by decide) (by decide) ?_
  refine x_putR (ci := 11) (j := 1) (k6 + 1) C dX11_init_23 lkF_X11_19 (fun r hr => by cases hr; exact Or.inr ⟨rfl, rfl, wd_328⟩) (Or.inl ⟨_, rfl⟩) rfl h (fun M10 h => ?_)
  refine q_aload_n C dX11_init_26 rfl ?_
  refine x_new (ci := 3) C dX11_init_27 rfl clok_3 wd_63 wd_64 wd_3 df_3 h (by decide) (fun k11 M12 h => ?_)
  refine q_dup C dX11_init_30 rfl ?_
  obtain ⟨⟨_, M14⟩, e1, h⟩ := q_bind h
  refine x_callI C dX11_init_31 lkM_X11_18 mI_X3_init (c_X3_init _ _ _ _ e1) rfl rfl (Nat.le_of_ble_eq_true rfl) (by decide) (by decide) ?_
  refine x_putR (ci := 11) (j := 2) (k11 + 1) C dX11_init_34 lkF_X11_23 (fun r hr => by cases hr; exact Or.inr ⟨rfl, rfl, wd_329⟩) (Or.inl ⟨_, rfl⟩) rfl h (fun M15 h => ?_)
  refine q_aload_n C dX11_init_37 rfl ?_
  refine x_new (ci := 5) C dX11_init_38 rfl clok_5 wd_104 wd_105 wd_4 df_5 h (by decide) (fun k16 M17 h => ?_)
  refine q_dup C dX11_init_41 rfl ?_
  refine q_aload_n C dX11_init_42 rfl ?_
  refine x_getR (ci := 11) (j := 0) C dX11_init_43 lkF_X11_12 rfl h (fun c18 h => ?_)
  refine x_nn h (fun r19 h => ?_)
  obtain ⟨⟨_, M21⟩, e1, h⟩ := q_bind h
  refine x_callI C dX11_init_46 lkM_X11_28 mI_X5_init (c_X5_init _ _ _ _ _ e1) rfl rfl (Nat.le_of_ble_eq_true rfl) (by decide) (by decide) ?_
  refine x_putR (ci := 11) (j := 3) (k16 + 1) C dX11_init_49 lkF_X11_31 (fun r hr => by cases hr; exact Or.inr ⟨rfl, rfl, wd_330⟩) (Or.inl ⟨_, rfl⟩) rfl h (fun M22 h => ?_)
  refine q_aload_n C dX11_init_52 rfl ?_
  refine x_iconst (v := (4 : Int32)) C dX11_init_53 (by decide) ?_
  refine x_newq C dX11_init_54 wd_120 (by decide) (by decide) h (by decide) (fun k23 M24 h => ?_)
  refine x_putR (ci := 11) (j := 4) (k23 + 1) C dX11_init_57 lkF_X11_37 (fun r hr => by cases hr; exact Or.inr ⟨rfl, rfl, wd_331⟩) (Or.inr ⟨_, rfl⟩) rfl h (fun M25 h => ?_)
  refine q_aload_n C dX11_init_60 rfl ?_
  refine x_iconst (v := (4 : Int32)) C dX11_init_61 (by decide) ?_
  refine x_newq C dX11_init_62 wd_122 (by decide) (by decide) h (by decide) (fun k26 M27 h => ?_)
  refine x_putR (ci := 11) (j := 5) (k26 + 1) C dX11_init_65 lkF_X11_43 (fun r hr => by cases hr; exact Or.inr ⟨rfl, rfl, wd_332⟩) (Or.inr ⟨_, rfl⟩) rfl h (fun M28 h => ?_)
  refine q_aload_n C dX11_init_68 rfl ?_
  refine x_new (ci := 8) C dX11_init_69 rfl clok_8 wd_124 wd_125 wd_5 df_8 h (by decide) (fun k29 M30 h => ?_)
  refine q_dup C dX11_init_72 rfl ?_
  obtain ⟨⟨_, M32⟩, e1, h⟩ := q_bind h
  refine x_callI C dX11_init_73 lkM_X11_49 mI_X8_init (c_X8_init _ _ _ _ e1) rfl rfl (Nat.le_of_ble_eq_true rfl) (by decide) (by decide) ?_
  refine x_putR (ci := 11) (j := 6) (k29 + 1) C dX11_init_76 lkF_X11_50 (fun r hr => by cases hr; exact Or.inr ⟨rfl, rfl, wd_333⟩) (Or.inl ⟨_, rfl⟩) rfl h (fun M33 h => ?_)
  refine q_aload_n C dX11_init_79 rfl ?_
  refine x_new (ci := 8) C dX11_init_80 rfl clok_8 wd_124 wd_125 wd_5 df_8 h (by decide) (fun k34 M35 h => ?_)
  refine q_dup C dX11_init_83 rfl ?_
  obtain ⟨⟨_, M37⟩, e1, h⟩ := q_bind h
  refine x_callI C dX11_init_84 lkM_X11_49 mI_X8_init (c_X8_init _ _ _ _ e1) rfl rfl (Nat.le_of_ble_eq_true rfl) (by decide) (by decide) ?_
  refine x_putR (ci := 11) (j := 7) (k34 + 1) C dX11_init_87 lkF_X11_54 (fun r hr => by cases hr; exact Or.inr ⟨rfl, rfl, wd_334⟩) (Or.inl ⟨_, rfl⟩) rfl h (fun M38 h => ?_)
  refine q_aload_n C dX11_init_90 rfl ?_
  refine x_new (ci := 6) C dX11_init_91 rfl clok_6 wd_139 wd_140 wd_6 df_6 h (by decide) (fun k39 M40 h => ?_)
  refine q_dup C dX11_init_94 rfl ?_
  obtain ⟨⟨_, M42⟩, e1, h⟩ := q_bind h
  refine x_callI C dX11_init_95 lkM_X11_59 mI_X6_init (c_X6_init _ _ _ _ e1) rfl rfl (Nat.le_of_ble_eq_true rfl) (by decide) (by decide) ?_
  refine x_putR (ci := 11) (j := 8) (k39 + 1) C dX11_init_98 lkF_X11_60 (fun r hr => by cases hr; exact Or.inr ⟨rfl, rfl, wd_335⟩) (Or.inl ⟨_, rfl⟩) rfl h (fun M43 h => ?_)
  refine q_aload_n C dX11_init_101 rfl ?_
  refine x_new (ci := 1) C dX11_init_102 rfl clok_1 wd_170 wd_171 wd_7 df_1 h (by decide) (fun k44 M45 h => ?_)
  refine q_dup C dX11_init_105 rfl ?_
  refine q_aload_n C dX11_init_106 rfl ?_
  refine x_getR (ci := 11) (j := 1) C dX11_init_107 lkF_X11_19 rfl h (fun c46 h => ?_)
  refine x_nn h (fun r47 h => ?_)
  obtain ⟨⟨_, M49⟩, e1, h⟩ := q_bind h
  refine x_callI C dX11_init_110 lkM_X11_66 mI_X1_init (c_X1_init _ _ _ _ _ e1) rfl rfl (Nat.le_of_ble_eq_true rfl) (by decide) (by decide) ?_
  refine x_putR (ci := 11) (j := 9) (k44 + 1) C dX11_init_113 lkF_X11_69 (fun r hr => by cases hr; exact Or.inr ⟨rfl, rfl, wd_336⟩) (Or.inl ⟨_, rfl⟩) rfl h (fun M50 h => ?_)
  refine q_aload_n C dX11_init_116 rfl ?_
  refine x_new (ci := 0) C dX11_init_117 rfl clok_0 wd_229 wd_230 wd_8 df_0 h (by decide) (fun k51 M52 h => ?_)
  refine q_dup C dX11_init_120 rfl ?_
  refine q_aload_n C dX11_init_121 rfl ?_
  refine x_getR (ci := 11) (j := 1) C dX11_init_122 lkF_X11_19 rfl h (fun c53 h => ?_)
  refine x_nn h (fun r54 h => ?_)
  refine q_aload_n C dX11_init_125 rfl ?_
  refine x_getR (ci := 11) (j := 9) C dX11_init_126 lkF_X11_69 rfl h (fun c55 h => ?_)
  refine x_nn h (fun r56 h => ?_)
  obtain ⟨⟨_, M58⟩, e1, h⟩ := q_bind h
  refine x_callI C dX11_init_129 lkM_X11_75 mI_X0_init (c_X0_init _ _ _ _ _ _ e1) rfl rfl (Nat.le_of_ble_eq_true rfl) (by decide) (by decide) ?_
  refine x_putR (ci := 11) (j := 10) (k51 + 1) C dX11_init_132 lkF_X11_78 (fun r hr => by cases hr; exact Or.inr ⟨rfl, rfl, wd_337⟩) (Or.inl ⟨_, rfl⟩) rfl h (fun M59 h => ?_)
  refine q_aload_n C dX11_init_135 rfl ?_
  refine x_new (ci := 2) C dX11_init_136 rfl clok_2 wd_242 wd_243 wd_9 df_2 h (by decide) (fun k60 M61 h => ?_)
  refine q_dup C dX11_init_139 rfl ?_
  refine q_aload_n C dX11_init_140 rfl ?_
  refine x_getR (ci := 11) (j := 1) C dX11_init_141 lkF_X11_19 rfl h (fun c62 h => ?_)
  refine x_nn h (fun r63 h => ?_)
  refine q_aload_n C dX11_init_144 rfl ?_
  refine x_getR (ci := 11) (j := 9) C dX11_init_145 lkF_X11_69 rfl h (fun c64 h => ?_)
  refine x_nn h (fun r65 h => ?_)
  refine q_aload_n C dX11_init_148 rfl ?_
  refine x_getR (ci := 11) (j := 10) C dX11_init_149 lkF_X11_78 rfl h (fun c66 h => ?_)
  refine x_nn h (fun r67 h => ?_)
  obtain ⟨⟨_, M69⟩, e1, h⟩ := q_bind h
  refine x_callI C dX11_init_152 lkM_X11_84 mI_X2_init (c_X2_init _ _ _ _ _ _ _ e1) rfl rfl (Nat.le_of_ble_eq_true rfl) (by decide) (by decide) ?_
  refine x_putR (ci := 11) (j := 11) (k60 + 1) C dX11_init_155 lkF_X11_87 (fun r hr => by cases hr; exact Or.inr ⟨rfl, rfl, wd_338⟩) (Or.inl ⟨_, rfl⟩) rfl h (fun M70 h => ?_)
  refine q_aload_n C dX11_init_158 rfl ?_
  refine x_new (ci := 7) C dX11_init_159 rfl clok_7 wd_293 wd_294 wd_10 df_7 h (by decide) (fun k71 M72 h => ?_)
  refine q_dup C dX11_init_162 rfl ?_
  refine q_aload_n C dX11_init_163 rfl ?_
  refine x_getR (ci := 11) (j := 1) C dX11_init_164 lkF_X11_19 rfl h (fun c73 h => ?_)
  refine x_nn h (fun r74 h => ?_)
  refine q_aload_n C dX11_init_167 rfl ?_
  refine x_getR (ci := 11) (j := 9) C dX11_init_168 lkF_X11_69 rfl h (fun c75 h => ?_)
  refine x_nn h (fun r76 h => ?_)
  obtain ⟨⟨_, M78⟩, e1, h⟩ := q_bind h
  refine x_callI C dX11_init_171 lkM_X11_93 mI_X7_init (c_X7_init _ _ _ _ _ _ e1) rfl rfl (Nat.le_of_ble_eq_true rfl) (by decide) (by decide) ?_
  refine x_putR (ci := 11) (j := 12) (k71 + 1) C dX11_init_174 lkF_X11_94 (fun r hr => by cases hr; exact Or.inr ⟨rfl, rfl, wd_339⟩) (Or.inl ⟨_, rfl⟩) rfl h (fun M79 h => ?_)
  refine q_aload_n C dX11_init_177 rfl ?_
  refine x_new (ci := 10) C dX11_init_178 rfl clok_10 wd_122 wd_313 wd_11 df_10 h (by decide) (fun k80 M81 h => ?_)
  refine q_dup C dX11_init_181 rfl ?_
  obtain ⟨⟨_, M83⟩, e1, h⟩ := q_bind h
  refine x_callI C dX11_init_182 lkM_X11_98 mI_X10_init (c_X10_init _ _ _ _ e1) rfl rfl (Nat.le_of_ble_eq_true rfl) (by decide) (by decide) ?_
  refine x_putR (ci := 11) (j := 13) (k80 + 1) C dX11_init_185 lkF_X11_99 (fun r hr => by cases hr; exact Or.inl rfl) (Or.inl ⟨_, rfl⟩) rfl h (fun M84 h => ?_)
  refine q_aload_n C dX11_init_188 rfl ?_
  refine x_iconst (v := (0 : Int32)) C dX11_init_189 (by decide) ?_
  refine x_putI (ci := 11) (j := 14) C dX11_init_190 lkF_X11_103 (fun r hr => by cases hr; rfl) rfl h (fun M85 h => ?_)
  refine q_aload_n C dX11_init_193 rfl ?_
  refine x_iconst (v := (0 : Int32)) C dX11_init_194 (by decide) ?_
  refine x_putI (ci := 11) (j := 15) C dX11_init_195 lkF_X11_107 (fun r hr => by cases hr; rfl) rfl h (fun M86 h => ?_)
  refine q_aload_n C dX11_init_198 rfl ?_
  refine x_iconst (v := (-1 : Int32)) C dX11_init_199 (by decide) ?_
  refine x_putI (ci := 11) (j := 16) C dX11_init_200 lkF_X11_110 (fun r hr => by cases hr; rfl) rfl h (fun M87 h => ?_)
  refine q_aload_n C dX11_init_203 rfl ?_
  refine x_iconst (v := (1 : Int32)) C dX11_init_204 (by decide) ?_
  refine x_putI (ci := 11) (j := 17) C dX11_init_205 lkF_X11_113 (fun r hr => by cases hr; rfl) rfl h (fun M88 h => ?_)
  refine q_aload_n C dX11_init_208 rfl ?_
  refine x_iconst (v := (0 : Int32)) C dX11_init_209 (by decide) ?_
  refine x_putZ (ci := 11) (j := 18) C dX11_init_210 lkF_X11_116 (fun r hr => by cases hr; rfl) rfl h (fun M89 h => ?_)
  refine q_aload_n C dX11_init_213 rfl ?_
  refine x_lconst (v := (0 : Int64)) C dX11_init_214 (by decide) ?_
  refine x_putL (ci := 11) (j := 19) C dX11_init_215 lkF_X11_120 (fun r hr => by cases hr; rfl) rfl h (fun M90 h => ?_)
  exact q_vret C dX11_init_218 rfl (by decide) (by decide) (Option.some.inj h)
noncomputable def F_X11_feed (l0 : Nat) (l1 : Int32) (l2 : Int32) (l3 : Int32) (l4 : Int32) (l5 : Int32) (M : q_Mem) : Option (Int32 × q_Mem) := ((F_X9_bytesIn l1 M).bind (fun u1 => ((F_X9_bytesIn l2 M).bind (fun u2 => ((F_X9_bytesIn l3 M).bind (fun u3 => ((F_X9_bytesIn l4 M).bind (fun u4 => ((F_X9_bytesIn l5 M).bind (fun u5 => (q_gR M l0 11 0 (fun c6 => q_nn c6 (fun r7 => (q_gI M r7 9 1 (fun v8 => (if (240 : Int32) < (v8 + ((((u1 + u2) + u3) + u4) + u5)) then some ((-1 : Int32), M) else (q_gR M l0 11 0 (fun c9 => q_nn c9 (fun r10 => (q_ob M r10 9 ((F_X9_append r10 l1 M).bind (fun x => match x with | (_, M12) => (q_gR M12 l0 11 0 (fun c13 => q_nn c13 (fun r14 => (q_ob M12 r14 9 ((F_X9_append r14 l2 M12).bind (fun x => match x with | (_, M16) => (q_gR M16 l0 11 0 (fun c17 => q_nn c17 (fun r18 => (q_ob M16 r18 9 ((F_X9_append r18 l3 M16).bind (fun x => match x with | (_, M20) => (q_gR M20 l0 11 0 (fun c21 => q_nn c21 (fun r22 => (q_ob M20 r22 9 ((F_X9_append r22 l4 M20).bind (fun x => match x with | (_, M24) => (q_gR M24 l0 11 0 (fun c25 => q_nn c25 (fun r26 => (q_ob M24 r26 9 ((F_X9_append r26 l5 M24).bind (fun x => match x with | (_, M28) => (q_gR M28 l0 11 0 (fun c29 => q_nn c29 (fun r30 => (q_gI M28 r30 9 1 (fun v31 => some (v31, M28))))))))))))))))))))))))))))))))))))))))))))))))))))
set_option maxRecDepth 100000 in
set_option maxHeartbeats 4000000 in
theorem c_X11_feed (l : Launch) (G : q_G) (l0 : Nat) (l1 : Int32) (l2 : Int32) (l3 : Int32) (l4 : Int32) (l5 : Int32) (M : q_Mem) {r : Int32} {M' : q_Mem} (h : F_X11_feed l0 l1 l2 l3 l4 l5 M = some (r, M')) : q_Met l G yX11_feed cX11_feed 7 (Option.some Jvm.ClassFile.FieldType.int) 2 0 0 [.ref l0, .int l1, .int l2, .int l3, .int l4, .int l5] M (some (.int r)) M' := by
  unfold F_X11_feed at h
  refine q_enter [some (.ref l0), some (.int l1), some (.int l2), some (.int l3), some (.int l4), some (.int l5), none] (by decide) (Nat.le_of_ble_eq_true rfl) rfl (fun K C => ?_)
  refine q_iload_n C dX11_feed_0 rfl ?_
  obtain ⟨u1, e1, h⟩ := q_bind h
  refine x_callS0 C dX11_feed_1 lkM_X11_124 mS_X9_bytesIn (c_X9_bytesIn _ _ _ _ e1) rfl rfl (Nat.le_of_ble_eq_true rfl) (by decide) (by decide) ?_
  refine q_iload_n C dX11_feed_4 rfl ?_
  obtain ⟨u2, e1, h⟩ := q_bind h
  refine x_callS0 C dX11_feed_5 lkM_X11_124 mS_X9_bytesIn (c_X9_bytesIn _ _ _ _ e1) rfl rfl (Nat.le_of_ble_eq_true rfl) (by decide) (by decide) ?_
  refine q_iadd C dX11_feed_8 ?_
  refine q_iload_n C dX11_feed_9 rfl ?_
  obtain ⟨u3, e1, h⟩ := q_bind h
  refine x_callS0 C dX11_feed_10 lkM_X11_124 mS_X9_bytesIn (c_X9_bytesIn _ _ _ _ e1) rfl rfl (Nat.le_of_ble_eq_true rfl) (by decide) (by decide) ?_
  refine q_iadd C dX11_feed_13 ?_
  refine q_iload C dX11_feed_14 rfl ?_
  obtain ⟨u4, e1, h⟩ := q_bind h
  refine x_callS0 C dX11_feed_16 lkM_X11_124 mS_X9_bytesIn (c_X9_bytesIn _ _ _ _ e1) rfl rfl (Nat.le_of_ble_eq_true rfl) (by decide) (by decide) ?_
  refine q_iadd C dX11_feed_19 ?_
  refine q_iload C dX11_feed_20 rfl ?_
  obtain ⟨u5, e1, h⟩ := q_bind h
  refine x_callS0 C dX11_feed_22 lkM_X11_124 mS_X9_bytesIn (c_X9_bytesIn _ _ _ _ e1) rfl rfl (Nat.le_of_ble_eq_true rfl) (by decide) (by decide) ?_
  refine q_iadd C dX11_feed_25 ?_
  refine q_istore (L' := [some (.ref l0), some (.int l1), some (.int l2), some (.int l3), some (.int l4), some (.int l5), some (.int ((((u1 + u2) + u3) + u4) + u5))]) C dX11_feed_26 (by decide) rfl rfl ?_
  refine q_aload_n C dX11_feed_28 rfl ?_
  refine x_getR (ci := 11) (j := 0) C dX11_feed_29 lkF_X11_12 rfl h (fun c6 h => ?_)
  refine x_nn h (fun r7 h => ?_)
  refine x_getI (ci := 9) (j := 1) C dX11_feed_32 lkF_X11_128 rfl h (fun v8 h => ?_)
  refine q_iload C dX11_feed_35 rfl ?_
  refine q_iadd C dX11_feed_37 ?_
  refine x_sipush (v := (240 : Int32)) C dX11_feed_38 (by decide) ?_
  refine q_icmp_le (tgt := 46) C dX11_feed_41 (by decide) h (fun _ h => ?_) (fun _ h => ?_)
  · refine x_iconst (v := (-1 : Int32)) C dX11_feed_44 (by decide) ?_
    exact q_iret C dX11_feed_45 rfl (by decide) (by decide) (Option.some.inj h)
  · refine q_aload_n C dX11_feed_46 rfl ?_
    refine x_getR (ci := 11) (j := 0) C dX11_feed_47 lkF_X11_12 rfl h (fun c9 h => ?_)
    refine x_nn h (fun r10 h => ?_)
    refine q_iload_n C dX11_feed_50 rfl ?_
    obtain ⟨hk, h⟩ := q_obE h
    obtain ⟨⟨_, M12⟩, e1, h⟩ := q_bind h
    refine x_callVv0 C dX11_feed_51 lkM_X11_131 mV_X9_append ⟨_, rfl, rfl⟩ hk (c_X9_append _ _ _ _ _ e1) rfl rfl (Nat.le_of_ble_eq_true rfl) (by decide) (by decide) ?_
    refine q_aload_n C dX11_feed_54 rfl ?_
    refine x_getR (ci := 11) (j := 0) C dX11_feed_55 lkF_X11_12 rfl h (fun c13 h => ?_)
    refine x_nn h (fun r14 h => ?_)
    refine q_iload_n C dX11_feed_58 rfl ?_
    obtain ⟨hk, h⟩ := q_obE h
    obtain ⟨⟨_, M16⟩, e1, h⟩ := q_bind h
    refine x_callVv0 C dX11_feed_59 lkM_X11_131 mV_X9_append ⟨_, rfl, rfl⟩ hk (c_X9_append _ _ _ _ _ e1) rfl rfl (Nat.le_of_ble_eq_true rfl) (by decide) (by decide) ?_
    refine q_aload_n C dX11_feed_62 rfl ?_
    refine x_getR (ci := 11) (j := 0) C dX11_feed_63 lkF_X11_12 rfl h (fun c17 h => ?_)
    refine x_nn h (fun r18 h => ?_)
    refine q_iload_n C dX11_feed_66 rfl ?_
    obtain ⟨hk, h⟩ := q_obE h
    obtain ⟨⟨_, M20⟩, e1, h⟩ := q_bind h
    refine x_callVv0 C dX11_feed_67 lkM_X11_131 mV_X9_append ⟨_, rfl, rfl⟩ hk (c_X9_append _ _ _ _ _ e1) rfl rfl (Nat.le_of_ble_eq_true rfl) (by decide) (by decide) ?_
    refine q_aload_n C dX11_feed_70 rfl ?_
    refine x_getR (ci := 11) (j := 0) C dX11_feed_71 lkF_X11_12 rfl h (fun c21 h => ?_)
    refine x_nn h (fun r22 h => ?_)
    refine q_iload C dX11_feed_74 rfl ?_
    obtain ⟨hk, h⟩ := q_obE h
    obtain ⟨⟨_, M24⟩, e1, h⟩ := q_bind h
    refine x_callVv0 C dX11_feed_76 lkM_X11_131 mV_X9_append ⟨_, rfl, rfl⟩ hk (c_X9_append _ _ _ _ _ e1) rfl rfl (Nat.le_of_ble_eq_true rfl) (by decide) (by decide) ?_
    refine q_aload_n C dX11_feed_79 rfl ?_
    refine x_getR (ci := 11) (j := 0) C dX11_feed_80 lkF_X11_12 rfl h (fun c25 h => ?_)
    refine x_nn h (fun r26 h => ?_)
    refine q_iload C dX11_feed_83 rfl ?_
    obtain ⟨hk, h⟩ := q_obE h
    obtain ⟨⟨_, M28⟩, e1, h⟩ := q_bind h
    refine x_callVv0 C dX11_feed_85 lkM_X11_131 mV_X9_append ⟨_, rfl, rfl⟩ hk (c_X9_append _ _ _ _ _ e1) rfl rfl (Nat.le_of_ble_eq_true rfl) (by decide) (by decide) ?_
    refine q_aload_n C dX11_feed_88 rfl ?_
    refine x_getR (ci := 11) (j := 0) C dX11_feed_89 lkF_X11_12 rfl h (fun c29 h => ?_)
    refine x_nn h (fun r30 h => ?_)
    refine x_getI (ci := 9) (j := 1) C dX11_feed_92 lkF_X11_128 rfl h (fun v31 h => ?_)
    exact q_iret C dX11_feed_95 rfl (by decide) (by decide) (Option.some.inj h)
noncomputable def F_X11_end (l0 : Nat) (l1 : Int32) (M : q_Mem) : Option (Int32 × q_Mem) := (if l1 < 0 then q_rz (0 : Int32) M else (q_gR M l0 11 0 (fun c1 => q_nn c1 (fun r2 => (q_gI M r2 9 1 (fun v3 => (if v3 < l1 then q_rz (0 : Int32) M else (q_gR M l0 11 0 (fun c4 => q_nn c4 (fun r5 => (q_pI M r5 9 1 l1 (fun M6 => q_rz (1 : Int32) M6))))))))))))
set_option maxRecDepth 100000 in
set_option maxHeartbeats 4000000 in
theorem c_X11_end (l : Launch) (G : q_G) (l0 : Nat) (l1 : Int32) (M : q_Mem) {r : Int32} {M' : q_Mem} (h : F_X11_end l0 l1 M = some (r, M')) : q_Met l G yX11_end cX11_end 2 (Option.some Jvm.ClassFile.FieldType.boolean) 1 0 0 [.ref l0, .int l1] M (some (.int r)) M' := by
  unfold F_X11_end at h
  refine q_enter [some (.ref l0), some (.int l1)] (by decide) (Nat.le_of_ble_eq_true rfl) rfl (fun K C => ?_)
  refine q_iload_n C dX11_end_0 rfl ?_
  refine q_if_lt (tgt := 15) C dX11_end_1 (by decide) h (fun _ h => ?_) (fun _ h => ?_)
  · refine x_iconst (v := (0 : Int32)) C dX11_end_15 (by decide) ?_
    exact q_zret C dX11_end_16 rfl (by decide) (by decide) (q_rzE h).1 (q_rzE h).2
  · refine q_iload_n C dX11_end_4 rfl ?_
    refine q_aload_n C dX11_end_5 rfl ?_
    refine x_getR (ci := 11) (j := 0) C dX11_end_6 lkF_X11_12 rfl h (fun c1 h => ?_)
    refine x_nn h (fun r2 h => ?_)
    refine x_getI (ci := 9) (j := 1) C dX11_end_9 lkF_X11_128 rfl h (fun v3 h => ?_)
    refine q_icmp_le (tgt := 17) C dX11_end_12 (by decide) h (fun _ h => ?_) (fun _ h => ?_)
    · refine x_iconst (v := (0 : Int32)) C dX11_end_15 (by decide) ?_
      exact q_zret C dX11_end_16 rfl (by decide) (by decide) (q_rzE h).1 (q_rzE h).2
    · refine q_aload_n C dX11_end_17 rfl ?_
      refine x_getR (ci := 11) (j := 0) C dX11_end_18 lkF_X11_12 rfl h (fun c4 h => ?_)
      refine x_nn h (fun r5 h => ?_)
      refine q_iload_n C dX11_end_21 rfl ?_
      refine x_putI (ci := 9) (j := 1) C dX11_end_22 lkF_X11_128 (fun r hr => by cases hr; rfl) rfl h (fun M6 h => ?_)
      refine x_iconst (v := (1 : Int32)) C dX11_end_25 (by decide) ?_
      exact q_zret C dX11_end_26 rfl (by decide) (by decide) (q_rzE h).1 (q_rzE h).2
noncomputable def F_X11_readTape (l0 : Nat) (l1 : Int32) (M : q_Mem) : Option (Int32 × q_Mem) := (q_gR M l0 11 0 (fun c1 => q_nn c1 (fun r2 => (q_pI M r2 9 2 (0 : Int32) (fun M3 => (if l1 = (0 : Int32) then (q_gR M3 l0 11 2 (fun c4 => q_nn c4 (fun r5 => (q_gR M3 l0 11 0 (fun c6 => q_nn c6 (fun r7 => (q_ob M3 r5 3 ((F_X3_readFrom r5 r7 M3).bind (fun x => match x with | (u8, M9) => q_rz u8 M9))))))))) else (if l1 = (1 : Int32) then (q_gR M3 l0 11 3 (fun c10 => q_nn c10 (fun r11 => (q_ob M3 r11 5 ((F_X5_readLaw r11 M3).bind (fun x => match x with | (u12, M13) => q_rz u12 M13)))))) else (q_gR M3 l0 11 13 (fun c14 => q_nn c14 (fun r15 => (q_gR M3 l0 11 0 (fun c16 => q_nn c16 (fun r17 => (q_ob M3 r15 10 ((F_X10_readFrom r15 r17 M3).bind (fun x => match x with | (u18, M19) => q_rz u18 M19))))))))))))))))
set_option maxRecDepth 100000 in
set_option maxHeartbeats 4000000 in
theorem c_X11_readTape (l : Launch) (G : q_G) (l0 : Nat) (l1 : Int32) (M : q_Mem) {r : Int32} {M' : q_Mem} (h : F_X11_readTape l0 l1 M = some (r, M')) : q_Met l G yX11_readTape cX11_readTape 2 (Option.some Jvm.ClassFile.FieldType.boolean) 130 0 0 [.ref l0, .int l1] M (some (.int r)) M' := by
  unfold F_X11_readTape at h
  refine q_enter [some (.ref l0), some (.int l1)] (by decide) (Nat.le_of_ble_eq_true rfl) rfl (fun K C => ?_)
  refine q_aload_n C dX11_readTape_0 rfl ?_
  refine x_getR (ci := 11) (j := 0) C dX11_readTape_1 lkF_X11_12 rfl h (fun c1 h => ?_)
  refine x_nn h (fun r2 h => ?_)
  refine x_iconst (v := (0 : Int32)) C dX11_readTape_4 (by decide) ?_
  refine x_putI (ci := 9) (j := 2) C dX11_readTape_5 lkF_X11_139 (fun r hr => by cases hr; rfl) rfl h (fun M3 h => ?_)
  refine q_iload_n C dX11_readTape_8 rfl ?_
  by_cases hs9_0 : l1 = (0 : Int32)
  · have h := q_iteT h hs9_0
    refine q_lks (off := 27) (tgt := 36) C dX11_readTape_9 (by decide) (by first | (rw [hs9_0]; done) | (rw [hs9_0]; rfl)) (by decide) ?_
    refine q_aload_n C dX11_readTape_36 rfl ?_
    refine x_getR (ci := 11) (j := 2) C dX11_readTape_37 lkF_X11_23 rfl h (fun c4 h => ?_)
    refine x_nn h (fun r5 h => ?_)
    refine q_aload_n C dX11_readTape_40 rfl ?_
    refine x_getR (ci := 11) (j := 0) C dX11_readTape_41 lkF_X11_12 rfl h (fun c6 h => ?_)
    refine x_nn h (fun r7 h => ?_)
    obtain ⟨hk, h⟩ := q_obE h
    obtain ⟨⟨u8, M9⟩, e1, h⟩ := q_bind h
    refine x_callV0 C dX11_readTape_44 lkM_X11_394 mV_X3_readFrom ⟨_, rfl, rfl⟩ hk (c_X3_readFrom _ _ _ _ _ e1) rfl rfl (Nat.le_of_ble_eq_true rfl) (by decide) (by decide) ?_
    exact q_zret C dX11_readTape_47 rfl (by decide) (by decide) (q_rzE h).1 (q_rzE h).2
  have h := q_iteF h hs9_0
  by_cases hs9_1 : l1 = (1 : Int32)
  · have h := q_iteT h hs9_1
    refine q_lks (off := 39) (tgt := 48) C dX11_readTape_9 (by decide) (by first | (rw [hs9_1]; done) | (rw [hs9_1]; rfl)) (by decide) ?_
    refine q_aload_n C dX11_readTape_48 rfl ?_
    refine x_getR (ci := 11) (j := 3) C dX11_readTape_49 lkF_X11_31 rfl h (fun c10 h => ?_)
    refine x_nn h (fun r11 h => ?_)
    obtain ⟨hk, h⟩ := q_obE h
    obtain ⟨⟨u12, M13⟩, e1, h⟩ := q_bind h
    refine x_callV0 C dX11_readTape_52 lkM_X11_398 mV_X5_readLaw ⟨_, rfl, rfl⟩ hk (c_X5_readLaw _ _ _ _ e1) rfl rfl (Nat.le_of_ble_eq_true rfl) (by decide) (by decide) ?_
    exact q_zret C dX11_readTape_55 rfl (by decide) (by decide) (q_rzE h).1 (q_rzE h).2
  have h := q_iteF h hs9_1
  refine q_lks (off := 47) (tgt := 56) C dX11_readTape_9 (by decide) (by first | (rw [lv_osw hs9_0 (by decide)]; rw [lv_osw hs9_1 (by decide)]; done) | (rw [lv_osw hs9_0 (by decide)]; rw [lv_osw hs9_1 (by decide)]; rfl)) (by decide) ?_
  refine q_aload_n C dX11_readTape_56 rfl ?_
  refine x_getR (ci := 11) (j := 13) C dX11_readTape_57 lkF_X11_99 rfl h (fun c14 h => ?_)
  refine x_nn h (fun r15 h => ?_)
  refine q_aload_n C dX11_readTape_60 rfl ?_
  refine x_getR (ci := 11) (j := 0) C dX11_readTape_61 lkF_X11_12 rfl h (fun c16 h => ?_)
  refine x_nn h (fun r17 h => ?_)
  obtain ⟨hk, h⟩ := q_obE h
  obtain ⟨⟨u18, M19⟩, e1, h⟩ := q_bind h
  refine x_callV0 C dX11_readTape_64 lkM_X11_402 mV_X10_readFrom ⟨_, rfl, rfl⟩ hk (c_X10_readFrom _ _ _ _ _ e1) rfl rfl (Nat.le_of_ble_eq_true rfl) (by decide) (by decide) ?_
  exact q_zret C dX11_readTape_67 rfl (by decide) (by decide) (q_rzE h).1 (q_rzE h).2
noncomputable def F_X11_fault (l0 : Nat) (l1 : Int32) (M : q_Mem) : Option (Int32 × q_Mem) := (if l1 < 0 then some ((-2 : Int32), M) else (if (2 : Int32) < l1 then some ((-2 : Int32), M) else (q_ob M l0 11 ((F_X11_readTape l0 l1 M).bind (fun x => match x with | (u1, M2) => (if u1 = 0 then (q_gR M2 l0 11 0 (fun c3 => q_nn c3 (fun r4 => (q_gI M2 r4 9 2 (fun v5 => some (v5, M2)))))) else some ((-1 : Int32), M2)))))))
set_option maxRecDepth 100000 in
set_option maxHeartbeats 4000000 in
theorem c_X11_fault (l : Launch) (G : q_G) (l0 : Nat) (l1 : Int32) (M : q_Mem) {r : Int32} {M' : q_Mem} (h : F_X11_fault l0 l1 M = some (r, M')) : q_Met l G yX11_fault cX11_fault 2 (Option.some Jvm.ClassFile.FieldType.int) 131 0 0 [.ref l0, .int l1] M (some (.int r)) M' := by
  unfold F_X11_fault at h
  refine q_enter [some (.ref l0), some (.int l1)] (by decide) (Nat.le_of_ble_eq_true rfl) rfl (fun K C => ?_)
  refine q_iload_n C dX11_fault_0 rfl ?_
  refine q_if_lt (tgt := 9) C dX11_fault_1 (by decide) h (fun _ h => ?_) (fun _ h => ?_)
  · refine x_bipush (v := (-2 : Int32)) C dX11_fault_9 (by decide) ?_
    exact q_iret C dX11_fault_11 rfl (by decide) (by decide) (Option.some.inj h)
  · refine q_iload_n C dX11_fault_4 rfl ?_
    refine x_iconst (v := (2 : Int32)) C dX11_fault_5 (by decide) ?_
    refine q_icmp_le (tgt := 12) C dX11_fault_6 (by decide) h (fun _ h => ?_) (fun _ h => ?_)
    · refine x_bipush (v := (-2 : Int32)) C dX11_fault_9 (by decide) ?_
      exact q_iret C dX11_fault_11 rfl (by decide) (by decide) (Option.some.inj h)
    · refine q_aload_n C dX11_fault_12 rfl ?_
      refine q_iload_n C dX11_fault_13 rfl ?_
      obtain ⟨hk, h⟩ := q_obE h
      obtain ⟨⟨u1, M2⟩, e1, h⟩ := q_bind h
      refine x_callV0 C dX11_fault_14 lkM_X11_135 mV_X11_readTape ⟨_, rfl, rfl⟩ hk (c_X11_readTape _ _ _ _ _ e1) rfl rfl (Nat.le_of_ble_eq_true rfl) (by decide) (by decide) ?_
      refine q_if_eq (tgt := 24) C dX11_fault_17 (by decide) h (fun _ h => ?_) (fun _ h => ?_)
      · refine q_aload_n C dX11_fault_24 rfl ?_
        refine x_getR (ci := 11) (j := 0) C dX11_fault_25 lkF_X11_12 rfl h (fun c3 h => ?_)
        refine x_nn h (fun r4 h => ?_)
        refine x_getI (ci := 9) (j := 2) C dX11_fault_28 lkF_X11_139 rfl h (fun v5 h => ?_)
        exact q_iret C dX11_fault_31 rfl (by decide) (by decide) (Option.some.inj h)
      · refine x_iconst (v := (-1 : Int32)) C dX11_fault_20 (by decide) ?_
        refine q_goto (tgt := 31) C dX11_fault_21 (by decide) ?_
        exact q_iret C dX11_fault_31 rfl (by decide) (by decide) (Option.some.inj h)
