noncomputable def B_X12_perform_24 (l0 : Nat) (l1 : Int32) (l2 : Int32) (M : q_Mem) : Option ((Int32 × q_Mem) ⊕ (Int32 × q_Mem)) := (q_gR M l0 12 25 (fun c4 => q_nn c4 (fun r5 => (q_lI M 0 r5 l1 (fun v6 => (if l2 < v6 then (q_gR M l0 12 32 (fun c7 => q_nn c7 (fun r8 => (q_ob M l0 12 ((F_X12_canStep l0 r8 ((3 : Int32) * (((16 : Int32) * l1) + l2)) M).bind (fun u9 => (if u9 = 0 then some (.inr (l2, M)) else (q_ob M l0 12 ((F_X12_remember l0 M).bind (fun x => match x with | (_, M11) => (q_gR M11 l0 12 32 (fun c12 => q_nn c12 (fun r13 => (q_ob M11 l0 12 ((F_X12_goStep l0 r13 ((3 : Int32) * (((16 : Int32) * l1) + l2)) M11).bind (fun x => match x with | (_, M15) => some (.inl ((l2 + (1 : Int32)), M15)))))))))))))))))) else some (.inr (l2, M))))))))
set_option maxRecDepth 100000 in
set_option maxHeartbeats 4000000 in
theorem bW_X12_perform_24 {K : q_K} {Q : State → Prop} (C : q_C K yX12_perform cX12_perform 3 (Option.some Jvm.ClassFile.FieldType.int) 134 0 0) (l0 : Nat) (l1 : Int32) (l2 : Int32) (M : q_Mem) {stp : (Int32 × q_Mem) ⊕ (Int32 × q_Mem)} (h : B_X12_perform_24 l0 l1 l2 M = some stp) (kC : ∀ (l2 : Int32) (M : q_Mem), stp = .inl (l2, M) → q_W K 3 Q 0 0 M 24 [some (.ref l0), some (.int l1), some (.int l2)] []) (kE0 : ∀ (l2 : Int32) (M : q_Mem), stp = .inr (l2, M) → q_W K 3 Q 0 0 M 79 [none, none, some (.int l2)] []) : q_W K 3 Q 0 0 M 24 [some (.ref l0), some (.int l1), some (.int l2)] [] := by
  unfold B_X12_perform_24 at h
  refine q_iload_n C dX12_perform_24 rfl ?_
  refine q_aload_n C dX12_perform_25 rfl ?_
  refine x_getR (ci := 12) (j := 25) C dX12_perform_26 lkF_X12_58 rfl h (fun c4 h => ?_)
  refine x_nn h (fun r5 h => ?_)
  refine q_iload_n C dX12_perform_29 rfl ?_
  refine x_iald C dX12_perform_30 h (fun v6 h => ?_)
  refine q_icmp_ge (tgt := 79) C dX12_perform_31 (by decide) h (fun _ h => ?_) (fun _ h => ?_)
  · refine q_aload_n C dX12_perform_34 rfl ?_
    refine q_aload_n C dX12_perform_35 rfl ?_
    refine x_getR (ci := 12) (j := 32) C dX12_perform_36 lkF_X12_61 rfl h (fun c7 h => ?_)
    refine x_nn h (fun r8 h => ?_)
    refine x_iconst (v := (3 : Int32)) C dX12_perform_39 (by decide) ?_
    refine x_bipush (v := (16 : Int32)) C dX12_perform_40 (by decide) ?_
    refine q_iload_n C dX12_perform_42 rfl ?_
    refine q_imul C dX12_perform_43 ?_
    refine q_iload_n C dX12_perform_44 rfl ?_
    refine q_iadd C dX12_perform_45 ?_
    refine q_imul C dX12_perform_46 ?_
    obtain ⟨hk, h⟩ := q_obE h
    obtain ⟨u9, e1, h⟩ := q_bind h
    refine x_callV0 C dX12_perform_47 lkM_X12_413 mV_X12_canStep ⟨_, rfl, rfl⟩ hk (c_X12_canStep _ _ _ _ _ _ e1) rfl rfl (Nat.le_of_ble_eq_true rfl) (by decide) (by decide) ?_
    refine q_if_eq (tgt := 79) C dX12_perform_50 (by decide) h (fun _ h => ?_) (fun _ h => ?_)
    · exact q_msk [false, false, true] (kE0 _ _ (Option.some.inj h).symm)
    · refine q_aload_n C dX12_perform_53 rfl ?_
      obtain ⟨hk, h⟩ := q_obE h
      obtain ⟨⟨_, M11⟩, e1, h⟩ := q_bind h
      refine x_callVv0 C dX12_perform_54 lkM_X12_367 mV_X12_remember ⟨_, rfl, rfl⟩ hk (c_X12_remember _ _ _ _ e1) rfl rfl (Nat.le_of_ble_eq_true rfl) (by decide) (by decide) ?_
      refine q_aload_n C dX12_perform_57 rfl ?_
      refine q_aload_n C dX12_perform_58 rfl ?_
      refine x_getR (ci := 12) (j := 32) C dX12_perform_59 lkF_X12_61 rfl h (fun c12 h => ?_)
      refine x_nn h (fun r13 h => ?_)
      refine x_iconst (v := (3 : Int32)) C dX12_perform_62 (by decide) ?_
      refine x_bipush (v := (16 : Int32)) C dX12_perform_63 (by decide) ?_
      refine q_iload_n C dX12_perform_65 rfl ?_
      refine q_imul C dX12_perform_66 ?_
      refine q_iload_n C dX12_perform_67 rfl ?_
      refine q_iadd C dX12_perform_68 ?_
      refine q_imul C dX12_perform_69 ?_
      obtain ⟨hk, h⟩ := q_obE h
      obtain ⟨⟨_, M15⟩, e1, h⟩ := q_bind h
      refine x_callVv0 C dX12_perform_70 lkM_X12_416 mV_X12_goStep ⟨_, rfl, rfl⟩ hk (c_X12_goStep _ _ _ _ _ _ e1) rfl rfl (Nat.le_of_ble_eq_true rfl) (by decide) (by decide) ?_
      refine x_iinc (w := (1 : Int32)) (L' := [some (.ref l0), some (.int l1), some (.int (l2 + (1 : Int32)))]) C dX12_perform_73 rfl (by decide) (by decide) rfl rfl ?_
      refine q_goto (tgt := 24) C dX12_perform_76 (by decide) ?_
      exact q_msk [true, true, true] (kC _ _ (Option.some.inj h).symm)
  · exact q_msk [false, false, true] (kE0 _ _ (Option.some.inj h).symm)
set_option maxRecDepth 100000 in
set_option maxHeartbeats 4000000 in
theorem lW_X12_perform_24 {K : q_K} {Q : State → Prop} (C : q_C K yX12_perform cX12_perform 3 (Option.some Jvm.ClassFile.FieldType.int) 134 0 0) (l0 : Nat) (l1 : Int32) (n : Nat) : ∀ (l2 : Int32) (M : q_Mem) (e : (Int32 × q_Mem)), q_lp (fun s => B_X12_perform_24 l0 l1 s.1 s.2) n (l2, M) = some e → (∀ (l2 : Int32) (M : q_Mem), e = (l2, M) → q_W K 3 Q 0 0 M 79 [none, none, some (.int l2)] []) → q_W K 3 Q 0 0 M 24 [some (.ref l0), some (.int l1), some (.int l2)] [] := by
  induction n with
  | zero => intro l2 M e h; cases h
  | succ n ih =>
    intro l2 M e h kE0
    obtain ⟨stp, e1, e2⟩ := q_bind h
    refine bW_X12_perform_24 C l0 l1 l2 M e1 (fun a0 a1 hs => ?_) (fun b0 b1 hs => ?_)
    · subst hs; exact ih _ _ _ e2 kE0
    · subst hs; exact kE0 _ _ (Option.some.inj e2).symm
noncomputable def F_X12_perform (l0 : Nat) (l1 : Int32) (M : q_Mem) : Option (Int32 × q_Mem) := (q_pI M l0 12 0 (0 : Int32) (fun M1 => (q_ob M1 l0 12 ((F_X12_isWeek l0 l1 M1).bind (fun u2 => (if u2 = 0 then some ((-1 : Int32), M1) else (q_gI M1 l0 12 27 (fun v3 => (if v3 = 0 then some ((-1 : Int32), M1) else (q_lp (fun s => B_X12_perform_24 l0 l1 s.1 s.2) q_fu ((0 : Int32), M1)).bind (fun e16 => match e16 with | (w17, M18) => some (w17, M18)))))))))))
set_option maxRecDepth 100000 in
set_option maxHeartbeats 4000000 in
theorem c_X12_perform (l : Launch) (G : q_G) (l0 : Nat) (l1 : Int32) (M : q_Mem) {r : Int32} {M' : q_Mem} (h : F_X12_perform l0 l1 M = some (r, M')) : q_Met l G yX12_perform cX12_perform 3 (Option.some Jvm.ClassFile.FieldType.int) 134 0 0 [.ref l0, .int l1] M (some (.int r)) M' := by
  unfold F_X12_perform at h
  refine q_enter [some (.ref l0), some (.int l1), none] (by decide) (Nat.le_of_ble_eq_true rfl) rfl (fun K C => ?_)
  refine q_aload_n C dX12_perform_0 rfl ?_
  refine x_iconst (v := (0 : Int32)) C dX12_perform_1 (by decide) ?_
  refine x_putI (ci := 12) (j := 0) C dX12_perform_2 lkF_X12_92 (fun r hr => by cases hr; rfl) rfl h (fun M1 h => ?_)
  refine q_aload_n C dX12_perform_5 rfl ?_
  refine q_iload_n C dX12_perform_6 rfl ?_
  obtain ⟨hk, h⟩ := q_obE h
  obtain ⟨u2, e1, h⟩ := q_bind h
  refine x_callV0 C dX12_perform_7 lkM_X12_406 mV_X12_isWeek ⟨_, rfl, rfl⟩ hk (c_X12_isWeek _ _ _ _ _ e1) rfl rfl (Nat.le_of_ble_eq_true rfl) (by decide) (by decide) ?_
  refine q_if_eq (tgt := 20) C dX12_perform_10 (by decide) h (fun _ h => ?_) (fun _ h => ?_)
  · refine x_iconst (v := (-1 : Int32)) C dX12_perform_20 (by decide) ?_
    exact q_iret C dX12_perform_21 rfl (by decide) (by decide) (Option.some.inj h)
  · refine q_aload_n C dX12_perform_13 rfl ?_
    refine x_getI (ci := 12) (j := 27) C dX12_perform_14 lkF_X12_287 rfl h (fun v3 h => ?_)
    refine q_if_ne (tgt := 22) C dX12_perform_17 (by decide) h (fun _ h => ?_) (fun _ h => ?_)
    · refine x_iconst (v := (-1 : Int32)) C dX12_perform_20 (by decide) ?_
      exact q_iret C dX12_perform_21 rfl (by decide) (by decide) (Option.some.inj h)
    · refine x_iconst (v := (0 : Int32)) C dX12_perform_22 (by decide) ?_
      refine q_istore_n (L' := [some (.ref l0), some (.int l1), some (.int (0 : Int32))]) C dX12_perform_23 (by decide) rfl rfl ?_
      obtain ⟨e16, he, h⟩ := q_bind h
      refine q_msk [true, true, true] (lW_X12_perform_24 C l0 l1 q_fu _ _ _ he (fun w17 M18 hs => ?_))
      · have hs := hs.symm
        subst hs
        refine q_iload_n C dX12_perform_79 rfl ?_
        exact q_iret C dX12_perform_80 rfl (by decide) (by decide) (Option.some.inj h)
noncomputable def B_X12_goOn_13 (l0 : Nat) (l1 : Int32) (l2 : Int32) (M : q_Mem) : Option ((Int32 × q_Mem) ⊕ (q_Mem)) := (if l2 < l1 then (q_gR M l0 12 33 (fun c7 => q_nn c7 (fun r8 => (q_ob M l0 12 ((F_X12_goDay l0 r8 M).bind (fun x => match x with | (u9, M10) => some (.inl ((l2 + (1 : Int32)), M10)))))))) else some (.inr M))
set_option maxRecDepth 100000 in
set_option maxHeartbeats 4000000 in
theorem bW_X12_goOn_13 {K : q_K} {Q : State → Prop} (C : q_C K yX12_goOn cX12_goOn 4 (Option.none : Option Jvm.ClassFile.FieldType) 133 0 0) (l0 : Nat) (l1 : Int32) (l2 : Int32) (M : q_Mem) {stp : (Int32 × q_Mem) ⊕ (q_Mem)} (h : B_X12_goOn_13 l0 l1 l2 M = some stp) (kC : ∀ (l2 : Int32) (M : q_Mem), stp = .inl (l2, M) → q_W K 4 Q 0 0 M 13 [some (.ref l0), some (.int l1), some (.int l2), none] []) (kE0 : ∀ (M : q_Mem), stp = .inr M → q_W K 4 Q 0 0 M 33 [none, none, none, none] []) : q_W K 4 Q 0 0 M 13 [some (.ref l0), some (.int l1), some (.int l2), none] [] := by
  unfold B_X12_goOn_13 at h
  refine q_iload_n C dX12_goOn_13 rfl ?_
  refine q_iload_n C dX12_goOn_14 rfl ?_
  refine q_icmp_ge (tgt := 33) C dX12_goOn_15 (by decide) h (fun _ h => ?_) (fun _ h => ?_)
  · refine q_aload_n C dX12_goOn_18 rfl ?_
    refine q_aload_n C dX12_goOn_19 rfl ?_
    refine x_getR (ci := 12) (j := 33) C dX12_goOn_20 lkF_X12_64 rfl h (fun c7 h => ?_)
    refine x_nn h (fun r8 h => ?_)
    obtain ⟨hk, h⟩ := q_obE h
    obtain ⟨⟨u9, M10⟩, e1, h⟩ := q_bind h
    refine x_callV0 C dX12_goOn_23 lkM_X12_370 mV_X12_goDay ⟨_, rfl, rfl⟩ hk (c_X12_goDay _ _ _ _ _ e1) rfl rfl (Nat.le_of_ble_eq_true rfl) (by decide) (by decide) ?_
    refine q_istore_n (L' := [some (.ref l0), some (.int l1), some (.int l2), some (.int u9)]) C dX12_goOn_26 (by decide) rfl rfl ?_
    refine x_iinc (w := (1 : Int32)) (L' := [some (.ref l0), some (.int l1), some (.int (l2 + (1 : Int32))), some (.int u9)]) C dX12_goOn_27 rfl (by decide) (by decide) rfl rfl ?_
    refine q_goto (tgt := 13) C dX12_goOn_30 (by decide) ?_
    exact q_msk [true, true, true, false] (kC _ _ (Option.some.inj h).symm)
  · exact q_msk [false, false, false, false] (kE0 _ (Option.some.inj h).symm)
set_option maxRecDepth 100000 in
set_option maxHeartbeats 4000000 in
theorem lW_X12_goOn_13 {K : q_K} {Q : State → Prop} (C : q_C K yX12_goOn cX12_goOn 4 (Option.none : Option Jvm.ClassFile.FieldType) 133 0 0) (l0 : Nat) (l1 : Int32) (n : Nat) : ∀ (l2 : Int32) (M : q_Mem) (e : (q_Mem)), q_lp (fun s => B_X12_goOn_13 l0 l1 s.1 s.2) n (l2, M) = some e → (∀ (M : q_Mem), e = M → q_W K 4 Q 0 0 M 33 [none, none, none, none] []) → q_W K 4 Q 0 0 M 13 [some (.ref l0), some (.int l1), some (.int l2), none] [] := by
  induction n with
  | zero => intro l2 M e h; cases h
  | succ n ih =>
    intro l2 M e h kE0
    obtain ⟨stp, e1, e2⟩ := q_bind h
    refine bW_X12_goOn_13 C l0 l1 l2 M e1 (fun a0 a1 hs => ?_) (fun b0 hs => ?_)
    · subst hs; exact ih _ _ _ e2 kE0
    · subst hs; exact kE0 _ (Option.some.inj e2).symm
noncomputable def F_X12_goOn (l0 : Nat) (l1 : Int32) (M : q_Mem) : Option (Unit × q_Mem) := (q_gR M l0 12 32 (fun c1 => q_nn c1 (fun r2 => (q_gR M l0 12 33 (fun c3 => q_nn c3 (fun r4 => ((F_X12_copy r2 r4 M).bind (fun x => match x with | (_, M6) => (q_lp (fun s => B_X12_goOn_13 l0 l1 s.1 s.2) q_fu ((0 : Int32), M6)).bind (fun e11 => match e11 with | M12 => some ((), M12))))))))))
set_option maxRecDepth 100000 in
set_option maxHeartbeats 4000000 in
theorem c_X12_goOn (l : Launch) (G : q_G) (l0 : Nat) (l1 : Int32) (M : q_Mem) {r : Unit} {M' : q_Mem} (h : F_X12_goOn l0 l1 M = some (r, M')) : q_Met l G yX12_goOn cX12_goOn 4 (Option.none : Option Jvm.ClassFile.FieldType) 133 0 0 [.ref l0, .int l1] M none M' := by
  unfold F_X12_goOn at h
  refine q_enter [some (.ref l0), some (.int l1), none, none] (by decide) (Nat.le_of_ble_eq_true rfl) rfl (fun K C => ?_)
  refine q_aload_n C dX12_goOn_0 rfl ?_
  refine x_getR (ci := 12) (j := 32) C dX12_goOn_1 lkF_X12_61 rfl h (fun c1 h => ?_)
  refine x_nn h (fun r2 h => ?_)
  refine q_aload_n C dX12_goOn_4 rfl ?_
  refine x_getR (ci := 12) (j := 33) C dX12_goOn_5 lkF_X12_64 rfl h (fun c3 h => ?_)
  refine x_nn h (fun r4 h => ?_)
  obtain ⟨⟨_, M6⟩, e1, h⟩ := q_bind h
  refine x_callSv0 C dX12_goOn_8 lkM_X12_409 mS_X12_copy (c_X12_copy _ _ _ _ _ e1) rfl rfl (Nat.le_of_ble_eq_true rfl) (by decide) (by decide) ?_
  refine x_iconst (v := (0 : Int32)) C dX12_goOn_11 (by decide) ?_
  refine q_istore_n (L' := [some (.ref l0), some (.int l1), some (.int (0 : Int32)), none]) C dX12_goOn_12 (by decide) rfl rfl ?_
  obtain ⟨e11, he, h⟩ := q_bind h
  refine q_msk [true, true, true, false] (lW_X12_goOn_13 C l0 l1 q_fu _ _ _ he (fun M12 hs => ?_))
  · have hs := hs.symm
    subst hs
    exact q_vret C dX12_goOn_33 rfl (by decide) (by decide) (Option.some.inj h)
noncomputable def F_X12_serves_ (l0 : Nat) (l1 : Int32) (l2 : Int32) (M : q_Mem) : Option (Int32 × q_Mem) := (q_pI M l0 12 0 (0 : Int32) (fun M1 => (q_gI M1 l0 12 27 (fun v2 => (if v2 = 0 then some ((-1 : Int32), M1) else ((F_X12_isIn l1.toInt64 (0 : Int64) (20 : Int64) M1).bind (fun u3 => (if u3 = 0 then some ((-1 : Int32), M1) else ((F_X12_isIn l2.toInt64 (0 : Int64) (2 : Int64) M1).bind (fun u4 => (if u4 = 0 then some ((-1 : Int32), M1) else (q_ob M1 l0 12 ((F_X12_goOn l0 l1 M1).bind (fun x => match x with | (_, M6) => (q_gR M6 l0 12 33 (fun c7 => q_nn c7 (fun r8 => (q_ob M6 l0 12 ((F_X12_goTable l0 r8 M6).bind (fun x => match x with | (_, M10) => (q_gI M10 l0 12 37 (fun v11 => (if v11 = (-1 : Int32) then some ((-1 : Int32), M10) else (if l2 = 0 then (q_gI M10 l0 12 37 (fun v12 => some (v12, M10))) else (if l2 = (1 : Int32) then (q_gI M10 l0 12 38 (fun v13 => some (v13, M10))) else (q_gI M10 l0 12 39 (fun v14 => some (v14, M10))))))))))))))))))))))))))))
set_option maxRecDepth 100000 in
set_option maxHeartbeats 4000000 in
theorem c_X12_serves_ (l : Launch) (G : q_G) (l0 : Nat) (l1 : Int32) (l2 : Int32) (M : q_Mem) {r : Int32} {M' : q_Mem} (h : F_X12_serves_ l0 l1 l2 M = some (r, M')) : q_Met l G yX12_serves_ cX12_serves_ 3 (Option.some Jvm.ClassFile.FieldType.int) 134 0 0 [.ref l0, .int l1, .int l2] M (some (.int r)) M' := by
  unfold F_X12_serves_ at h
  refine q_enter [some (.ref l0), some (.int l1), some (.int l2)] (by decide) (Nat.le_of_ble_eq_true rfl) rfl (fun K C => ?_)
  refine q_aload_n C dX12_serves__0 rfl ?_
  refine x_iconst (v := (0 : Int32)) C dX12_serves__1 (by decide) ?_
  refine x_putI (ci := 12) (j := 0) C dX12_serves__2 lkF_X12_92 (fun r hr => by cases hr; rfl) rfl h (fun M1 h => ?_)
  refine q_aload_n C dX12_serves__5 rfl ?_
  refine x_getI (ci := 12) (j := 27) C dX12_serves__6 lkF_X12_287 rfl h (fun v2 h => ?_)
  refine q_if_eq (tgt := 36) C dX12_serves__9 (by decide) h (fun _ h => ?_) (fun _ h => ?_)
  · refine x_iconst (v := (-1 : Int32)) C dX12_serves__36 (by decide) ?_
    exact q_iret C dX12_serves__37 rfl (by decide) (by decide) (Option.some.inj h)
  · refine q_iload_n C dX12_serves__12 rfl ?_
    refine q_i2l C dX12_serves__13 ?_
    refine x_lconst (v := (0 : Int64)) C dX12_serves__14 (by decide) ?_
    refine q_ldc2 (v := (20 : Int64)) C dX12_serves__15 wd_1706 ?_
    obtain ⟨u3, e1, h⟩ := q_bind h
    refine x_callS0 C dX12_serves__18 lkM_X12_213 mS_X12_isIn (c_X12_isIn _ _ _ _ _ _ e1) rfl rfl (Nat.le_of_ble_eq_true rfl) (by decide) (by decide) ?_
    refine q_if_eq (tgt := 36) C dX12_serves__21 (by decide) h (fun _ h => ?_) (fun _ h => ?_)
    · refine x_iconst (v := (-1 : Int32)) C dX12_serves__36 (by decide) ?_
      exact q_iret C dX12_serves__37 rfl (by decide) (by decide) (Option.some.inj h)
    · refine q_iload_n C dX12_serves__24 rfl ?_
      refine q_i2l C dX12_serves__25 ?_
      refine x_lconst (v := (0 : Int64)) C dX12_serves__26 (by decide) ?_
      refine q_ldc2 (v := (2 : Int64)) C dX12_serves__27 wd_1373 ?_
      obtain ⟨u4, e1, h⟩ := q_bind h
      refine x_callS0 C dX12_serves__30 lkM_X12_213 mS_X12_isIn (c_X12_isIn _ _ _ _ _ _ e1) rfl rfl (Nat.le_of_ble_eq_true rfl) (by decide) (by decide) ?_
      refine q_if_ne (tgt := 38) C dX12_serves__33 (by decide) h (fun _ h => ?_) (fun _ h => ?_)
      · refine x_iconst (v := (-1 : Int32)) C dX12_serves__36 (by decide) ?_
        exact q_iret C dX12_serves__37 rfl (by decide) (by decide) (Option.some.inj h)
      · refine q_aload_n C dX12_serves__38 rfl ?_
        refine q_iload_n C dX12_serves__39 rfl ?_
        obtain ⟨hk, h⟩ := q_obE h
        obtain ⟨⟨_, M6⟩, e1, h⟩ := q_bind h
        refine x_callVv0 C dX12_serves__40 lkM_X12_422 mV_X12_goOn ⟨_, rfl, rfl⟩ hk (c_X12_goOn _ _ _ _ _ e1) rfl rfl (Nat.le_of_ble_eq_true rfl) (by decide) (by decide) ?_
        refine q_aload_n C dX12_serves__43 rfl ?_
        refine q_aload_n C dX12_serves__44 rfl ?_
        refine x_getR (ci := 12) (j := 33) C dX12_serves__45 lkF_X12_64 rfl h (fun c7 h => ?_)
        refine x_nn h (fun r8 h => ?_)
        obtain ⟨hk, h⟩ := q_obE h
        obtain ⟨⟨_, M10⟩, e1, h⟩ := q_bind h
        refine x_callVv0 C dX12_serves__48 lkM_X12_341 mV_X12_goTable ⟨_, rfl, rfl⟩ hk (c_X12_goTable _ _ _ _ _ e1) rfl rfl (Nat.le_of_ble_eq_true rfl) (by decide) (by decide) ?_
        refine q_aload_n C dX12_serves__51 rfl ?_
        refine x_getI (ci := 12) (j := 37) C dX12_serves__52 lkF_X12_313 rfl h (fun v11 h => ?_)
        refine x_iconst (v := (-1 : Int32)) C dX12_serves__55 (by decide) ?_
        refine q_icmp_ne (tgt := 61) C dX12_serves__56 (by decide) h (fun _ h => ?_) (fun _ h => ?_)
        · refine x_iconst (v := (-1 : Int32)) C dX12_serves__59 (by decide) ?_
          exact q_iret C dX12_serves__60 rfl (by decide) (by decide) (Option.some.inj h)
        · refine q_iload_n C dX12_serves__61 rfl ?_
          refine q_if_ne (tgt := 72) C dX12_serves__62 (by decide) h (fun _ h => ?_) (fun _ h => ?_)
          · refine q_aload_n C dX12_serves__65 rfl ?_
            refine x_getI (ci := 12) (j := 37) C dX12_serves__66 lkF_X12_313 rfl h (fun v12 h => ?_)
            refine q_goto (tgt := 88) C dX12_serves__69 (by decide) ?_
            exact q_iret C dX12_serves__88 rfl (by decide) (by decide) (Option.some.inj h)
          · refine q_iload_n C dX12_serves__72 rfl ?_
            refine x_iconst (v := (1 : Int32)) C dX12_serves__73 (by decide) ?_
            refine q_icmp_ne (tgt := 84) C dX12_serves__74 (by decide) h (fun _ h => ?_) (fun _ h => ?_)
            · refine q_aload_n C dX12_serves__77 rfl ?_
              refine x_getI (ci := 12) (j := 38) C dX12_serves__78 lkF_X12_319 rfl h (fun v13 h => ?_)
              refine q_goto (tgt := 88) C dX12_serves__81 (by decide) ?_
              exact q_iret C dX12_serves__88 rfl (by decide) (by decide) (Option.some.inj h)
            · refine q_aload_n C dX12_serves__84 rfl ?_
              refine x_getI (ci := 12) (j := 39) C dX12_serves__85 lkF_X12_316 rfl h (fun v14 h => ?_)
              exact q_iret C dX12_serves__88 rfl (by decide) (by decide) (Option.some.inj h)
noncomputable def F_X12_there (l0 : Nat) (l1 : Int32) (M : q_Mem) : Option (Int32 × q_Mem) := (q_pI M l0 12 0 (0 : Int32) (fun M1 => (q_gI M1 l0 12 27 (fun v2 => (if v2 = 0 then some ((-1 : Int32), M1) else ((F_X12_isIn l1.toInt64 (0 : Int64) (20 : Int64) M1).bind (fun u3 => (if u3 = 0 then some ((-1 : Int32), M1) else (q_ob M1 l0 12 ((F_X12_goOn l0 l1 M1).bind (fun x => match x with | (_, M5) => (q_gR M5 l0 12 33 (fun c6 => q_nn c6 (fun r7 => (q_ob M5 l0 12 ((F_X12_thereBits l0 r7 M5).bind (fun u8 => some (u8, M5))))))))))))))))))
set_option maxRecDepth 100000 in
set_option maxHeartbeats 4000000 in
theorem c_X12_there (l : Launch) (G : q_G) (l0 : Nat) (l1 : Int32) (M : q_Mem) {r : Int32} {M' : q_Mem} (h : F_X12_there l0 l1 M = some (r, M')) : q_Met l G yX12_there cX12_there 2 (Option.some Jvm.ClassFile.FieldType.int) 134 0 0 [.ref l0, .int l1] M (some (.int r)) M' := by
  unfold F_X12_there at h
  refine q_enter [some (.ref l0), some (.int l1)] (by decide) (Nat.le_of_ble_eq_true rfl) rfl (fun K C => ?_)
  refine q_aload_n C dX12_there_0 rfl ?_
  refine x_iconst (v := (0 : Int32)) C dX12_there_1 (by decide) ?_
  refine x_putI (ci := 12) (j := 0) C dX12_there_2 lkF_X12_92 (fun r hr => by cases hr; rfl) rfl h (fun M1 h => ?_)
  refine q_aload_n C dX12_there_5 rfl ?_
  refine x_getI (ci := 12) (j := 27) C dX12_there_6 lkF_X12_287 rfl h (fun v2 h => ?_)
  refine q_if_eq (tgt := 24) C dX12_there_9 (by decide) h (fun _ h => ?_) (fun _ h => ?_)
  · refine x_iconst (v := (-1 : Int32)) C dX12_there_24 (by decide) ?_
    exact q_iret C dX12_there_25 rfl (by decide) (by decide) (Option.some.inj h)
  · refine q_iload_n C dX12_there_12 rfl ?_
    refine q_i2l C dX12_there_13 ?_
    refine x_lconst (v := (0 : Int64)) C dX12_there_14 (by decide) ?_
    refine q_ldc2 (v := (20 : Int64)) C dX12_there_15 wd_1706 ?_
    obtain ⟨u3, e1, h⟩ := q_bind h
    refine x_callS0 C dX12_there_18 lkM_X12_213 mS_X12_isIn (c_X12_isIn _ _ _ _ _ _ e1) rfl rfl (Nat.le_of_ble_eq_true rfl) (by decide) (by decide) ?_
    refine q_if_ne (tgt := 26) C dX12_there_21 (by decide) h (fun _ h => ?_) (fun _ h => ?_)
    · refine x_iconst (v := (-1 : Int32)) C dX12_there_24 (by decide) ?_
      exact q_iret C dX12_there_25 rfl (by decide) (by decide) (Option.some.inj h)
    · refine q_aload_n C dX12_there_26 rfl ?_
      refine q_iload_n C dX12_there_27 rfl ?_
      obtain ⟨hk, h⟩ := q_obE h
      obtain ⟨⟨_, M5⟩, e1, h⟩ := q_bind h
      refine x_callVv0 C dX12_there_28 lkM_X12_422 mV_X12_goOn ⟨_, rfl, rfl⟩ hk (c_X12_goOn _ _ _ _ _ e1) rfl rfl (Nat.le_of_ble_eq_true rfl) (by decide) (by decide) ?_
      refine q_aload_n C dX12_there_31 rfl ?_
      refine q_aload_n C dX12_there_32 rfl ?_
      refine x_getR (ci := 12) (j := 33) C dX12_there_33 lkF_X12_64 rfl h (fun c6 h => ?_)
      refine x_nn h (fun r7 h => ?_)
      obtain ⟨hk, h⟩ := q_obE h
      obtain ⟨u8, e1, h⟩ := q_bind h
      refine x_callV0 C dX12_there_36 lkM_X12_326 mV_X12_thereBits ⟨_, rfl, rfl⟩ hk (c_X12_thereBits _ _ _ _ _ e1) rfl rfl (Nat.le_of_ble_eq_true rfl) (by decide) (by decide) ?_
      exact q_iret C dX12_there_39 rfl (by decide) (by decide) (Option.some.inj h)
noncomputable def F_X12_tableNow (l0 : Nat) (M : q_Mem) : Option (Unit × q_Mem) := (q_ob M l0 12 ((F_X12_goOn l0 (0 : Int32) M).bind (fun x => match x with | (_, M2) => (q_gR M2 l0 12 33 (fun c3 => q_nn c3 (fun r4 => (q_ob M2 l0 12 ((F_X12_goTable l0 r4 M2).bind (fun x => match x with | (_, M6) => some ((), M6))))))))))
set_option maxRecDepth 100000 in
set_option maxHeartbeats 4000000 in
theorem c_X12_tableNow (l : Launch) (G : q_G) (l0 : Nat) (M : q_Mem) {r : Unit} {M' : q_Mem} (h : F_X12_tableNow l0 M = some (r, M')) : q_Met l G yX12_tableNow cX12_tableNow 1 (Option.none : Option Jvm.ClassFile.FieldType) 134 0 0 [.ref l0] M none M' := by
  unfold F_X12_tableNow at h
  refine q_enter [some (.ref l0)] (by decide) (Nat.le_of_ble_eq_true rfl) rfl (fun K C => ?_)
  refine q_aload_n C dX12_tableNow_0 rfl ?_
  refine x_iconst (v := (0 : Int32)) C dX12_tableNow_1 (by decide) ?_
  obtain ⟨hk, h⟩ := q_obE h
  obtain ⟨⟨_, M2⟩, e1, h⟩ := q_bind h
  refine x_callVv0 C dX12_tableNow_2 lkM_X12_422 mV_X12_goOn ⟨_, rfl, rfl⟩ hk (c_X12_goOn _ _ _ _ _ e1) rfl rfl (Nat.le_of_ble_eq_true rfl) (by decide) (by decide) ?_
  refine q_aload_n C dX12_tableNow_5 rfl ?_
  refine q_aload_n C dX12_tableNow_6 rfl ?_
  refine x_getR (ci := 12) (j := 33) C dX12_tableNow_7 lkF_X12_64 rfl h (fun c3 h => ?_)
  refine x_nn h (fun r4 h => ?_)
  obtain ⟨hk, h⟩ := q_obE h
  obtain ⟨⟨_, M6⟩, e1, h⟩ := q_bind h
  refine x_callVv0 C dX12_tableNow_10 lkM_X12_341 mV_X12_goTable ⟨_, rfl, rfl⟩ hk (c_X12_goTable _ _ _ _ _ e1) rfl rfl (Nat.le_of_ble_eq_true rfl) (by decide) (by decide) ?_
  exact q_vret C dX12_tableNow_13 rfl (by decide) (by decide) (Option.some.inj h)
noncomputable def F_X12_fed (l0 : Nat) (l1 : Int32) (M : q_Mem) : Option (Int32 × q_Mem) := (q_pI M l0 12 0 (0 : Int32) (fun M1 => (q_ob M1 l0 12 ((F_X12_isGuest l0 l1 M1).bind (fun u2 => (if u2 = 0 then some ((-1 : Int32), M1) else (q_gR M1 l0 12 32 (fun c3 => q_nn c3 (fun r4 => (q_ob M1 l0 12 ((F_X12_isThere l0 r4 l1 M1).bind (fun u5 => (if u5 = 0 then some ((-1 : Int32), M1) else (q_ob M1 l0 12 ((F_X12_tableNow l0 M1).bind (fun x => match x with | (_, M7) => (q_gR M7 l0 12 36 (fun c8 => q_nn c8 (fun r9 => (q_lI M7 0 r9 l1 (fun v10 => some (v10, M7))))))))))))))))))))))
set_option maxRecDepth 100000 in
set_option maxHeartbeats 4000000 in
theorem c_X12_fed (l : Launch) (G : q_G) (l0 : Nat) (l1 : Int32) (M : q_Mem) {r : Int32} {M' : q_Mem} (h : F_X12_fed l0 l1 M = some (r, M')) : q_Met l G yX12_fed cX12_fed 2 (Option.some Jvm.ClassFile.FieldType.int) 135 0 0 [.ref l0, .int l1] M (some (.int r)) M' := by
  unfold F_X12_fed at h
  refine q_enter [some (.ref l0), some (.int l1)] (by decide) (Nat.le_of_ble_eq_true rfl) rfl (fun K C => ?_)
  refine q_aload_n C dX12_fed_0 rfl ?_
  refine x_iconst (v := (0 : Int32)) C dX12_fed_1 (by decide) ?_
  refine x_putI (ci := 12) (j := 0) C dX12_fed_2 lkF_X12_92 (fun r hr => by cases hr; rfl) rfl h (fun M1 h => ?_)
  refine q_aload_n C dX12_fed_5 rfl ?_
  refine q_iload_n C dX12_fed_6 rfl ?_
  obtain ⟨hk, h⟩ := q_obE h
  obtain ⟨u2, e1, h⟩ := q_bind h
  refine x_callV0 C dX12_fed_7 lkM_X12_360 mV_X12_isGuest ⟨_, rfl, rfl⟩ hk (c_X12_isGuest _ _ _ _ _ e1) rfl rfl (Nat.le_of_ble_eq_true rfl) (by decide) (by decide) ?_
  refine q_if_eq (tgt := 25) C dX12_fed_10 (by decide) h (fun _ h => ?_) (fun _ h => ?_)
  · refine x_iconst (v := (-1 : Int32)) C dX12_fed_25 (by decide) ?_
    exact q_iret C dX12_fed_26 rfl (by decide) (by decide) (Option.some.inj h)
  · refine q_aload_n C dX12_fed_13 rfl ?_
    refine q_aload_n C dX12_fed_14 rfl ?_
    refine x_getR (ci := 12) (j := 32) C dX12_fed_15 lkF_X12_61 rfl h (fun c3 h => ?_)
    refine x_nn h (fun r4 h => ?_)
    refine q_iload_n C dX12_fed_18 rfl ?_
    obtain ⟨hk, h⟩ := q_obE h
    obtain ⟨u5, e1, h⟩ := q_bind h
    refine x_callV0 C dX12_fed_19 lkM_X12_302 mV_X12_isThere ⟨_, rfl, rfl⟩ hk (c_X12_isThere _ _ _ _ _ _ e1) rfl rfl (Nat.le_of_ble_eq_true rfl) (by decide) (by decide) ?_
    refine q_if_ne (tgt := 27) C dX12_fed_22 (by decide) h (fun _ h => ?_) (fun _ h => ?_)
    · refine x_iconst (v := (-1 : Int32)) C dX12_fed_25 (by decide) ?_
      exact q_iret C dX12_fed_26 rfl (by decide) (by decide) (Option.some.inj h)
    · refine q_aload_n C dX12_fed_27 rfl ?_
      obtain ⟨hk, h⟩ := q_obE h
      obtain ⟨⟨_, M7⟩, e1, h⟩ := q_bind h
      refine x_callVv0 C dX12_fed_28 lkM_X12_425 mV_X12_tableNow ⟨_, rfl, rfl⟩ hk (c_X12_tableNow _ _ _ _ e1) rfl rfl (Nat.le_of_ble_eq_true rfl) (by decide) (by decide) ?_
      refine q_aload_n C dX12_fed_31 rfl ?_
      refine x_getR (ci := 12) (j := 36) C dX12_fed_32 lkF_X12_74 rfl h (fun c8 h => ?_)
      refine x_nn h (fun r9 h => ?_)
      refine q_iload_n C dX12_fed_35 rfl ?_
      refine x_iald C dX12_fed_36 h (fun v10 h => ?_)
      exact q_iret C dX12_fed_37 rfl (by decide) (by decide) (Option.some.inj h)
noncomputable def J_X12_best_172_102 (l0 : Nat) (l1 : Int32) (l2 : Int32) (l3 : Int32) (l4 : Int32) (l5 : Int32) (l6 : Int32) (l7 : Int32) (l8 : Int32) (l9 : Int32) (M : q_Mem) : Option ((Int32 × Int32 × Int32 × q_Mem) ⊕ (Int32 × q_Mem)) := some (.inl (l7, l8, (l9 + (1 : Int32)), M))
set_option maxRecDepth 100000 in
set_option maxHeartbeats 4000000 in
theorem jW_X12_best_172_102 {K : q_K} {Q : State → Prop} (C : q_C K yX12_best cX12_best 11 (Option.some Jvm.ClassFile.FieldType.int) 133 0 0) (l0 : Nat) (l1 : Int32) (l2 : Int32) (l3 : Int32) (l4 : Int32) (l5 : Int32) (l6 : Int32) (l7 : Int32) (l8 : Int32) (l9 : Int32) (M : q_Mem) {stp : (Int32 × Int32 × Int32 × q_Mem) ⊕ (Int32 × q_Mem)} (h : J_X12_best_172_102 l0 l1 l2 l3 l4 l5 l6 l7 l8 l9 M = some stp) (kC : ∀ (l7 : Int32) (l8 : Int32) (l9 : Int32) (M : q_Mem), stp = .inl (l7, l8, l9, M) → q_W K 11 Q 0 0 M 102 [some (.ref l0), some (.int l1), some (.int l2), some (.int l3), some (.int l4), some (.int l5), some (.int l6), some (.int l7), some (.int l8), some (.int l9), none] []) (kE0 : ∀ (l7 : Int32) (M : q_Mem), stp = .inr (l7, M) → q_W K 11 Q 0 0 M 178 [some (.ref l0), some (.int l1), some (.int l2), some (.int l3), some (.int l4), some (.int l5), some (.int l6), some (.int l7), none, none, none] []) : q_W K 11 Q 0 0 M 172 [some (.ref l0), some (.int l1), some (.int l2), some (.int l3), some (.int l4), some (.int l5), some (.int l6), some (.int l7), some (.int l8), some (.int l9), none] [] := by
  unfold J_X12_best_172_102 at h
  refine x_iinc (w := (1 : Int32)) (L' := [some (.ref l0), some (.int l1), some (.int l2), some (.int l3), some (.int l4), some (.int l5), some (.int l6), some (.int l7), some (.int l8), some (.int (l9 + (1 : Int32))), none]) C dX12_best_172 rfl (by decide) (by decide) rfl rfl ?_
  refine q_goto (tgt := 102) C dX12_best_175 (by decide) ?_
  exact q_msk [true, true, true, true, true, true, true, true, true, true, false] (kC _ _ _ _ (Option.some.inj h).symm)
noncomputable def J_X12_best_157_102 (l0 : Nat) (l1 : Int32) (l2 : Int32) (l3 : Int32) (l4 : Int32) (l5 : Int32) (l6 : Int32) (l7 : Int32) (l8 : Int32) (l9 : Int32) (M : q_Mem) : Option ((Int32 × Int32 × Int32 × q_Mem) ⊕ (Int32 × q_Mem)) := (if l7 = 0 then J_X12_best_172_102 l0 l1 l2 l3 l4 l5 l6 l7 l8 l9 M else (q_gR M l0 12 33 (fun c19 => q_nn c19 (fun r20 => (q_ob M l0 12 ((F_X12_goDay l0 r20 M).bind (fun x => match x with | (u21, M22) => J_X12_best_172_102 l0 l1 l2 l3 l4 l5 l6 l7 l8 l9 M22)))))))
set_option maxRecDepth 100000 in
set_option maxHeartbeats 4000000 in
theorem jW_X12_best_157_102 {K : q_K} {Q : State → Prop} (C : q_C K yX12_best cX12_best 11 (Option.some Jvm.ClassFile.FieldType.int) 133 0 0) (l0 : Nat) (l1 : Int32) (l2 : Int32) (l3 : Int32) (l4 : Int32) (l5 : Int32) (l6 : Int32) (l7 : Int32) (l8 : Int32) (l9 : Int32) (M : q_Mem) {stp : (Int32 × Int32 × Int32 × q_Mem) ⊕ (Int32 × q_Mem)} (h : J_X12_best_157_102 l0 l1 l2 l3 l4 l5 l6 l7 l8 l9 M = some stp) (kC : ∀ (l7 : Int32) (l8 : Int32) (l9 : Int32) (M : q_Mem), stp = .inl (l7, l8, l9, M) → q_W K 11 Q 0 0 M 102 [some (.ref l0), some (.int l1), some (.int l2), some (.int l3), some (.int l4), some (.int l5), some (.int l6), some (.int l7), some (.int l8), some (.int l9), none] []) (kE0 : ∀ (l7 : Int32) (M : q_Mem), stp = .inr (l7, M) → q_W K 11 Q 0 0 M 178 [some (.ref l0), some (.int l1), some (.int l2), some (.int l3), some (.int l4), some (.int l5), some (.int l6), some (.int l7), none, none, none] []) : q_W K 11 Q 0 0 M 157 [some (.ref l0), some (.int l1), some (.int l2), some (.int l3), some (.int l4), some (.int l5), some (.int l6), some (.int l7), some (.int l8), some (.int l9), none] [] := by
  unfold J_X12_best_157_102 at h
  refine q_iload C dX12_best_157 rfl ?_
  refine q_if_eq (tgt := 172) C dX12_best_159 (by decide) h (fun _ h => ?_) (fun _ h => ?_)
  · exact q_msk [true, true, true, true, true, true, true, true, true, true, false] (jW_X12_best_172_102 C l0 l1 l2 l3 l4 l5 l6 l7 l8 l9 M h kC kE0)
  · refine q_aload_n C dX12_best_162 rfl ?_
    refine q_aload_n C dX12_best_163 rfl ?_
    refine x_getR (ci := 12) (j := 33) C dX12_best_164 lkF_X12_64 rfl h (fun c19 h => ?_)
    refine x_nn h (fun r20 h => ?_)
    obtain ⟨hk, h⟩ := q_obE h
    obtain ⟨⟨u21, M22⟩, e1, h⟩ := q_bind h
    refine x_callV0 C dX12_best_167 lkM_X12_370 mV_X12_goDay ⟨_, rfl, rfl⟩ hk (c_X12_goDay _ _ _ _ _ e1) rfl rfl (Nat.le_of_ble_eq_true rfl) (by decide) (by decide) ?_
    refine q_istore (L' := [some (.ref l0), some (.int l1), some (.int l2), some (.int l3), some (.int l4), some (.int l5), some (.int l6), some (.int l7), some (.int l8), some (.int l9), some (.int u21)]) C dX12_best_170 (by decide) rfl rfl ?_
    exact q_msk [true, true, true, true, true, true, true, true, true, true, false] (jW_X12_best_172_102 C l0 l1 l2 l3 l4 l5 l6 l7 l8 l9 M22 h kC kE0)
noncomputable def B_X12_best_102 (l0 : Nat) (l1 : Int32) (l2 : Int32) (l3 : Int32) (l4 : Int32) (l5 : Int32) (l6 : Int32) (l7 : Int32) (l8 : Int32) (l9 : Int32) (M : q_Mem) : Option ((Int32 × Int32 × Int32 × q_Mem) ⊕ (Int32 × q_Mem)) := (if l9 < (l1 + (3 : Int32)) then (if l7 = 0 then some (.inr (l7, M)) else (if l9 < l1 then (q_dvi l6 l8 (fun v12 => (q_rmi v12 (10 : Int32) (fun v13 => (q_dvi l8 (10 : Int32) (fun v14 => (q_ob M l0 12 ((F_X12_isDish l0 v13 M).bind (fun u15 => (q_gR M l0 12 33 (fun c16 => q_nn c16 (fun r17 => (q_tI M r17 (34 : Int32) (v13 + (1 : Int32)) (fun M18 => J_X12_best_157_102 l0 l1 l2 l3 l4 l5 l6 u15 v14 l9 M18)))))))))))))) else J_X12_best_157_102 l0 l1 l2 l3 l4 l5 l6 l7 l8 l9 M)) else some (.inr (l7, M)))
set_option maxRecDepth 100000 in
set_option maxHeartbeats 4000000 in
theorem bW_X12_best_102 {K : q_K} {Q : State → Prop} (C : q_C K yX12_best cX12_best 11 (Option.some Jvm.ClassFile.FieldType.int) 133 0 0) (l0 : Nat) (l1 : Int32) (l2 : Int32) (l3 : Int32) (l4 : Int32) (l5 : Int32) (l6 : Int32) (l7 : Int32) (l8 : Int32) (l9 : Int32) (M : q_Mem) {stp : (Int32 × Int32 × Int32 × q_Mem) ⊕ (Int32 × q_Mem)} (h : B_X12_best_102 l0 l1 l2 l3 l4 l5 l6 l7 l8 l9 M = some stp) (kC : ∀ (l7 : Int32) (l8 : Int32) (l9 : Int32) (M : q_Mem), stp = .inl (l7, l8, l9, M) → q_W K 11 Q 0 0 M 102 [some (.ref l0), some (.int l1), some (.int l2), some (.int l3), some (.int l4), some (.int l5), some (.int l6), some (.int l7), some (.int l8), some (.int l9), none] []) (kE0 : ∀ (l7 : Int32) (M : q_Mem), stp = .inr (l7, M) → q_W K 11 Q 0 0 M 178 [some (.ref l0), some (.int l1), some (.int l2), some (.int l3), some (.int l4), some (.int l5), some (.int l6), some (.int l7), none, none, none] []) : q_W K 11 Q 0 0 M 102 [some (.ref l0), some (.int l1), some (.int l2), some (.int l3), some (.int l4), some (.int l5), some (.int l6), some (.int l7), some (.int l8), some (.int l9), none] [] := by
  unfold B_X12_best_102 at h
  refine q_iload C dX12_best_102 rfl ?_
  refine q_iload_n C dX12_best_104 rfl ?_
  refine x_iconst (v := (3 : Int32)) C dX12_best_105 (by decide) ?_
  refine q_iadd C dX12_best_106 ?_
  refine q_icmp_ge (tgt := 178) C dX12_best_107 (by decide) h (fun _ h => ?_) (fun _ h => ?_)
  · refine q_iload C dX12_best_110 rfl ?_
    refine q_if_eq (tgt := 178) C dX12_best_112 (by decide) h (fun _ h => ?_) (fun _ h => ?_)
    · exact q_msk [true, true, true, true, true, true, true, true, false, false, false] (kE0 _ _ (Option.some.inj h).symm)
    · refine q_iload C dX12_best_115 rfl ?_
      refine q_iload_n C dX12_best_117 rfl ?_
      refine q_icmp_ge (tgt := 157) C dX12_best_118 (by decide) h (fun _ h => ?_) (fun _ h => ?_)
      · refine q_iload C dX12_best_121 rfl ?_
        refine q_iload C dX12_best_123 rfl ?_
        refine q_idiv C dX12_best_125 h (fun v12 h => ?_)
        refine x_bipush (v := (10 : Int32)) C dX12_best_126 (by decide) ?_
        refine q_irem C dX12_best_128 h (fun v13 h => ?_)
        refine q_istore (L' := [some (.ref l0), some (.int l1), some (.int l2), some (.int l3), some (.int l4), some (.int l5), some (.int l6), some (.int l7), some (.int l8), some (.int l9), some (.int v13)]) C dX12_best_129 (by decide) rfl rfl ?_
        refine q_iload C dX12_best_131 rfl ?_
        refine x_bipush (v := (10 : Int32)) C dX12_best_133 (by decide) ?_
        refine q_idiv C dX12_best_135 h (fun v14 h => ?_)
        refine q_istore (L' := [some (.ref l0), some (.int l1), some (.int l2), some (.int l3), some (.int l4), some (.int l5), some (.int l6), some (.int l7), some (.int v14), some (.int l9), some (.int v13)]) C dX12_best_136 (by decide) rfl rfl ?_
        refine q_aload_n C dX12_best_138 rfl ?_
        refine q_iload C dX12_best_139 rfl ?_
        obtain ⟨hk, h⟩ := q_obE h
        obtain ⟨u15, e1, h⟩ := q_bind h
        refine x_callV0 C dX12_best_141 lkM_X12_357 mV_X12_isDish ⟨_, rfl, rfl⟩ hk (c_X12_isDish _ _ _ _ _ e1) rfl rfl (Nat.le_of_ble_eq_true rfl) (by decide) (by decide) ?_
        refine q_istore (L' := [some (.ref l0), some (.int l1), some (.int l2), some (.int l3), some (.int l4), some (.int l5), some (.int l6), some (.int u15), some (.int v14), some (.int l9), some (.int v13)]) C dX12_best_144 (by decide) rfl rfl ?_
        refine q_aload_n C dX12_best_146 rfl ?_
        refine x_getR (ci := 12) (j := 33) C dX12_best_147 lkF_X12_64 rfl h (fun c16 h => ?_)
        refine x_nn h (fun r17 h => ?_)
        refine x_bipush (v := (34 : Int32)) C dX12_best_150 (by decide) ?_
        refine q_iload C dX12_best_152 rfl ?_
        refine x_iconst (v := (1 : Int32)) C dX12_best_154 (by decide) ?_
        refine q_iadd C dX12_best_155 ?_
        refine x_iast C dX12_best_156 h (fun M18 h => ?_)
        exact q_msk [true, true, true, true, true, true, true, true, true, true, false] (jW_X12_best_157_102 C l0 l1 l2 l3 l4 l5 l6 u15 v14 l9 M18 h kC kE0)
      · exact q_msk [true, true, true, true, true, true, true, true, true, true, false] (jW_X12_best_157_102 C l0 l1 l2 l3 l4 l5 l6 l7 l8 l9 M h kC kE0)
  · exact q_msk [true, true, true, true, true, true, true, true, false, false, false] (kE0 _ _ (Option.some.inj h).symm)
set_option maxRecDepth 100000 in
set_option maxHeartbeats 4000000 in
theorem lW_X12_best_102 {K : q_K} {Q : State → Prop} (C : q_C K yX12_best cX12_best 11 (Option.some Jvm.ClassFile.FieldType.int) 133 0 0) (l0 : Nat) (l1 : Int32) (l2 : Int32) (l3 : Int32) (l4 : Int32) (l5 : Int32) (l6 : Int32) (n : Nat) : ∀ (l7 : Int32) (l8 : Int32) (l9 : Int32) (M : q_Mem) (e : (Int32 × q_Mem)), q_lp (fun s => B_X12_best_102 l0 l1 l2 l3 l4 l5 l6 s.1 s.2.1 s.2.2.1 s.2.2.2) n (l7, l8, l9, M) = some e → (∀ (l7 : Int32) (M : q_Mem), e = (l7, M) → q_W K 11 Q 0 0 M 178 [some (.ref l0), some (.int l1), some (.int l2), some (.int l3), some (.int l4), some (.int l5), some (.int l6), some (.int l7), none, none, none] []) → q_W K 11 Q 0 0 M 102 [some (.ref l0), some (.int l1), some (.int l2), some (.int l3), some (.int l4), some (.int l5), some (.int l6), some (.int l7), some (.int l8), some (.int l9), none] [] := by
  induction n with
  | zero => intro l7 l8 l9 M e h; cases h
  | succ n ih =>
    intro l7 l8 l9 M e h kE0
    obtain ⟨stp, e1, e2⟩ := q_bind h
    refine bW_X12_best_102 C l0 l1 l2 l3 l4 l5 l6 l7 l8 l9 M e1 (fun a0 a1 a2 a3 hs => ?_) (fun b0 b1 hs => ?_)
    · subst hs; exact ih _ _ _ _ _ e2 kE0
    · subst hs; exact kE0 _ _ (Option.some.inj e2).symm
noncomputable def J_X12_best_217_71 (l0 : Nat) (l1 : Int32) (l2 : Int32) (l3 : Int32) (l4 : Int32) (l5 : Int32) (l6 : Int32) (M : q_Mem) : Option ((Int32 × Int32 × Int32 × q_Mem) ⊕ (Int32 × Int32 × q_Mem)) := some (.inl (l3, l4, (l6 + (1 : Int32)), M))
set_option maxRecDepth 100000 in
set_option maxHeartbeats 4000000 in
theorem jW_X12_best_217_71 {K : q_K} {Q : State → Prop} (C : q_C K yX12_best cX12_best 11 (Option.some Jvm.ClassFile.FieldType.int) 133 0 0) (l0 : Nat) (l1 : Int32) (l2 : Int32) (l3 : Int32) (l4 : Int32) (l5 : Int32) (l6 : Int32) (M : q_Mem) {stp : (Int32 × Int32 × Int32 × q_Mem) ⊕ (Int32 × Int32 × q_Mem)} (h : J_X12_best_217_71 l0 l1 l2 l3 l4 l5 l6 M = some stp) (kC : ∀ (l3 : Int32) (l4 : Int32) (l6 : Int32) (M : q_Mem), stp = .inl (l3, l4, l6, M) → q_W K 11 Q 0 0 M 71 [some (.ref l0), some (.int l1), some (.int l2), some (.int l3), some (.int l4), some (.int l5), some (.int l6), none, none, none, none] []) (kE0 : ∀ (l3 : Int32) (l4 : Int32) (M : q_Mem), stp = .inr (l3, l4, M) → q_W K 11 Q 0 0 M 223 [none, none, some (.int l2), some (.int l3), some (.int l4), none, none, none, none, none, none] []) : q_W K 11 Q 0 0 M 217 [some (.ref l0), some (.int l1), some (.int l2), some (.int l3), some (.int l4), some (.int l5), some (.int l6), none, none, none, none] [] := by
  unfold J_X12_best_217_71 at h
  refine x_iinc (w := (1 : Int32)) (L' := [some (.ref l0), some (.int l1), some (.int l2), some (.int l3), some (.int l4), some (.int l5), some (.int (l6 + (1 : Int32))), none, none, none, none]) C dX12_best_217 rfl (by decide) (by decide) rfl rfl ?_
  refine q_goto (tgt := 71) C dX12_best_220 (by decide) ?_
  exact q_msk [true, true, true, true, true, true, true, false, false, false, false] (kC _ _ _ _ (Option.some.inj h).symm)
noncomputable def J_X12_best_204_71 (l0 : Nat) (l1 : Int32) (l2 : Int32) (l5 : Int32) (l6 : Int32) (M : q_Mem) : Option ((Int32 × Int32 × Int32 × q_Mem) ⊕ (Int32 × Int32 × q_Mem)) := (q_gR M l0 12 33 (fun c26 => q_nn c26 (fun r27 => (q_ob M l0 12 ((F_X12_joys l0 r27 M).bind (fun u28 => J_X12_best_217_71 l0 l1 l2 l6 u28 l5 l6 M))))))
set_option maxRecDepth 100000 in
set_option maxHeartbeats 4000000 in
theorem jW_X12_best_204_71 {K : q_K} {Q : State → Prop} (C : q_C K yX12_best cX12_best 11 (Option.some Jvm.ClassFile.FieldType.int) 133 0 0) (l0 : Nat) (l1 : Int32) (l2 : Int32) (l5 : Int32) (l6 : Int32) (M : q_Mem) {stp : (Int32 × Int32 × Int32 × q_Mem) ⊕ (Int32 × Int32 × q_Mem)} (h : J_X12_best_204_71 l0 l1 l2 l5 l6 M = some stp) (kC : ∀ (l3 : Int32) (l4 : Int32) (l6 : Int32) (M : q_Mem), stp = .inl (l3, l4, l6, M) → q_W K 11 Q 0 0 M 71 [some (.ref l0), some (.int l1), some (.int l2), some (.int l3), some (.int l4), some (.int l5), some (.int l6), none, none, none, none] []) (kE0 : ∀ (l3 : Int32) (l4 : Int32) (M : q_Mem), stp = .inr (l3, l4, M) → q_W K 11 Q 0 0 M 223 [none, none, some (.int l2), some (.int l3), some (.int l4), none, none, none, none, none, none] []) : q_W K 11 Q 0 0 M 204 [some (.ref l0), some (.int l1), some (.int l2), none, none, some (.int l5), some (.int l6), none, none, none, none] [] := by
  unfold J_X12_best_204_71 at h
  refine q_iload C dX12_best_204 rfl ?_
  refine q_istore_n (L' := [some (.ref l0), some (.int l1), some (.int l2), some (.int l6), none, some (.int l5), some (.int l6), none, none, none, none]) C dX12_best_206 (by decide) rfl rfl ?_
  refine q_aload_n C dX12_best_207 rfl ?_
  refine q_aload_n C dX12_best_208 rfl ?_
  refine x_getR (ci := 12) (j := 33) C dX12_best_209 lkF_X12_64 rfl h (fun c26 h => ?_)
  refine x_nn h (fun r27 h => ?_)
  obtain ⟨hk, h⟩ := q_obE h
  obtain ⟨u28, e1, h⟩ := q_bind h
  refine x_callV0 C dX12_best_212 lkM_X12_354 mV_X12_joys ⟨_, rfl, rfl⟩ hk (c_X12_joys _ _ _ _ _ e1) rfl rfl (Nat.le_of_ble_eq_true rfl) (by decide) (by decide) ?_
  refine q_istore (L' := [some (.ref l0), some (.int l1), some (.int l2), some (.int l6), some (.int u28), some (.int l5), some (.int l6), none, none, none, none]) C dX12_best_215 (by decide) rfl rfl ?_
  exact q_msk [true, true, true, true, true, true, true, false, false, false, false] (jW_X12_best_217_71 C l0 l1 l2 l6 u28 l5 l6 M h kC kE0)
noncomputable def B_X12_best_71 (l0 : Nat) (l1 : Int32) (l2 : Int32) (l5 : Int32) (l3 : Int32) (l4 : Int32) (l6 : Int32) (M : q_Mem) : Option ((Int32 × Int32 × Int32 × q_Mem) ⊕ (Int32 × Int32 × q_Mem)) := (if l6 < l5 then (q_gR M l0 12 32 (fun c5 => q_nn c5 (fun r6 => (q_gR M l0 12 33 (fun c7 => q_nn c7 (fun r8 => ((F_X12_copy r6 r8 M).bind (fun x => match x with | (_, M10) => (q_dvi l5 (10 : Int32) (fun v11 => (q_lp (fun s => B_X12_best_102 l0 l1 l2 l3 l4 l5 l6 s.1 s.2.1 s.2.2.1 s.2.2.2) q_fu ((1 : Int32), v11, (0 : Int32), M10)).bind (fun e23 => match e23 with | (w24, M25) => (if w24 = 0 then J_X12_best_217_71 l0 l1 l2 l3 l4 l5 l6 M25 else (if l3 = (-1 : Int32) then J_X12_best_204_71 l0 l1 l2 l5 l6 M25 else (q_gR M25 l0 12 33 (fun c29 => q_nn c29 (fun r30 => (q_ob M25 l0 12 ((F_X12_joys l0 r30 M25).bind (fun u31 => (if l4 < u31 then J_X12_best_204_71 l0 l1 l2 l5 l6 M25 else J_X12_best_217_71 l0 l1 l2 l3 l4 l5 l6 M25)))))))))))))))))))) else some (.inr (l3, l4, M)))
set_option maxRecDepth 100000 in
set_option maxHeartbeats 4000000 in
theorem bW_X12_best_71 {K : q_K} {Q : State → Prop} (C : q_C K yX12_best cX12_best 11 (Option.some Jvm.ClassFile.FieldType.int) 133 0 0) (l0 : Nat) (l1 : Int32) (l2 : Int32) (l3 : Int32) (l4 : Int32) (l5 : Int32) (l6 : Int32) (M : q_Mem) {stp : (Int32 × Int32 × Int32 × q_Mem) ⊕ (Int32 × Int32 × q_Mem)} (h : B_X12_best_71 l0 l1 l2 l5 l3 l4 l6 M = some stp) (kC : ∀ (l3 : Int32) (l4 : Int32) (l6 : Int32) (M : q_Mem), stp = .inl (l3, l4, l6, M) → q_W K 11 Q 0 0 M 71 [some (.ref l0), some (.int l1), some (.int l2), some (.int l3), some (.int l4), some (.int l5), some (.int l6), none, none, none, none] []) (kE0 : ∀ (l3 : Int32) (l4 : Int32) (M : q_Mem), stp = .inr (l3, l4, M) → q_W K 11 Q 0 0 M 223 [none, none, some (.int l2), some (.int l3), some (.int l4), none, none, none, none, none, none] []) : q_W K 11 Q 0 0 M 71 [some (.ref l0), some (.int l1), some (.int l2), some (.int l3), some (.int l4), some (.int l5), some (.int l6), none, none, none, none] [] := by
  unfold B_X12_best_71 at h
  refine q_iload C dX12_best_71 rfl ?_
  refine q_iload C dX12_best_73 rfl ?_
  refine q_icmp_ge (tgt := 223) C dX12_best_75 (by decide) h (fun _ h => ?_) (fun _ h => ?_)
  · refine q_aload_n C dX12_best_78 rfl ?_
    refine x_getR (ci := 12) (j := 32) C dX12_best_79 lkF_X12_61 rfl h (fun c5 h => ?_)
    refine x_nn h (fun r6 h => ?_)
    refine q_aload_n C dX12_best_82 rfl ?_
    refine x_getR (ci := 12) (j := 33) C dX12_best_83 lkF_X12_64 rfl h (fun c7 h => ?_)
    refine x_nn h (fun r8 h => ?_)
    obtain ⟨⟨_, M10⟩, e1, h⟩ := q_bind h
    refine x_callSv0 C dX12_best_86 lkM_X12_409 mS_X12_copy (c_X12_copy _ _ _ _ _ e1) rfl rfl (Nat.le_of_ble_eq_true rfl) (by decide) (by decide) ?_
    refine x_iconst (v := (1 : Int32)) C dX12_best_89 (by decide) ?_
    refine q_istore (L' := [some (.ref l0), some (.int l1), some (.int l2), some (.int l3), some (.int l4), some (.int l5), some (.int l6), some (.int (1 : Int32)), none, none, none]) C dX12_best_90 (by decide) rfl rfl ?_
    refine q_iload C dX12_best_92 rfl ?_
    refine x_bipush (v := (10 : Int32)) C dX12_best_94 (by decide) ?_
    refine q_idiv C dX12_best_96 h (fun v11 h => ?_)
    refine q_istore (L' := [some (.ref l0), some (.int l1), some (.int l2), some (.int l3), some (.int l4), some (.int l5), some (.int l6), some (.int (1 : Int32)), some (.int v11), none, none]) C dX12_best_97 (by decide) rfl rfl ?_
    refine x_iconst (v := (0 : Int32)) C dX12_best_99 (by decide) ?_
    refine q_istore (L' := [some (.ref l0), some (.int l1), some (.int l2), some (.int l3), some (.int l4), some (.int l5), some (.int l6), some (.int (1 : Int32)), some (.int v11), some (.int (0 : Int32)), none]) C dX12_best_100 (by decide) rfl rfl ?_
    obtain ⟨e23, he, h⟩ := q_bind h
    refine q_msk [true, true, true, true, true, true, true, true, true, true, false] (lW_X12_best_102 C l0 l1 l2 l3 l4 l5 l6 q_fu _ _ _ _ _ he (fun w24 M25 hs => ?_))
    · have hs := hs.symm
      subst hs
      refine q_iload C dX12_best_178 rfl ?_
      refine q_if_eq (tgt := 217) C dX12_best_180 (by decide) h (fun _ h => ?_) (fun _ h => ?_)
      · exact q_msk [true, true, true, true, true, true, true, false, false, false, false] (jW_X12_best_217_71 C l0 l1 l2 l3 l4 l5 l6 M25 h kC kE0)
      · refine q_iload_n C dX12_best_183 rfl ?_
        refine x_iconst (v := (-1 : Int32)) C dX12_best_184 (by decide) ?_
        refine q_icmp_eq (tgt := 204) C dX12_best_185 (by decide) h (fun _ h => ?_) (fun _ h => ?_)
        · exact q_msk [true, true, true, false, false, true, true, false, false, false, false] (jW_X12_best_204_71 C l0 l1 l2 l5 l6 M25 h kC kE0)
        · refine q_aload_n C dX12_best_188 rfl ?_
          refine q_aload_n C dX12_best_189 rfl ?_
          refine x_getR (ci := 12) (j := 33) C dX12_best_190 lkF_X12_64 rfl h (fun c29 h => ?_)
          refine x_nn h (fun r30 h => ?_)
          obtain ⟨hk, h⟩ := q_obE h
          obtain ⟨u31, e1, h⟩ := q_bind h
          refine x_callV0 C dX12_best_193 lkM_X12_354 mV_X12_joys ⟨_, rfl, rfl⟩ hk (c_X12_joys _ _ _ _ _ e1) rfl rfl (Nat.le_of_ble_eq_true rfl) (by decide) (by decide) ?_
          refine q_iload C dX12_best_196 rfl ?_
          refine q_icmp_gt (tgt := 204) C dX12_best_198 (by decide) h (fun _ h => ?_) (fun _ h => ?_)
          · exact q_msk [true, true, true, false, false, true, true, false, false, false, false] (jW_X12_best_204_71 C l0 l1 l2 l5 l6 M25 h kC kE0)
          · refine q_goto (tgt := 217) C dX12_best_201 (by decide) ?_
            exact q_msk [true, true, true, true, true, true, true, false, false, false, false] (jW_X12_best_217_71 C l0 l1 l2 l3 l4 l5 l6 M25 h kC kE0)
  · exact q_msk [false, false, true, true, true, false, false, false, false, false, false] (kE0 _ _ _ (Option.some.inj h).symm)
set_option maxRecDepth 100000 in
set_option maxHeartbeats 4000000 in
theorem lW_X12_best_71 {K : q_K} {Q : State → Prop} (C : q_C K yX12_best cX12_best 11 (Option.some Jvm.ClassFile.FieldType.int) 133 0 0) (l0 : Nat) (l1 : Int32) (l2 : Int32) (l5 : Int32) (n : Nat) : ∀ (l3 : Int32) (l4 : Int32) (l6 : Int32) (M : q_Mem) (e : (Int32 × Int32 × q_Mem)), q_lp (fun s => B_X12_best_71 l0 l1 l2 l5 s.1 s.2.1 s.2.2.1 s.2.2.2) n (l3, l4, l6, M) = some e → (∀ (l3 : Int32) (l4 : Int32) (M : q_Mem), e = (l3, l4, M) → q_W K 11 Q 0 0 M 223 [none, none, some (.int l2), some (.int l3), some (.int l4), none, none, none, none, none, none] []) → q_W K 11 Q 0 0 M 71 [some (.ref l0), some (.int l1), some (.int l2), some (.int l3), some (.int l4), some (.int l5), some (.int l6), none, none, none, none] [] := by
  induction n with
  | zero => intro l3 l4 l6 M e h; cases h
  | succ n ih =>
    intro l3 l4 l6 M e h kE0
    obtain ⟨stp, e1, e2⟩ := q_bind h
    refine bW_X12_best_71 C l0 l1 l2 l3 l4 l5 l6 M e1 (fun a0 a1 a2 a3 hs => ?_) (fun b0 b1 b2 hs => ?_)
    · subst hs; exact ih _ _ _ _ _ e2 kE0
    · subst hs; exact kE0 _ _ _ (Option.some.inj e2).symm
noncomputable def J_X12_best_66 (l0 : Nat) (l1 : Int32) (l2 : Int32) (l3 : Int32) (l4 : Int32) (s0 : Int32) (M : q_Mem) : Option (Int32 × q_Mem) := (q_lp (fun s => B_X12_best_71 l0 l1 l2 s0 s.1 s.2.1 s.2.2.1 s.2.2.2) q_fu (l3, l4, (0 : Int32), M)).bind (fun e32 => match e32 with | (w33, w34, M35) => (if l2 = 0 then some (w33, M35) else some (w34, M35)))
set_option maxRecDepth 100000 in
set_option maxHeartbeats 4000000 in
theorem jW_X12_best_66 {K : q_K} (C : q_C K yX12_best cX12_best 11 (Option.some Jvm.ClassFile.FieldType.int) 133 0 0) (l0 : Nat) (l1 : Int32) (l2 : Int32) (l3 : Int32) (l4 : Int32) (s0 : Int32) (M : q_Mem) {r : Int32} {M' : q_Mem} (h : J_X12_best_66 l0 l1 l2 l3 l4 s0 M = some (r, M')) : q_W K 11 (q_Q K (some (.int r)) M' 0 0) 0 0 M 66 [some (.ref l0), some (.int l1), some (.int l2), some (.int l3), some (.int l4), none, none, none, none, none, none] [.int s0] := by
  unfold J_X12_best_66 at h
  refine q_istore (L' := [some (.ref l0), some (.int l1), some (.int l2), some (.int l3), some (.int l4), some (.int s0), none, none, none, none, none]) C dX12_best_66 (by decide) rfl rfl ?_
  refine x_iconst (v := (0 : Int32)) C dX12_best_68 (by decide) ?_
  refine q_istore (L' := [some (.ref l0), some (.int l1), some (.int l2), some (.int l3), some (.int l4), some (.int s0), some (.int (0 : Int32)), none, none, none, none]) C dX12_best_69 (by decide) rfl rfl ?_
  obtain ⟨e32, he, h⟩ := q_bind h
  refine q_msk [true, true, true, true, true, true, true, false, false, false, false] (lW_X12_best_71 C l0 l1 l2 s0 q_fu _ _ _ _ _ he (fun w33 w34 M35 hs => ?_))
  · have hs := hs.symm
    subst hs
    refine q_iload_n C dX12_best_223 rfl ?_
    refine q_if_ne (tgt := 231) C dX12_best_224 (by decide) h (fun _ h => ?_) (fun _ h => ?_)
    · refine q_iload_n C dX12_best_227 rfl ?_
      refine q_goto (tgt := 233) C dX12_best_228 (by decide) ?_
      exact q_iret C dX12_best_233 rfl (by decide) (by decide) (Option.some.inj h)
    · refine q_iload C dX12_best_231 rfl ?_
      exact q_iret C dX12_best_233 rfl (by decide) (by decide) (Option.some.inj h)
noncomputable def F_X12_best (l0 : Nat) (l1 : Int32) (l2 : Int32) (M : q_Mem) : Option (Int32 × q_Mem) := (q_pI M l0 12 0 (0 : Int32) (fun M1 => (q_gI M1 l0 12 27 (fun v2 => (if v2 = 0 then some ((-1000000 : Int32), M1) else ((F_X12_isIn l1.toInt64 (1 : Int64) (3 : Int64) M1).bind (fun u3 => (if u3 = 0 then some ((-1000000 : Int32), M1) else ((F_X12_isIn l2.toInt64 (0 : Int64) (1 : Int64) M1).bind (fun u4 => (if u4 = 0 then some ((-1000000 : Int32), M1) else (if l1 = (1 : Int32) then J_X12_best_66 l0 l1 l2 (-1 : Int32) (0 : Int32) (10 : Int32) M1 else (if l1 = (2 : Int32) then J_X12_best_66 l0 l1 l2 (-1 : Int32) (0 : Int32) (100 : Int32) M1 else J_X12_best_66 l0 l1 l2 (-1 : Int32) (0 : Int32) (1000 : Int32) M1)))))))))))))
set_option maxRecDepth 100000 in
set_option maxHeartbeats 4000000 in
theorem c_X12_best (l : Launch) (G : q_G) (l0 : Nat) (l1 : Int32) (l2 : Int32) (M : q_Mem) {r : Int32} {M' : q_Mem} (h : F_X12_best l0 l1 l2 M = some (r, M')) : q_Met l G yX12_best cX12_best 11 (Option.some Jvm.ClassFile.FieldType.int) 133 0 0 [.ref l0, .int l1, .int l2] M (some (.int r)) M' := by
  unfold F_X12_best at h
  refine q_enter [some (.ref l0), some (.int l1), some (.int l2), none, none, none, none, none, none, none, none] (by decide) (Nat.le_of_ble_eq_true rfl) rfl (fun K C => ?_)
  refine q_aload_n C dX12_best_0 rfl ?_
  refine x_iconst (v := (0 : Int32)) C dX12_best_1 (by decide) ?_
  refine x_putI (ci := 12) (j := 0) C dX12_best_2 lkF_X12_92 (fun r hr => by cases hr; rfl) rfl h (fun M1 h => ?_)
  refine q_aload_n C dX12_best_5 rfl ?_
  refine x_getI (ci := 12) (j := 27) C dX12_best_6 lkF_X12_287 rfl h (fun v2 h => ?_)
  refine q_if_eq (tgt := 34) C dX12_best_9 (by decide) h (fun _ h => ?_) (fun _ h => ?_)
  · refine q_ldcw (v := (-1000000 : Int32)) C dX12_best_34 wd_1674 ?_
    exact q_iret C dX12_best_37 rfl (by decide) (by decide) (Option.some.inj h)
  · refine q_iload_n C dX12_best_12 rfl ?_
    refine q_i2l C dX12_best_13 ?_
    refine x_lconst (v := (1 : Int64)) C dX12_best_14 (by decide) ?_
    refine q_ldc2 (v := (3 : Int64)) C dX12_best_15 wd_1654 ?_
    obtain ⟨u3, e1, h⟩ := q_bind h
    refine x_callS0 C dX12_best_18 lkM_X12_213 mS_X12_isIn (c_X12_isIn _ _ _ _ _ _ e1) rfl rfl (Nat.le_of_ble_eq_true rfl) (by decide) (by decide) ?_
    refine q_if_eq (tgt := 34) C dX12_best_21 (by decide) h (fun _ h => ?_) (fun _ h => ?_)
    · refine q_ldcw (v := (-1000000 : Int32)) C dX12_best_34 wd_1674 ?_
      exact q_iret C dX12_best_37 rfl (by decide) (by decide) (Option.some.inj h)
    · refine q_iload_n C dX12_best_24 rfl ?_
      refine q_i2l C dX12_best_25 ?_
      refine x_lconst (v := (0 : Int64)) C dX12_best_26 (by decide) ?_
      refine x_lconst (v := (1 : Int64)) C dX12_best_27 (by decide) ?_
      obtain ⟨u4, e1, h⟩ := q_bind h
      refine x_callS0 C dX12_best_28 lkM_X12_213 mS_X12_isIn (c_X12_isIn _ _ _ _ _ _ e1) rfl rfl (Nat.le_of_ble_eq_true rfl) (by decide) (by decide) ?_
      refine q_if_ne (tgt := 38) C dX12_best_31 (by decide) h (fun _ h => ?_) (fun _ h => ?_)
      · refine q_ldcw (v := (-1000000 : Int32)) C dX12_best_34 wd_1674 ?_
        exact q_iret C dX12_best_37 rfl (by decide) (by decide) (Option.some.inj h)
      · refine x_iconst (v := (-1 : Int32)) C dX12_best_38 (by decide) ?_
        refine q_istore_n (L' := [some (.ref l0), some (.int l1), some (.int l2), some (.int (-1 : Int32)), none, none, none, none, none, none, none]) C dX12_best_39 (by decide) rfl rfl ?_
        refine x_iconst (v := (0 : Int32)) C dX12_best_40 (by decide) ?_
        refine q_istore (L' := [some (.ref l0), some (.int l1), some (.int l2), some (.int (-1 : Int32)), some (.int (0 : Int32)), none, none, none, none, none, none]) C dX12_best_41 (by decide) rfl rfl ?_
        refine q_iload_n C dX12_best_43 rfl ?_
        refine x_iconst (v := (1 : Int32)) C dX12_best_44 (by decide) ?_
        refine q_icmp_ne (tgt := 53) C dX12_best_45 (by decide) h (fun _ h => ?_) (fun _ h => ?_)
        · refine x_bipush (v := (10 : Int32)) C dX12_best_48 (by decide) ?_
          refine q_goto (tgt := 66) C dX12_best_50 (by decide) ?_
          exact q_msk [true, true, true, true, true, false, false, false, false, false, false] (jW_X12_best_66 C l0 l1 l2 (-1 : Int32) (0 : Int32) (10 : Int32) M1 h)
        · refine q_iload_n C dX12_best_53 rfl ?_
          refine x_iconst (v := (2 : Int32)) C dX12_best_54 (by decide) ?_
          refine q_icmp_ne (tgt := 63) C dX12_best_55 (by decide) h (fun _ h => ?_) (fun _ h => ?_)
          · refine x_bipush (v := (100 : Int32)) C dX12_best_58 (by decide) ?_
            refine q_goto (tgt := 66) C dX12_best_60 (by decide) ?_
            exact q_msk [true, true, true, true, true, false, false, false, false, false, false] (jW_X12_best_66 C l0 l1 l2 (-1 : Int32) (0 : Int32) (100 : Int32) M1 h)
          · refine x_sipush (v := (1000 : Int32)) C dX12_best_63 (by decide) ?_
            exact q_msk [true, true, true, true, true, false, false, false, false, false, false] (jW_X12_best_66 C l0 l1 l2 (-1 : Int32) (0 : Int32) (1000 : Int32) M1 h)
noncomputable def J_X12_madeUp_87_28 (l0 : Nat) (l1 : Int32) (l2 : Int32) (M : q_Mem) : Option ((Int32 × q_Mem) ⊕ ((Int32 × q_Mem) ⊕ (q_Mem))) := some (.inl ((l2 + (1 : Int32)), M))
set_option maxRecDepth 100000 in
set_option maxHeartbeats 4000000 in
theorem jW_X12_madeUp_87_28 {K : q_K} {Q : State → Prop} (C : q_C K yX12_madeUp cX12_madeUp 3 (Option.some Jvm.ClassFile.FieldType.int) 5 0 0) (l0 : Nat) (l1 : Int32) (l2 : Int32) (M : q_Mem) {stp : (Int32 × q_Mem) ⊕ ((Int32 × q_Mem) ⊕ (q_Mem))} (h : J_X12_madeUp_87_28 l0 l1 l2 M = some stp) (kC : ∀ (l2 : Int32) (M : q_Mem), stp = .inl (l2, M) → q_W K 3 Q 0 0 M 28 [some (.ref l0), some (.int l1), some (.int l2)] []) (kE0 : ∀ (l2 : Int32) (M : q_Mem), stp = .inr (.inl (l2, M)) → q_W K 3 Q 0 0 M 85 [none, none, some (.int l2)] []) (kE1 : ∀ (M : q_Mem), stp = .inr (.inr M) → q_W K 3 Q 0 0 M 93 [none, none, none] []) : q_W K 3 Q 0 0 M 87 [some (.ref l0), some (.int l1), some (.int l2)] [] := by
  unfold J_X12_madeUp_87_28 at h
  refine x_iinc (w := (1 : Int32)) (L' := [some (.ref l0), some (.int l1), some (.int (l2 + (1 : Int32)))]) C dX12_madeUp_87 rfl (by decide) (by decide) rfl rfl ?_
  refine q_goto (tgt := 28) C dX12_madeUp_90 (by decide) ?_
  exact q_msk [true, true, true] (kC _ _ (Option.some.inj h).symm)
noncomputable def B_X12_madeUp_28 (l0 : Nat) (l1 : Int32) (l2 : Int32) (M : q_Mem) : Option ((Int32 × q_Mem) ⊕ ((Int32 × q_Mem) ⊕ (q_Mem))) := (q_gR M l0 12 32 (fun c4 => q_nn c4 (fun r5 => (q_lI M 0 r5 (32 : Int32) (fun v6 => (if v6 < l2 then some (.inr (.inr M)) else (q_gR M l0 12 32 (fun c7 => q_nn c7 (fun r8 => (q_gR M l0 12 33 (fun c9 => q_nn c9 (fun r10 => ((F_X12_copy r8 r10 M).bind (fun x => match x with | (_, M12) => (q_gR M12 l0 12 33 (fun c13 => q_nn c13 (fun r14 => (q_lI M12 0 r14 (32 : Int32) (fun v15 => (q_tI M12 r14 (32 : Int32) (v15 - l2) (fun M16 => (q_gR M16 l0 12 33 (fun c17 => q_nn c17 (fun r18 => (q_ob M16 l0 12 ((F_X12_goTable l0 r18 M16).bind (fun x => match x with | (_, M20) => (q_gI M20 l0 12 37 (fun v21 => (if v21 = (-1 : Int32) then J_X12_madeUp_87_28 l0 l1 l2 M20 else (q_gI M20 l0 12 38 (fun v22 => (if v22 < l1 then J_X12_madeUp_87_28 l0 l1 l2 M20 else some (.inr (.inl (l2, M20))))))))))))))))))))))))))))))))))))
set_option maxRecDepth 100000 in
set_option maxHeartbeats 4000000 in
theorem bW_X12_madeUp_28 {K : q_K} {Q : State → Prop} (C : q_C K yX12_madeUp cX12_madeUp 3 (Option.some Jvm.ClassFile.FieldType.int) 5 0 0) (l0 : Nat) (l1 : Int32) (l2 : Int32) (M : q_Mem) {stp : (Int32 × q_Mem) ⊕ ((Int32 × q_Mem) ⊕ (q_Mem))} (h : B_X12_madeUp_28 l0 l1 l2 M = some stp) (kC : ∀ (l2 : Int32) (M : q_Mem), stp = .inl (l2, M) → q_W K 3 Q 0 0 M 28 [some (.ref l0), some (.int l1), some (.int l2)] []) (kE0 : ∀ (l2 : Int32) (M : q_Mem), stp = .inr (.inl (l2, M)) → q_W K 3 Q 0 0 M 85 [none, none, some (.int l2)] []) (kE1 : ∀ (M : q_Mem), stp = .inr (.inr M) → q_W K 3 Q 0 0 M 93 [none, none, none] []) : q_W K 3 Q 0 0 M 28 [some (.ref l0), some (.int l1), some (.int l2)] [] := by
  unfold B_X12_madeUp_28 at h
  refine q_iload_n C dX12_madeUp_28 rfl ?_
  refine q_aload_n C dX12_madeUp_29 rfl ?_
  refine x_getR (ci := 12) (j := 32) C dX12_madeUp_30 lkF_X12_61 rfl h (fun c4 h => ?_)
  refine x_nn h (fun r5 h => ?_)
  refine x_bipush (v := (32 : Int32)) C dX12_madeUp_33 (by decide) ?_
  refine x_iald C dX12_madeUp_35 h (fun v6 h => ?_)
  refine q_icmp_gt (tgt := 93) C dX12_madeUp_36 (by decide) h (fun _ h => ?_) (fun _ h => ?_)
  · exact q_msk [false, false, false] (kE1 _ (Option.some.inj h).symm)
  · refine q_aload_n C dX12_madeUp_39 rfl ?_
    refine x_getR (ci := 12) (j := 32) C dX12_madeUp_40 lkF_X12_61 rfl h (fun c7 h => ?_)
    refine x_nn h (fun r8 h => ?_)
    refine q_aload_n C dX12_madeUp_43 rfl ?_
    refine x_getR (ci := 12) (j := 33) C dX12_madeUp_44 lkF_X12_64 rfl h (fun c9 h => ?_)
    refine x_nn h (fun r10 h => ?_)
    obtain ⟨⟨_, M12⟩, e1, h⟩ := q_bind h
    refine x_callSv0 C dX12_madeUp_47 lkM_X12_409 mS_X12_copy (c_X12_copy _ _ _ _ _ e1) rfl rfl (Nat.le_of_ble_eq_true rfl) (by decide) (by decide) ?_
    refine q_aload_n C dX12_madeUp_50 rfl ?_
    refine x_getR (ci := 12) (j := 33) C dX12_madeUp_51 lkF_X12_64 rfl h (fun c13 h => ?_)
    refine x_nn h (fun r14 h => ?_)
    refine x_bipush (v := (32 : Int32)) C dX12_madeUp_54 (by decide) ?_
    refine q_dup2 C dX12_madeUp_56 rfl rfl ?_
    refine x_iald C dX12_madeUp_57 h (fun v15 h => ?_)
    refine q_iload_n C dX12_madeUp_58 rfl ?_
    refine q_isub C dX12_madeUp_59 ?_
    refine x_iast C dX12_madeUp_60 h (fun M16 h => ?_)
    refine q_aload_n C dX12_madeUp_61 rfl ?_
    refine q_aload_n C dX12_madeUp_62 rfl ?_
    refine x_getR (ci := 12) (j := 33) C dX12_madeUp_63 lkF_X12_64 rfl h (fun c17 h => ?_)
    refine x_nn h (fun r18 h => ?_)
    obtain ⟨hk, h⟩ := q_obE h
    obtain ⟨⟨_, M20⟩, e1, h⟩ := q_bind h
    refine x_callVv0 C dX12_madeUp_66 lkM_X12_341 mV_X12_goTable ⟨_, rfl, rfl⟩ hk (c_X12_goTable _ _ _ _ _ e1) rfl rfl (Nat.le_of_ble_eq_true rfl) (by decide) (by decide) ?_
    refine q_aload_n C dX12_madeUp_69 rfl ?_
    refine x_getI (ci := 12) (j := 37) C dX12_madeUp_70 lkF_X12_313 rfl h (fun v21 h => ?_)
    refine x_iconst (v := (-1 : Int32)) C dX12_madeUp_73 (by decide) ?_
    refine q_icmp_eq (tgt := 87) C dX12_madeUp_74 (by decide) h (fun _ h => ?_) (fun _ h => ?_)
    · exact q_msk [true, true, true] (jW_X12_madeUp_87_28 C l0 l1 l2 M20 h kC kE0 kE1)
    · refine q_aload_n C dX12_madeUp_77 rfl ?_
      refine x_getI (ci := 12) (j := 38) C dX12_madeUp_78 lkF_X12_319 rfl h (fun v22 h => ?_)
      refine q_iload_n C dX12_madeUp_81 rfl ?_
      refine q_icmp_lt (tgt := 87) C dX12_madeUp_82 (by decide) h (fun _ h => ?_) (fun _ h => ?_)
      · exact q_msk [true, true, true] (jW_X12_madeUp_87_28 C l0 l1 l2 M20 h kC kE0 kE1)
      · exact q_msk [false, false, true] (kE0 _ _ (Option.some.inj h).symm)
set_option maxRecDepth 100000 in
set_option maxHeartbeats 4000000 in
theorem lW_X12_madeUp_28 {K : q_K} {Q : State → Prop} (C : q_C K yX12_madeUp cX12_madeUp 3 (Option.some Jvm.ClassFile.FieldType.int) 5 0 0) (l0 : Nat) (l1 : Int32) (n : Nat) : ∀ (l2 : Int32) (M : q_Mem) (e : ((Int32 × q_Mem) ⊕ (q_Mem))), q_lp (fun s => B_X12_madeUp_28 l0 l1 s.1 s.2) n (l2, M) = some e → (∀ (l2 : Int32) (M : q_Mem), e = (.inl (l2, M)) → q_W K 3 Q 0 0 M 85 [none, none, some (.int l2)] []) → (∀ (M : q_Mem), e = (.inr M) → q_W K 3 Q 0 0 M 93 [none, none, none] []) → q_W K 3 Q 0 0 M 28 [some (.ref l0), some (.int l1), some (.int l2)] [] := by
  induction n with
  | zero => intro l2 M e h; cases h
  | succ n ih =>
    intro l2 M e h kE0 kE1
    obtain ⟨stp, e1, e2⟩ := q_bind h
    refine bW_X12_madeUp_28 C l0 l1 l2 M e1 (fun a0 a1 hs => ?_) (fun b0 b1 hs => ?_) (fun b0 hs => ?_)
    · subst hs; exact ih _ _ _ e2 kE0 kE1
    · subst hs; exact kE0 _ _ (Option.some.inj e2).symm
    · subst hs; exact kE1 _ (Option.some.inj e2).symm
noncomputable def F_X12_madeUp (l0 : Nat) (l1 : Int32) (M : q_Mem) : Option (Int32 × q_Mem) := (q_pI M l0 12 0 (0 : Int32) (fun M1 => (q_gI M1 l0 12 27 (fun v2 => (if v2 = 0 then some ((-1 : Int32), M1) else ((F_X12_isIn l1.toInt64 (0 : Int64) (20 : Int64) M1).bind (fun u3 => (if u3 = 0 then some ((-1 : Int32), M1) else (q_lp (fun s => B_X12_madeUp_28 l0 l1 s.1 s.2) q_fu ((0 : Int32), M1)).bind (fun e23 => match e23 with | .inl (w24, M25) => some (w24, M25) | .inr M26 => some ((-1 : Int32), M26))))))))))
set_option maxRecDepth 100000 in
set_option maxHeartbeats 4000000 in
theorem c_X12_madeUp (l : Launch) (G : q_G) (l0 : Nat) (l1 : Int32) (M : q_Mem) {r : Int32} {M' : q_Mem} (h : F_X12_madeUp l0 l1 M = some (r, M')) : q_Met l G yX12_madeUp cX12_madeUp 3 (Option.some Jvm.ClassFile.FieldType.int) 5 0 0 [.ref l0, .int l1] M (some (.int r)) M' := by
  unfold F_X12_madeUp at h
  refine q_enter [some (.ref l0), some (.int l1), none] (by decide) (Nat.le_of_ble_eq_true rfl) rfl (fun K C => ?_)
  refine q_aload_n C dX12_madeUp_0 rfl ?_
  refine x_iconst (v := (0 : Int32)) C dX12_madeUp_1 (by decide) ?_
  refine x_putI (ci := 12) (j := 0) C dX12_madeUp_2 lkF_X12_92 (fun r hr => by cases hr; rfl) rfl h (fun M1 h => ?_)
  refine q_aload_n C dX12_madeUp_5 rfl ?_
  refine x_getI (ci := 12) (j := 27) C dX12_madeUp_6 lkF_X12_287 rfl h (fun v2 h => ?_)
  refine q_if_eq (tgt := 24) C dX12_madeUp_9 (by decide) h (fun _ h => ?_) (fun _ h => ?_)
  · refine x_iconst (v := (-1 : Int32)) C dX12_madeUp_24 (by decide) ?_
    exact q_iret C dX12_madeUp_25 rfl (by decide) (by decide) (Option.some.inj h)
  · refine q_iload_n C dX12_madeUp_12 rfl ?_
    refine q_i2l C dX12_madeUp_13 ?_
    refine x_lconst (v := (0 : Int64)) C dX12_madeUp_14 (by decide) ?_
    refine q_ldc2 (v := (20 : Int64)) C dX12_madeUp_15 wd_1706 ?_
    obtain ⟨u3, e1, h⟩ := q_bind h
    refine x_callS0 C dX12_madeUp_18 lkM_X12_213 mS_X12_isIn (c_X12_isIn _ _ _ _ _ _ e1) rfl rfl (Nat.le_of_ble_eq_true rfl) (by decide) (by decide) ?_
    refine q_if_ne (tgt := 26) C dX12_madeUp_21 (by decide) h (fun _ h => ?_) (fun _ h => ?_)
    · refine x_iconst (v := (-1 : Int32)) C dX12_madeUp_24 (by decide) ?_
      exact q_iret C dX12_madeUp_25 rfl (by decide) (by decide) (Option.some.inj h)
    · refine x_iconst (v := (0 : Int32)) C dX12_madeUp_26 (by decide) ?_
      refine q_istore_n (L' := [some (.ref l0), some (.int l1), some (.int (0 : Int32))]) C dX12_madeUp_27 (by decide) rfl rfl ?_
      obtain ⟨e23, he, h⟩ := q_bind h
      refine q_msk [true, true, true] (lW_X12_madeUp_28 C l0 l1 q_fu _ _ _ he (fun w24 M25 hs => ?_) (fun M26 hs => ?_))
      · have hs := hs.symm
        subst hs
        refine q_iload_n C dX12_madeUp_85 rfl ?_
        exact q_iret C dX12_madeUp_86 rfl (by decide) (by decide) (Option.some.inj h)
      · have hs := hs.symm
        subst hs
        refine x_iconst (v := (-1 : Int32)) C dX12_madeUp_93 (by decide) ?_
        exact q_iret C dX12_madeUp_94 rfl (by decide) (by decide) (Option.some.inj h)
noncomputable def J_X12_seen_124 (l0 : Nat) (s0 : Nat) (s1 : Int32) (s2 : Int32) (M : q_Mem) : Option (Int32 × q_Mem) := (q_tI M s0 s1 s2 (fun M22 => (q_gI M22 l0 12 45 (fun v23 => (q_pI M22 l0 12 45 (v23 + (1 : Int32)) (fun M24 => (q_gI M24 l0 12 45 (fun v25 => some (v25, M24)))))))))
set_option maxRecDepth 100000 in
set_option maxHeartbeats 4000000 in
theorem jW_X12_seen_124 {K : q_K} (C : q_C K yX12_seen cX12_seen 7 (Option.some Jvm.ClassFile.FieldType.int) 2 0 0) (l0 : Nat) (s0 : Nat) (s1 : Int32) (s2 : Int32) (M : q_Mem) {r : Int32} {M' : q_Mem} (h : J_X12_seen_124 l0 s0 s1 s2 M = some (r, M')) : q_W K 7 (q_Q K (some (.int r)) M' 0 0) 0 0 M 124 [some (.ref l0), none, none, none, none, none, none] [.int s2, .int s1, .ref s0] := by
  unfold J_X12_seen_124 at h
  refine x_iast C dX12_seen_124 h (fun M22 h => ?_)
  refine q_aload_n C dX12_seen_125 rfl ?_
  refine q_dup C dX12_seen_126 rfl ?_
  refine x_getI (ci := 12) (j := 45) C dX12_seen_127 lkF_X12_290 rfl h (fun v23 h => ?_)
  refine x_iconst (v := (1 : Int32)) C dX12_seen_130 (by decide) ?_
  refine q_iadd C dX12_seen_131 ?_
  refine x_putI (ci := 12) (j := 45) C dX12_seen_132 lkF_X12_290 (fun r hr => by cases hr; rfl) rfl h (fun M24 h => ?_)
  refine q_aload_n C dX12_seen_135 rfl ?_
  refine x_getI (ci := 12) (j := 45) C dX12_seen_136 lkF_X12_290 rfl h (fun v25 h => ?_)
  exact q_iret C dX12_seen_139 rfl (by decide) (by decide) (Option.some.inj h)
noncomputable def F_X12_seen (l0 : Nat) (l1 : Int32) (l2 : Int32) (l3 : Int32) (l4 : Int32) (l5 : Int32) (M : q_Mem) : Option (Int32 × q_Mem) := (q_pI M l0 12 0 (0 : Int32) (fun M1 => (q_ob M1 l0 12 ((F_X12_isGuest l0 l1 M1).bind (fun u2 => (if u2 = 0 then some ((-1 : Int32), M1) else (q_ob M1 l0 12 ((F_X12_isDish l0 l2 M1).bind (fun u3 => (if u3 = 0 then some ((-1 : Int32), M1) else ((F_X12_isIn l3.toInt64 (0 : Int64) (20 : Int64) M1).bind (fun u4 => (if u4 = 0 then some ((-1 : Int32), M1) else ((F_X12_isIn l4.toInt64 (-9 : Int64) (20 : Int64) M1).bind (fun u5 => (if u5 = 0 then some ((-1 : Int32), M1) else (q_gI M1 l0 12 45 (fun v6 => (if v6 = (10 : Int32) then some ((-1 : Int32), M1) else (q_gI M1 l0 12 45 (fun v7 => (q_gR M1 l0 12 44 (fun c8 => q_nn c8 (fun r9 => (q_tI M1 r9 ((5 : Int32) * v7) l1 (fun M10 => (q_gR M10 l0 12 44 (fun c11 => q_nn c11 (fun r12 => (q_tI M10 r12 (((5 : Int32) * v7) + (1 : Int32)) l2 (fun M13 => (q_gR M13 l0 12 44 (fun c14 => q_nn c14 (fun r15 => (q_tI M13 r15 (((5 : Int32) * v7) + (2 : Int32)) l3 (fun M16 => (q_gR M16 l0 12 44 (fun c17 => q_nn c17 (fun r18 => (q_tI M16 r18 (((5 : Int32) * v7) + (3 : Int32)) l4 (fun M19 => (q_gR M19 l0 12 44 (fun c20 => q_nn c20 (fun r21 => (if l5 = 0 then J_X12_seen_124 l0 r21 (((5 : Int32) * v7) + (4 : Int32)) (0 : Int32) M19 else J_X12_seen_124 l0 r21 (((5 : Int32) * v7) + (4 : Int32)) (1 : Int32) M19)))))))))))))))))))))))))))))))))))))))))))))
set_option maxRecDepth 100000 in
set_option maxHeartbeats 4000000 in
theorem c_X12_seen (l : Launch) (G : q_G) (l0 : Nat) (l1 : Int32) (l2 : Int32) (l3 : Int32) (l4 : Int32) (l5 : Int32) (M : q_Mem) {r : Int32} {M' : q_Mem} (h : F_X12_seen l0 l1 l2 l3 l4 l5 M = some (r, M')) : q_Met l G yX12_seen cX12_seen 7 (Option.some Jvm.ClassFile.FieldType.int) 2 0 0 [.ref l0, .int l1, .int l2, .int l3, .int l4, .int l5] M (some (.int r)) M' := by
  unfold F_X12_seen at h
  refine q_enter [some (.ref l0), some (.int l1), some (.int l2), some (.int l3), some (.int l4), some (.int l5), none] (by decide) (Nat.le_of_ble_eq_true rfl) rfl (fun K C => ?_)
  refine q_aload_n C dX12_seen_0 rfl ?_
  refine x_iconst (v := (0 : Int32)) C dX12_seen_1 (by decide) ?_
  refine x_putI (ci := 12) (j := 0) C dX12_seen_2 lkF_X12_92 (fun r hr => by cases hr; rfl) rfl h (fun M1 h => ?_)
  refine q_aload_n C dX12_seen_5 rfl ?_
  refine q_iload_n C dX12_seen_6 rfl ?_
  obtain ⟨hk, h⟩ := q_obE h
  obtain ⟨u2, e1, h⟩ := q_bind h
  refine x_callV0 C dX12_seen_7 lkM_X12_360 mV_X12_isGuest ⟨_, rfl, rfl⟩ hk (c_X12_isGuest _ _ _ _ _ e1) rfl rfl (Nat.le_of_ble_eq_true rfl) (by decide) (by decide) ?_
  refine q_if_eq (tgt := 57) C dX12_seen_10 (by decide) h (fun _ h => ?_) (fun _ h => ?_)
  · refine x_iconst (v := (-1 : Int32)) C dX12_seen_57 (by decide) ?_
    exact q_iret C dX12_seen_58 rfl (by decide) (by decide) (Option.some.inj h)
  · refine q_aload_n C dX12_seen_13 rfl ?_
    refine q_iload_n C dX12_seen_14 rfl ?_
    obtain ⟨hk, h⟩ := q_obE h
    obtain ⟨u3, e1, h⟩ := q_bind h
    refine x_callV0 C dX12_seen_15 lkM_X12_357 mV_X12_isDish ⟨_, rfl, rfl⟩ hk (c_X12_isDish _ _ _ _ _ e1) rfl rfl (Nat.le_of_ble_eq_true rfl) (by decide) (by decide) ?_
    refine q_if_eq (tgt := 57) C dX12_seen_18 (by decide) h (fun _ h => ?_) (fun _ h => ?_)
    · refine x_iconst (v := (-1 : Int32)) C dX12_seen_57 (by decide) ?_
      exact q_iret C dX12_seen_58 rfl (by decide) (by decide) (Option.some.inj h)
    · refine q_iload_n C dX12_seen_21 rfl ?_
      refine q_i2l C dX12_seen_22 ?_
      refine x_lconst (v := (0 : Int64)) C dX12_seen_23 (by decide) ?_
      refine q_ldc2 (v := (20 : Int64)) C dX12_seen_24 wd_1706 ?_
      obtain ⟨u4, e1, h⟩ := q_bind h
      refine x_callS0 C dX12_seen_27 lkM_X12_213 mS_X12_isIn (c_X12_isIn _ _ _ _ _ _ e1) rfl rfl (Nat.le_of_ble_eq_true rfl) (by decide) (by decide) ?_
      refine q_if_eq (tgt := 57) C dX12_seen_30 (by decide) h (fun _ h => ?_) (fun _ h => ?_)
      · refine x_iconst (v := (-1 : Int32)) C dX12_seen_57 (by decide) ?_
        exact q_iret C dX12_seen_58 rfl (by decide) (by decide) (Option.some.inj h)
      · refine q_iload C dX12_seen_33 rfl ?_
        refine q_i2l C dX12_seen_35 ?_
        refine q_ldc2 (v := (-9 : Int64)) C dX12_seen_36 wd_1735 ?_
        refine q_ldc2 (v := (20 : Int64)) C dX12_seen_39 wd_1706 ?_
        obtain ⟨u5, e1, h⟩ := q_bind h
        refine x_callS0 C dX12_seen_42 lkM_X12_213 mS_X12_isIn (c_X12_isIn _ _ _ _ _ _ e1) rfl rfl (Nat.le_of_ble_eq_true rfl) (by decide) (by decide) ?_
        refine q_if_eq (tgt := 57) C dX12_seen_45 (by decide) h (fun _ h => ?_) (fun _ h => ?_)
        · refine x_iconst (v := (-1 : Int32)) C dX12_seen_57 (by decide) ?_
          exact q_iret C dX12_seen_58 rfl (by decide) (by decide) (Option.some.inj h)
        · refine q_aload_n C dX12_seen_48 rfl ?_
          refine x_getI (ci := 12) (j := 45) C dX12_seen_49 lkF_X12_290 rfl h (fun v6 h => ?_)
          refine x_bipush (v := (10 : Int32)) C dX12_seen_52 (by decide) ?_
          refine q_icmp_ne (tgt := 59) C dX12_seen_54 (by decide) h (fun _ h => ?_) (fun _ h => ?_)
          · refine x_iconst (v := (-1 : Int32)) C dX12_seen_57 (by decide) ?_
            exact q_iret C dX12_seen_58 rfl (by decide) (by decide) (Option.some.inj h)
          · refine x_iconst (v := (5 : Int32)) C dX12_seen_59 (by decide) ?_
            refine q_aload_n C dX12_seen_60 rfl ?_
            refine x_getI (ci := 12) (j := 45) C dX12_seen_61 lkF_X12_290 rfl h (fun v7 h => ?_)
            refine q_imul C dX12_seen_64 ?_
            refine q_istore (L' := [some (.ref l0), some (.int l1), some (.int l2), some (.int l3), some (.int l4), some (.int l5), some (.int ((5 : Int32) * v7))]) C dX12_seen_65 (by decide) rfl rfl ?_
            refine q_aload_n C dX12_seen_67 rfl ?_
            refine x_getR (ci := 12) (j := 44) C dX12_seen_68 lkF_X12_80 rfl h (fun c8 h => ?_)
            refine x_nn h (fun r9 h => ?_)
            refine q_iload C dX12_seen_71 rfl ?_
            refine q_iload_n C dX12_seen_73 rfl ?_
            refine x_iast C dX12_seen_74 h (fun M10 h => ?_)
            refine q_aload_n C dX12_seen_75 rfl ?_
            refine x_getR (ci := 12) (j := 44) C dX12_seen_76 lkF_X12_80 rfl h (fun c11 h => ?_)
            refine x_nn h (fun r12 h => ?_)
            refine q_iload C dX12_seen_79 rfl ?_
            refine x_iconst (v := (1 : Int32)) C dX12_seen_81 (by decide) ?_
            refine q_iadd C dX12_seen_82 ?_
            refine q_iload_n C dX12_seen_83 rfl ?_
            refine x_iast C dX12_seen_84 h (fun M13 h => ?_)
            refine q_aload_n C dX12_seen_85 rfl ?_
            refine x_getR (ci := 12) (j := 44) C dX12_seen_86 lkF_X12_80 rfl h (fun c14 h => ?_)
            refine x_nn h (fun r15 h => ?_)
            refine q_iload C dX12_seen_89 rfl ?_
            refine x_iconst (v := (2 : Int32)) C dX12_seen_91 (by decide) ?_
            refine q_iadd C dX12_seen_92 ?_
            refine q_iload_n C dX12_seen_93 rfl ?_
            refine x_iast C dX12_seen_94 h (fun M16 h => ?_)
            refine q_aload_n C dX12_seen_95 rfl ?_
            refine x_getR (ci := 12) (j := 44) C dX12_seen_96 lkF_X12_80 rfl h (fun c17 h => ?_)
            refine x_nn h (fun r18 h => ?_)
            refine q_iload C dX12_seen_99 rfl ?_
            refine x_iconst (v := (3 : Int32)) C dX12_seen_101 (by decide) ?_
            refine q_iadd C dX12_seen_102 ?_
            refine q_iload C dX12_seen_103 rfl ?_
            refine x_iast C dX12_seen_105 h (fun M19 h => ?_)
            refine q_aload_n C dX12_seen_106 rfl ?_
            refine x_getR (ci := 12) (j := 44) C dX12_seen_107 lkF_X12_80 rfl h (fun c20 h => ?_)
            refine x_nn h (fun r21 h => ?_)
            refine q_iload C dX12_seen_110 rfl ?_
            refine x_iconst (v := (4 : Int32)) C dX12_seen_112 (by decide) ?_
            refine q_iadd C dX12_seen_113 ?_
            refine q_iload C dX12_seen_114 rfl ?_
            refine q_if_eq (tgt := 123) C dX12_seen_116 (by decide) h (fun _ h => ?_) (fun _ h => ?_)
            · refine x_iconst (v := (0 : Int32)) C dX12_seen_123 (by decide) ?_
              exact q_msk [true, false, false, false, false, false, false] (jW_X12_seen_124 C l0 r21 (((5 : Int32) * v7) + (4 : Int32)) (0 : Int32) M19 h)
            · refine x_iconst (v := (1 : Int32)) C dX12_seen_119 (by decide) ?_
              refine q_goto (tgt := 124) C dX12_seen_120 (by decide) ?_
              exact q_msk [true, false, false, false, false, false, false] (jW_X12_seen_124 C l0 r21 (((5 : Int32) * v7) + (4 : Int32)) (1 : Int32) M19 h)
