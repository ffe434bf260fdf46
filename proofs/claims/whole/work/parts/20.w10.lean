noncomputable def F_X11_weekAt (l0 : Nat) (l1 : Int32) (M : q_Mem) : Option (Nat) := (if l1 < 0 then some 0 else (q_gI M l0 11 15 (fun v1 => (if l1 < v1 then (q_gR M l0 11 5 (fun c2 => q_nn c2 (fun r3 => (q_lR M 4 r3 l1 (fun c4 => some c4))))) else some 0))))
set_option maxRecDepth 100000 in
set_option maxHeartbeats 4000000 in
theorem c_X11_weekAt (l : Launch) (G : q_G) (l0 : Nat) (l1 : Int32) (M : q_Mem) {r : Nat} (h : F_X11_weekAt l0 l1 M = some r) : q_Met l G yX11_weekAt cX11_weekAt 2 (Option.some (Jvm.ClassFile.FieldType.object "GongHouse$Week")) 1 0 0 [.ref l0, .int l1] M (some (q_rc r)) M := by
  unfold F_X11_weekAt at h
  refine q_enter [some (.ref l0), some (.int l1)] (by decide) (Nat.le_of_ble_eq_true rfl) rfl (fun K C => ?_)
  refine q_iload_n C dX11_weekAt_0 rfl ?_
  refine q_if_lt (tgt := 12) C dX11_weekAt_1 (by decide) h (fun _ h => ?_) (fun _ h => ?_)
  · refine q_null C dX11_weekAt_12 ?_
    refine q_goto (tgt := 22) C dX11_weekAt_13 (by decide) ?_
    exact q_aret (x := 0) (res := (r, M)) C dX11_weekAt_22 rfl (Or.inl ⟨_, rfl⟩) (by decide) (by decide) (congrArg (fun z => (z, M)) (Option.some.inj h))
  · refine q_iload_n C dX11_weekAt_4 rfl ?_
    refine q_aload_n C dX11_weekAt_5 rfl ?_
    refine x_getI (ci := 11) (j := 15) C dX11_weekAt_6 lkF_X11_107 rfl h (fun v1 h => ?_)
    refine q_icmp_lt (tgt := 16) C dX11_weekAt_9 (by decide) h (fun _ h => ?_) (fun _ h => ?_)
    · refine q_aload_n C dX11_weekAt_16 rfl ?_
      refine x_getR (ci := 11) (j := 5) C dX11_weekAt_17 lkF_X11_43 rfl h (fun c2 h => ?_)
      refine x_nn h (fun r3 h => ?_)
      refine q_iload_n C dX11_weekAt_20 rfl ?_
      refine x_aald C dX11_weekAt_21 (by decide) h (fun c4 h => ?_)
      exact q_aret (x := c4) (res := (r, M)) C dX11_weekAt_22 rfl (Or.inl ⟨_, rfl⟩) (by decide) (by decide) (congrArg (fun z => (z, M)) (Option.some.inj h))
    · refine q_null C dX11_weekAt_12 ?_
      refine q_goto (tgt := 22) C dX11_weekAt_13 (by decide) ?_
      exact q_aret (x := 0) (res := (r, M)) C dX11_weekAt_22 rfl (Or.inl ⟨_, rfl⟩) (by decide) (by decide) (congrArg (fun z => (z, M)) (Option.some.inj h))
noncomputable def F_X11_step (l0 : Nat) (l1 : Int32) (l2 : Int32) (l3 : Int32) (M : q_Mem) : Option (Int32) := (q_ob M l0 11 ((F_X11_weekAt l0 l1 M).bind (fun u1 => (match u1 with | 0 => some (-1000000 : Int32) | r2 + 1 => (if l2 < 0 then some (-1000000 : Int32) else (q_gI M r2 10 1 (fun v3 => (if l2 < v3 then (if l3 < 0 then some (-1000000 : Int32) else (if l3 < (3 : Int32) then (q_ob M r2 10 ((F_X10_ofStep r2 l2 l3 M).bind (fun u4 => some u4))) else some (-1000000 : Int32))) else some (-1000000 : Int32)))))))))
set_option maxRecDepth 100000 in
set_option maxHeartbeats 4000000 in
theorem c_X11_step (l : Launch) (G : q_G) (l0 : Nat) (l1 : Int32) (l2 : Int32) (l3 : Int32) (M : q_Mem) {r : Int32} (h : F_X11_step l0 l1 l2 l3 M = some r) : q_Met l G yX11_step cX11_step 5 (Option.some Jvm.ClassFile.FieldType.int) 2 0 0 [.ref l0, .int l1, .int l2, .int l3] M (some (.int r)) M := by
  unfold F_X11_step at h
  refine q_enter [some (.ref l0), some (.int l1), some (.int l2), some (.int l3), none] (by decide) (Nat.le_of_ble_eq_true rfl) rfl (fun K C => ?_)
  refine q_aload_n C dX11_step_0 rfl ?_
  refine q_iload_n C dX11_step_1 rfl ?_
  obtain ⟨hk, h⟩ := q_obE h
  obtain ⟨u1, e1, h⟩ := q_bind h
  refine x_callV0 C dX11_step_2 lkM_X11_235 mV_X11_weekAt ⟨_, rfl, rfl⟩ hk (c_X11_weekAt _ _ _ _ _ e1) rfl rfl (Nat.le_of_ble_eq_true rfl) (by decide) (by decide) ?_
  refine q_astoreC (L' := [some (.ref l0), some (.int l1), some (.int l2), some (.int l3), some (q_rc u1)]) C dX11_step_5 (by decide) rfl rfl ?_
  refine q_aloadC C dX11_step_7 rfl ?_
  refine q_ifnull (tgt := 34) C dX11_step_9 (by decide) h (fun hn h => ?_) (fun r2 hn h => ?_)
  · subst hn
    refine q_ldc (v := (-1000000 : Int32)) C dX11_step_34 wd_866 ?_
    exact q_iret (res := (r, M)) C dX11_step_36 rfl (by decide) (by decide) (congrArg (fun z => (z, M)) (Option.some.inj h))
  · subst hn
    refine q_iload_n C dX11_step_12 rfl ?_
    refine q_if_lt (tgt := 34) C dX11_step_13 (by decide) h (fun _ h => ?_) (fun _ h => ?_)
    · refine q_ldc (v := (-1000000 : Int32)) C dX11_step_34 wd_866 ?_
      exact q_iret (res := (r, M)) C dX11_step_36 rfl (by decide) (by decide) (congrArg (fun z => (z, M)) (Option.some.inj h))
    · refine q_iload_n C dX11_step_16 rfl ?_
      refine q_aload C dX11_step_17 rfl ?_
      refine x_getI (ci := 10) (j := 1) C dX11_step_19 lkF_X11_239 rfl h (fun v3 h => ?_)
      refine q_icmp_ge (tgt := 34) C dX11_step_22 (by decide) h (fun _ h => ?_) (fun _ h => ?_)
      · refine q_iload_n C dX11_step_25 rfl ?_
        refine q_if_lt (tgt := 34) C dX11_step_26 (by decide) h (fun _ h => ?_) (fun _ h => ?_)
        · refine q_ldc (v := (-1000000 : Int32)) C dX11_step_34 wd_866 ?_
          exact q_iret (res := (r, M)) C dX11_step_36 rfl (by decide) (by decide) (congrArg (fun z => (z, M)) (Option.some.inj h))
        · refine q_iload_n C dX11_step_29 rfl ?_
          refine x_iconst (v := (3 : Int32)) C dX11_step_30 (by decide) ?_
          refine q_icmp_lt (tgt := 37) C dX11_step_31 (by decide) h (fun _ h => ?_) (fun _ h => ?_)
          · refine q_aload C dX11_step_37 rfl ?_
            refine q_iload_n C dX11_step_39 rfl ?_
            refine q_iload_n C dX11_step_40 rfl ?_
            obtain ⟨hk, h⟩ := q_obE h
            obtain ⟨u4, e1, h⟩ := q_bind h
            refine x_callV0 C dX11_step_41 lkM_X11_242 mV_X10_ofStep ⟨_, rfl, rfl⟩ hk (c_X10_ofStep _ _ _ _ _ _ e1) rfl rfl (Nat.le_of_ble_eq_true rfl) (by decide) (by decide) ?_
            exact q_iret (res := (r, M)) C dX11_step_44 rfl (by decide) (by decide) (congrArg (fun z => (z, M)) (Option.some.inj h))
          · refine q_ldc (v := (-1000000 : Int32)) C dX11_step_34 wd_866 ?_
            exact q_iret (res := (r, M)) C dX11_step_36 rfl (by decide) (by decide) (congrArg (fun z => (z, M)) (Option.some.inj h))
      · refine q_ldc (v := (-1000000 : Int32)) C dX11_step_34 wd_866 ?_
        exact q_iret (res := (r, M)) C dX11_step_36 rfl (by decide) (by decide) (congrArg (fun z => (z, M)) (Option.some.inj h))
noncomputable def F_X11_run (l0 : Nat) (l1 : Int32) (l2 : Int32) (M : q_Mem) : Option (Int32 × q_Mem) := (q_ob M l0 11 ((F_X11_weekAt l0 l1 M).bind (fun u1 => (match u1 with | 0 => some ((-1000000 : Int32), M) | r2 + 1 => (q_gI M l0 11 18 (fun v3 => (if v3 = 0 then some ((-1000000 : Int32), M) else (if l2 < 0 then some ((-1000000 : Int32), M) else (if (1 : Int32) < l2 then some ((-1000000 : Int32), M) else (q_gR M l0 11 11 (fun c4 => q_nn c4 (fun r5 => (q_gR M l0 11 6 (fun c6 => q_nn c6 (fun r7 => (q_ob M r5 2 ((F_X2_stepsDone r5 r7 r2 M).bind (fun x => match x with | (u8, M9) => (if l2 = (1 : Int32) then (q_gR M9 l0 11 11 (fun c10 => q_nn c10 (fun r11 => (q_gI M9 r11 2 7 (fun v12 => some (v12, M9)))))) else (q_gI M9 r2 10 1 (fun v13 => (if u8 = v13 then some ((-1 : Int32), M9) else some (u8, M9)))))))))))))))))))))))
set_option maxRecDepth 100000 in
set_option maxHeartbeats 4000000 in
theorem c_X11_run (l : Launch) (G : q_G) (l0 : Nat) (l1 : Int32) (l2 : Int32) (M : q_Mem) {r : Int32} {M' : q_Mem} (h : F_X11_run l0 l1 l2 M = some (r, M')) : q_Met l G yX11_run cX11_run 5 (Option.some Jvm.ClassFile.FieldType.int) 8 0 0 [.ref l0, .int l1, .int l2] M (some (.int r)) M' := by
  unfold F_X11_run at h
  refine q_enter [some (.ref l0), some (.int l1), some (.int l2), none, none] (by decide) (Nat.le_of_ble_eq_true rfl) rfl (fun K C => ?_)
  refine q_aload_n C dX11_run_0 rfl ?_
  refine q_iload_n C dX11_run_1 rfl ?_
  obtain ⟨hk, h⟩ := q_obE h
  obtain ⟨u1, e1, h⟩ := q_bind h
  refine x_callV0 C dX11_run_2 lkM_X11_235 mV_X11_weekAt ⟨_, rfl, rfl⟩ hk (c_X11_weekAt _ _ _ _ _ e1) rfl rfl (Nat.le_of_ble_eq_true rfl) (by decide) (by decide) ?_
  refine q_astoreC_n (L' := [some (.ref l0), some (.int l1), some (.int l2), some (q_rc u1), none]) C dX11_run_5 (by decide) rfl rfl ?_
  refine q_aloadC_n C dX11_run_6 rfl ?_
  refine q_ifnull (tgt := 26) C dX11_run_7 (by decide) h (fun hn h => ?_) (fun r2 hn h => ?_)
  · subst hn
    refine q_ldc (v := (-1000000 : Int32)) C dX11_run_26 wd_866 ?_
    exact q_iret C dX11_run_28 rfl (by decide) (by decide) (Option.some.inj h)
  · subst hn
    refine q_aload_n C dX11_run_10 rfl ?_
    refine x_getI (ci := 11) (j := 18) C dX11_run_11 lkF_X11_116 rfl h (fun v3 h => ?_)
    refine q_if_eq (tgt := 26) C dX11_run_14 (by decide) h (fun _ h => ?_) (fun _ h => ?_)
    · refine q_ldc (v := (-1000000 : Int32)) C dX11_run_26 wd_866 ?_
      exact q_iret C dX11_run_28 rfl (by decide) (by decide) (Option.some.inj h)
    · refine q_iload_n C dX11_run_17 rfl ?_
      refine q_if_lt (tgt := 26) C dX11_run_18 (by decide) h (fun _ h => ?_) (fun _ h => ?_)
      · refine q_ldc (v := (-1000000 : Int32)) C dX11_run_26 wd_866 ?_
        exact q_iret C dX11_run_28 rfl (by decide) (by decide) (Option.some.inj h)
      · refine q_iload_n C dX11_run_21 rfl ?_
        refine x_iconst (v := (1 : Int32)) C dX11_run_22 (by decide) ?_
        refine q_icmp_le (tgt := 29) C dX11_run_23 (by decide) h (fun _ h => ?_) (fun _ h => ?_)
        · refine q_ldc (v := (-1000000 : Int32)) C dX11_run_26 wd_866 ?_
          exact q_iret C dX11_run_28 rfl (by decide) (by decide) (Option.some.inj h)
        · refine q_aload_n C dX11_run_29 rfl ?_
          refine x_getR (ci := 11) (j := 11) C dX11_run_30 lkF_X11_87 rfl h (fun c4 h => ?_)
          refine x_nn h (fun r5 h => ?_)
          refine q_aload_n C dX11_run_33 rfl ?_
          refine x_getR (ci := 11) (j := 6) C dX11_run_34 lkF_X11_50 rfl h (fun c6 h => ?_)
          refine x_nn h (fun r7 h => ?_)
          refine q_aload_n C dX11_run_37 rfl ?_
          obtain ⟨hk, h⟩ := q_obE h
          obtain ⟨⟨u8, M9⟩, e1, h⟩ := q_bind h
          refine x_callV0 C dX11_run_38 lkM_X11_245 mV_X2_stepsDone ⟨_, rfl, rfl⟩ hk (c_X2_stepsDone _ _ _ _ _ _ e1) rfl rfl (Nat.le_of_ble_eq_true rfl) (by decide) (by decide) ?_
          refine q_istore (L' := [some (.ref l0), some (.int l1), some (.int l2), some (.ref r2), some (.int u8)]) C dX11_run_41 (by decide) rfl rfl ?_
          refine q_iload_n C dX11_run_43 rfl ?_
          refine x_iconst (v := (1 : Int32)) C dX11_run_44 (by decide) ?_
          refine q_icmp_ne (tgt := 56) C dX11_run_45 (by decide) h (fun _ h => ?_) (fun _ h => ?_)
          · refine q_aload_n C dX11_run_48 rfl ?_
            refine x_getR (ci := 11) (j := 11) C dX11_run_49 lkF_X11_87 rfl h (fun c10 h => ?_)
            refine x_nn h (fun r11 h => ?_)
            refine x_getI (ci := 2) (j := 7) C dX11_run_52 lkF_X11_249 rfl h (fun v12 h => ?_)
            exact q_iret C dX11_run_55 rfl (by decide) (by decide) (Option.some.inj h)
          · refine q_iload C dX11_run_56 rfl ?_
            refine q_aload_n C dX11_run_58 rfl ?_
            refine x_getI (ci := 10) (j := 1) C dX11_run_59 lkF_X11_239 rfl h (fun v13 h => ?_)
            refine q_icmp_ne (tgt := 69) C dX11_run_62 (by decide) h (fun _ h => ?_) (fun _ h => ?_)
            · refine x_iconst (v := (-1 : Int32)) C dX11_run_65 (by decide) ?_
              refine q_goto (tgt := 71) C dX11_run_66 (by decide) ?_
              exact q_iret C dX11_run_71 rfl (by decide) (by decide) (Option.some.inj h)
            · refine q_iload C dX11_run_69 rfl ?_
              exact q_iret C dX11_run_71 rfl (by decide) (by decide) (Option.some.inj h)
noncomputable def B_X11_perform_21 (l0 : Nat) (l2 : Nat) (l3 : Int32) (M : q_Mem) : Option ((Int32 × q_Mem) ⊕ ((Int32 × q_Mem) ⊕ (q_Mem))) := (q_gI M l2 10 1 (fun v4 => (if l3 < v4 then (q_ob M l2 10 ((F_X10_ofStep l2 l3 (0 : Int32) M).bind (fun u5 => (q_ob M l2 10 ((F_X10_ofStep l2 l3 (1 : Int32) M).bind (fun u6 => (q_ob M l2 10 ((F_X10_ofStep l2 l3 (2 : Int32) M).bind (fun u7 => (q_ob M l0 11 ((F_X11_act l0 u5 u6 u7 M).bind (fun x => match x with | (u8, M9) => (if u8 = 0 then some (.inr (.inl (l3, M9))) else some (.inl ((l3 + (1 : Int32)), M9))))))))))))))) else some (.inr (.inr M)))))
set_option maxRecDepth 100000 in
set_option maxHeartbeats 4000000 in
theorem bW_X11_perform_21 {K : q_K} {Q : State → Prop} (C : q_C K yX11_perform cX11_perform 4 (Option.some Jvm.ClassFile.FieldType.int) 8 0 0) (l0 : Nat) (l2 : Nat) (l3 : Int32) (M : q_Mem) {stp : (Int32 × q_Mem) ⊕ ((Int32 × q_Mem) ⊕ (q_Mem))} (h : B_X11_perform_21 l0 l2 l3 M = some stp) (kC : ∀ (l3 : Int32) (M : q_Mem), stp = .inl (l3, M) → q_W K 4 Q 0 0 M 21 [some (.ref l0), none, some (.ref l2), some (.int l3)] []) (kE0 : ∀ (l3 : Int32) (M : q_Mem), stp = .inr (.inl (l3, M)) → q_W K 4 Q 0 0 M 54 [none, none, none, some (.int l3)] []) (kE1 : ∀ (M : q_Mem), stp = .inr (.inr M) → q_W K 4 Q 0 0 M 62 [none, none, some (.ref l2), none] []) : q_W K 4 Q 0 0 M 21 [some (.ref l0), none, some (.ref l2), some (.int l3)] [] := by
  unfold B_X11_perform_21 at h
  refine q_iload_n C dX11_perform_21 rfl ?_
  refine q_aload_n C dX11_perform_22 rfl ?_
  refine x_getI (ci := 10) (j := 1) C dX11_perform_23 lkF_X11_239 rfl h (fun v4 h => ?_)
  refine q_icmp_ge (tgt := 62) C dX11_perform_26 (by decide) h (fun _ h => ?_) (fun _ h => ?_)
  · refine q_aload_n C dX11_perform_29 rfl ?_
    refine q_aload_n C dX11_perform_30 rfl ?_
    refine q_iload_n C dX11_perform_31 rfl ?_
    refine x_iconst (v := (0 : Int32)) C dX11_perform_32 (by decide) ?_
    obtain ⟨hk, h⟩ := q_obE h
    obtain ⟨u5, e1, h⟩ := q_bind h
    refine x_callV0 C dX11_perform_33 lkM_X11_242 mV_X10_ofStep ⟨_, rfl, rfl⟩ hk (c_X10_ofStep _ _ _ _ _ _ e1) rfl rfl (Nat.le_of_ble_eq_true rfl) (by decide) (by decide) ?_
    refine q_aload_n C dX11_perform_36 rfl ?_
    refine q_iload_n C dX11_perform_37 rfl ?_
    refine x_iconst (v := (1 : Int32)) C dX11_perform_38 (by decide) ?_
    obtain ⟨hk, h⟩ := q_obE h
    obtain ⟨u6, e1, h⟩ := q_bind h
    refine x_callV0 C dX11_perform_39 lkM_X11_242 mV_X10_ofStep ⟨_, rfl, rfl⟩ hk (c_X10_ofStep _ _ _ _ _ _ e1) rfl rfl (Nat.le_of_ble_eq_true rfl) (by decide) (by decide) ?_
    refine q_aload_n C dX11_perform_42 rfl ?_
    refine q_iload_n C dX11_perform_43 rfl ?_
    refine x_iconst (v := (2 : Int32)) C dX11_perform_44 (by decide) ?_
    obtain ⟨hk, h⟩ := q_obE h
    obtain ⟨u7, e1, h⟩ := q_bind h
    refine x_callV0 C dX11_perform_45 lkM_X11_242 mV_X10_ofStep ⟨_, rfl, rfl⟩ hk (c_X10_ofStep _ _ _ _ _ _ e1) rfl rfl (Nat.le_of_ble_eq_true rfl) (by decide) (by decide) ?_
    obtain ⟨hk, h⟩ := q_obE h
    obtain ⟨⟨u8, M9⟩, e1, h⟩ := q_bind h
    refine x_callV0 C dX11_perform_48 lkM_X11_192 mV_X11_act ⟨_, rfl, rfl⟩ hk (c_X11_act _ _ _ _ _ _ _ e1) rfl rfl (Nat.le_of_ble_eq_true rfl) (by decide) (by decide) ?_
    refine q_if_ne (tgt := 56) C dX11_perform_51 (by decide) h (fun _ h => ?_) (fun _ h => ?_)
    · exact q_msk [false, false, false, true] (kE0 _ _ (Option.some.inj h).symm)
    · refine x_iinc (w := (1 : Int32)) (L' := [some (.ref l0), none, some (.ref l2), some (.int (l3 + (1 : Int32)))]) C dX11_perform_56 rfl (by decide) (by decide) rfl rfl ?_
      refine q_goto (tgt := 21) C dX11_perform_59 (by decide) ?_
      exact q_msk [true, false, true, true] (kC _ _ (Option.some.inj h).symm)
  · exact q_msk [false, false, true, false] (kE1 _ (Option.some.inj h).symm)
set_option maxRecDepth 100000 in
set_option maxHeartbeats 4000000 in
theorem lW_X11_perform_21 {K : q_K} {Q : State → Prop} (C : q_C K yX11_perform cX11_perform 4 (Option.some Jvm.ClassFile.FieldType.int) 8 0 0) (l0 : Nat) (l2 : Nat) (n : Nat) : ∀ (l3 : Int32) (M : q_Mem) (e : ((Int32 × q_Mem) ⊕ (q_Mem))), q_lp (fun s => B_X11_perform_21 l0 l2 s.1 s.2) n (l3, M) = some e → (∀ (l3 : Int32) (M : q_Mem), e = (.inl (l3, M)) → q_W K 4 Q 0 0 M 54 [none, none, none, some (.int l3)] []) → (∀ (M : q_Mem), e = (.inr M) → q_W K 4 Q 0 0 M 62 [none, none, some (.ref l2), none] []) → q_W K 4 Q 0 0 M 21 [some (.ref l0), none, some (.ref l2), some (.int l3)] [] := by
  induction n with
  | zero => intro l3 M e h; cases h
  | succ n ih =>
    intro l3 M e h kE0 kE1
    obtain ⟨stp, e1, e2⟩ := q_bind h
    refine bW_X11_perform_21 C l0 l2 l3 M e1 (fun a0 a1 hs => ?_) (fun b0 b1 hs => ?_) (fun b0 hs => ?_)
    · subst hs; exact ih _ _ _ e2 kE0 kE1
    · subst hs; exact kE0 _ _ (Option.some.inj e2).symm
    · subst hs; exact kE1 _ (Option.some.inj e2).symm
noncomputable def F_X11_perform (l0 : Nat) (l1 : Int32) (M : q_Mem) : Option (Int32 × q_Mem) := (q_ob M l0 11 ((F_X11_weekAt l0 l1 M).bind (fun u1 => (match u1 with | 0 => some ((-1 : Int32), M) | r2 + 1 => (q_gI M l0 11 18 (fun v3 => (if v3 = 0 then some ((-1 : Int32), M) else (q_lp (fun s => B_X11_perform_21 l0 r2 s.1 s.2) q_fu ((0 : Int32), M)).bind (fun e10 => match e10 with | .inl (w11, M12) => some (w11, M12) | .inr M13 => (q_gI M13 r2 10 1 (fun v14 => some (v14, M13)))))))))))
set_option maxRecDepth 100000 in
set_option maxHeartbeats 4000000 in
theorem c_X11_perform (l : Launch) (G : q_G) (l0 : Nat) (l1 : Int32) (M : q_Mem) {r : Int32} {M' : q_Mem} (h : F_X11_perform l0 l1 M = some (r, M')) : q_Met l G yX11_perform cX11_perform 4 (Option.some Jvm.ClassFile.FieldType.int) 8 0 0 [.ref l0, .int l1] M (some (.int r)) M' := by
  unfold F_X11_perform at h
  refine q_enter [some (.ref l0), some (.int l1), none, none] (by decide) (Nat.le_of_ble_eq_true rfl) rfl (fun K C => ?_)
  refine q_aload_n C dX11_perform_0 rfl ?_
  refine q_iload_n C dX11_perform_1 rfl ?_
  obtain ⟨hk, h⟩ := q_obE h
  obtain ⟨u1, e1, h⟩ := q_bind h
  refine x_callV0 C dX11_perform_2 lkM_X11_235 mV_X11_weekAt ⟨_, rfl, rfl⟩ hk (c_X11_weekAt _ _ _ _ _ e1) rfl rfl (Nat.le_of_ble_eq_true rfl) (by decide) (by decide) ?_
  refine q_astoreC_n (L' := [some (.ref l0), some (.int l1), some (q_rc u1), none]) C dX11_perform_5 (by decide) rfl rfl ?_
  refine q_aloadC_n C dX11_perform_6 rfl ?_
  refine q_ifnull (tgt := 17) C dX11_perform_7 (by decide) h (fun hn h => ?_) (fun r2 hn h => ?_)
  · subst hn
    refine x_iconst (v := (-1 : Int32)) C dX11_perform_17 (by decide) ?_
    exact q_iret C dX11_perform_18 rfl (by decide) (by decide) (Option.some.inj h)
  · subst hn
    refine q_aload_n C dX11_perform_10 rfl ?_
    refine x_getI (ci := 11) (j := 18) C dX11_perform_11 lkF_X11_116 rfl h (fun v3 h => ?_)
    refine q_if_ne (tgt := 19) C dX11_perform_14 (by decide) h (fun _ h => ?_) (fun _ h => ?_)
    · refine x_iconst (v := (-1 : Int32)) C dX11_perform_17 (by decide) ?_
      exact q_iret C dX11_perform_18 rfl (by decide) (by decide) (Option.some.inj h)
    · refine x_iconst (v := (0 : Int32)) C dX11_perform_19 (by decide) ?_
      refine q_istore_n (L' := [some (.ref l0), some (.int l1), some (.ref r2), some (.int (0 : Int32))]) C dX11_perform_20 (by decide) rfl rfl ?_
      obtain ⟨e10, he, h⟩ := q_bind h
      refine q_msk [true, false, true, true] (lW_X11_perform_21 C l0 r2 q_fu _ _ _ he (fun w11 M12 hs => ?_) (fun M13 hs => ?_))
      · have hs := hs.symm
        subst hs
        refine q_iload_n C dX11_perform_54 rfl ?_
        exact q_iret C dX11_perform_55 rfl (by decide) (by decide) (Option.some.inj h)
      · have hs := hs.symm
        subst hs
        refine q_aload_n C dX11_perform_62 rfl ?_
        refine x_getI (ci := 10) (j := 1) C dX11_perform_63 lkF_X11_239 rfl h (fun v14 h => ?_)
        exact q_iret C dX11_perform_66 rfl (by decide) (by decide) (Option.some.inj h)
noncomputable def F_X11_serves (l0 : Nat) (l1 : Int32) (l2 : Int32) (M : q_Mem) : Option (Int32 × q_Mem) := (q_gI M l0 11 18 (fun v1 => (if v1 = 0 then some ((-1 : Int32), M) else (if l1 < 0 then some ((-1 : Int32), M) else (if (20 : Int32) < l1 then some ((-1 : Int32), M) else (q_gR M l0 11 11 (fun c2 => q_nn c2 (fun r3 => (q_gR M l0 11 6 (fun c4 => q_nn c4 (fun r5 => (q_ob M r3 2 ((F_X2_layAhead r3 r5 l1 M).bind (fun x => match x with | (_, M7) => (q_gR M7 l0 11 9 (fun c8 => q_nn c8 (fun r9 => (q_gI M7 r9 1 7 (fun v10 => (if v10 = (-1 : Int32) then some ((-1 : Int32), M7) else (if l2 = (0 : Int32) then (q_gR M7 l0 11 9 (fun c11 => q_nn c11 (fun r12 => (q_gI M7 r12 1 7 (fun v13 => some (v13, M7)))))) else (if l2 = (1 : Int32) then (q_gR M7 l0 11 9 (fun c14 => q_nn c14 (fun r15 => (q_gI M7 r15 1 8 (fun v16 => some (v16, M7)))))) else (if l2 = (2 : Int32) then (q_gR M7 l0 11 9 (fun c17 => q_nn c17 (fun r18 => (q_gI M7 r18 1 9 (fun v19 => some (v19, M7)))))) else some ((-1 : Int32), M7))))))))))))))))))))))))
set_option maxRecDepth 100000 in
set_option maxHeartbeats 4000000 in
theorem c_X11_serves (l : Launch) (G : q_G) (l0 : Nat) (l1 : Int32) (l2 : Int32) (M : q_Mem) {r : Int32} {M' : q_Mem} (h : F_X11_serves l0 l1 l2 M = some (r, M')) : q_Met l G yX11_serves cX11_serves 3 (Option.some Jvm.ClassFile.FieldType.int) 7 0 0 [.ref l0, .int l1, .int l2] M (some (.int r)) M' := by
  unfold F_X11_serves at h
  refine q_enter [some (.ref l0), some (.int l1), some (.int l2)] (by decide) (Nat.le_of_ble_eq_true rfl) rfl (fun K C => ?_)
  refine q_aload_n C dX11_serves_0 rfl ?_
  refine x_getI (ci := 11) (j := 18) C dX11_serves_1 lkF_X11_116 rfl h (fun v1 h => ?_)
  refine q_if_eq (tgt := 17) C dX11_serves_4 (by decide) h (fun _ h => ?_) (fun _ h => ?_)
  · refine x_iconst (v := (-1 : Int32)) C dX11_serves_17 (by decide) ?_
    exact q_iret C dX11_serves_18 rfl (by decide) (by decide) (Option.some.inj h)
  · refine q_iload_n C dX11_serves_7 rfl ?_
    refine q_if_lt (tgt := 17) C dX11_serves_8 (by decide) h (fun _ h => ?_) (fun _ h => ?_)
    · refine x_iconst (v := (-1 : Int32)) C dX11_serves_17 (by decide) ?_
      exact q_iret C dX11_serves_18 rfl (by decide) (by decide) (Option.some.inj h)
    · refine q_iload_n C dX11_serves_11 rfl ?_
      refine x_bipush (v := (20 : Int32)) C dX11_serves_12 (by decide) ?_
      refine q_icmp_le (tgt := 19) C dX11_serves_14 (by decide) h (fun _ h => ?_) (fun _ h => ?_)
      · refine x_iconst (v := (-1 : Int32)) C dX11_serves_17 (by decide) ?_
        exact q_iret C dX11_serves_18 rfl (by decide) (by decide) (Option.some.inj h)
      · refine q_aload_n C dX11_serves_19 rfl ?_
        refine x_getR (ci := 11) (j := 11) C dX11_serves_20 lkF_X11_87 rfl h (fun c2 h => ?_)
        refine x_nn h (fun r3 h => ?_)
        refine q_aload_n C dX11_serves_23 rfl ?_
        refine x_getR (ci := 11) (j := 6) C dX11_serves_24 lkF_X11_50 rfl h (fun c4 h => ?_)
        refine x_nn h (fun r5 h => ?_)
        refine q_iload_n C dX11_serves_27 rfl ?_
        obtain ⟨hk, h⟩ := q_obE h
        obtain ⟨⟨_, M7⟩, e1, h⟩ := q_bind h
        refine x_callVv0 C dX11_serves_28 lkM_X11_252 mV_X2_layAhead ⟨_, rfl, rfl⟩ hk (c_X2_layAhead _ _ _ _ _ _ e1) rfl rfl (Nat.le_of_ble_eq_true rfl) (by decide) (by decide) ?_
        refine q_aload_n C dX11_serves_31 rfl ?_
        refine x_getR (ci := 11) (j := 9) C dX11_serves_32 lkF_X11_69 rfl h (fun c8 h => ?_)
        refine x_nn h (fun r9 h => ?_)
        refine x_getI (ci := 1) (j := 7) C dX11_serves_35 lkF_X11_256 rfl h (fun v10 h => ?_)
        refine x_iconst (v := (-1 : Int32)) C dX11_serves_38 (by decide) ?_
        refine q_icmp_ne (tgt := 44) C dX11_serves_39 (by decide) h (fun _ h => ?_) (fun _ h => ?_)
        · refine x_iconst (v := (-1 : Int32)) C dX11_serves_42 (by decide) ?_
          exact q_iret C dX11_serves_43 rfl (by decide) (by decide) (Option.some.inj h)
        · refine q_iload_n C dX11_serves_44 rfl ?_
          by_cases hs45_0 : l2 = (0 : Int32)
          · have h := q_iteT h hs45_0
            refine q_tsIn (tgt := 72) C dX11_serves_45 hs45_0 (by decide) (by decide) rfl (by decide) ?_
            refine q_aload_n C dX11_serves_72 rfl ?_
            refine x_getR (ci := 11) (j := 9) C dX11_serves_73 lkF_X11_69 rfl h (fun c11 h => ?_)
            refine x_nn h (fun r12 h => ?_)
            refine x_getI (ci := 1) (j := 7) C dX11_serves_76 lkF_X11_256 rfl h (fun v13 h => ?_)
            exact q_iret C dX11_serves_79 rfl (by decide) (by decide) (Option.some.inj h)
          have h := q_iteF h hs45_0
          by_cases hs45_1 : l2 = (1 : Int32)
          · have h := q_iteT h hs45_1
            refine q_tsIn (tgt := 80) C dX11_serves_45 hs45_1 (by decide) (by decide) rfl (by decide) ?_
            refine q_aload_n C dX11_serves_80 rfl ?_
            refine x_getR (ci := 11) (j := 9) C dX11_serves_81 lkF_X11_69 rfl h (fun c14 h => ?_)
            refine x_nn h (fun r15 h => ?_)
            refine x_getI (ci := 1) (j := 8) C dX11_serves_84 lkF_X11_259 rfl h (fun v16 h => ?_)
            exact q_iret C dX11_serves_87 rfl (by decide) (by decide) (Option.some.inj h)
          have h := q_iteF h hs45_1
          by_cases hs45_2 : l2 = (2 : Int32)
          · have h := q_iteT h hs45_2
            refine q_tsIn (tgt := 88) C dX11_serves_45 hs45_2 (by decide) (by decide) rfl (by decide) ?_
            refine q_aload_n C dX11_serves_88 rfl ?_
            refine x_getR (ci := 11) (j := 9) C dX11_serves_89 lkF_X11_69 rfl h (fun c17 h => ?_)
            refine x_nn h (fun r18 h => ?_)
            refine x_getI (ci := 1) (j := 9) C dX11_serves_92 lkF_X11_262 rfl h (fun v19 h => ?_)
            exact q_iret C dX11_serves_95 rfl (by decide) (by decide) (Option.some.inj h)
          have h := q_iteF h hs45_2
          have ho45 : (l2 : Int32).toInt < 0 ∨ 2 < (l2 : Int32).toInt := by
            have z0 := lv_neT (a := 0) hs45_0 (by decide)
            have z1 := lv_neT (a := 1) hs45_1 (by decide)
            have z2 := lv_neT (a := 2) hs45_2 (by decide)
            omega
          refine q_tsOut (tgt := 96) C dX11_serves_45 ho45 (by decide) ?_
          refine x_iconst (v := (-1 : Int32)) C dX11_serves_96 (by decide) ?_
          exact q_iret C dX11_serves_97 rfl (by decide) (by decide) (Option.some.inj h)
noncomputable def F_X11_there (l0 : Nat) (l1 : Int32) (M : q_Mem) : Option (Int32 × q_Mem) := (q_gI M l0 11 18 (fun v1 => (if v1 = 0 then some ((-1 : Int32), M) else (if l1 < 0 then some ((-1 : Int32), M) else (if (20 : Int32) < l1 then some ((-1 : Int32), M) else (q_gR M l0 11 11 (fun c2 => q_nn c2 (fun r3 => (q_gR M l0 11 6 (fun c4 => q_nn c4 (fun r5 => (q_ob M r3 2 ((F_X2_layAhead r3 r5 l1 M).bind (fun x => match x with | (_, M7) => (q_gR M7 l0 11 9 (fun c8 => q_nn c8 (fun r9 => (q_gI M7 r9 1 4 (fun v10 => some (v10, M7))))))))))))))))))))
set_option maxRecDepth 100000 in
set_option maxHeartbeats 4000000 in
theorem c_X11_there (l : Launch) (G : q_G) (l0 : Nat) (l1 : Int32) (M : q_Mem) {r : Int32} {M' : q_Mem} (h : F_X11_there l0 l1 M = some (r, M')) : q_Met l G yX11_there cX11_there 2 (Option.some Jvm.ClassFile.FieldType.int) 7 0 0 [.ref l0, .int l1] M (some (.int r)) M' := by
  unfold F_X11_there at h
  refine q_enter [some (.ref l0), some (.int l1)] (by decide) (Nat.le_of_ble_eq_true rfl) rfl (fun K C => ?_)
  refine q_aload_n C dX11_there_0 rfl ?_
  refine x_getI (ci := 11) (j := 18) C dX11_there_1 lkF_X11_116 rfl h (fun v1 h => ?_)
  refine q_if_eq (tgt := 17) C dX11_there_4 (by decide) h (fun _ h => ?_) (fun _ h => ?_)
  · refine x_iconst (v := (-1 : Int32)) C dX11_there_17 (by decide) ?_
    exact q_iret C dX11_there_18 rfl (by decide) (by decide) (Option.some.inj h)
  · refine q_iload_n C dX11_there_7 rfl ?_
    refine q_if_lt (tgt := 17) C dX11_there_8 (by decide) h (fun _ h => ?_) (fun _ h => ?_)
    · refine x_iconst (v := (-1 : Int32)) C dX11_there_17 (by decide) ?_
      exact q_iret C dX11_there_18 rfl (by decide) (by decide) (Option.some.inj h)
    · refine q_iload_n C dX11_there_11 rfl ?_
      refine x_bipush (v := (20 : Int32)) C dX11_there_12 (by decide) ?_
      refine q_icmp_le (tgt := 19) C dX11_there_14 (by decide) h (fun _ h => ?_) (fun _ h => ?_)
      · refine x_iconst (v := (-1 : Int32)) C dX11_there_17 (by decide) ?_
        exact q_iret C dX11_there_18 rfl (by decide) (by decide) (Option.some.inj h)
      · refine q_aload_n C dX11_there_19 rfl ?_
        refine x_getR (ci := 11) (j := 11) C dX11_there_20 lkF_X11_87 rfl h (fun c2 h => ?_)
        refine x_nn h (fun r3 h => ?_)
        refine q_aload_n C dX11_there_23 rfl ?_
        refine x_getR (ci := 11) (j := 6) C dX11_there_24 lkF_X11_50 rfl h (fun c4 h => ?_)
        refine x_nn h (fun r5 h => ?_)
        refine q_iload_n C dX11_there_27 rfl ?_
        obtain ⟨hk, h⟩ := q_obE h
        obtain ⟨⟨_, M7⟩, e1, h⟩ := q_bind h
        refine x_callVv0 C dX11_there_28 lkM_X11_252 mV_X2_layAhead ⟨_, rfl, rfl⟩ hk (c_X2_layAhead _ _ _ _ _ _ e1) rfl rfl (Nat.le_of_ble_eq_true rfl) (by decide) (by decide) ?_
        refine q_aload_n C dX11_there_31 rfl ?_
        refine x_getR (ci := 11) (j := 9) C dX11_there_32 lkF_X11_69 rfl h (fun c8 h => ?_)
        refine x_nn h (fun r9 h => ?_)
        refine x_getI (ci := 1) (j := 4) C dX11_there_35 lkF_X11_265 rfl h (fun v10 h => ?_)
        exact q_iret C dX11_there_38 rfl (by decide) (by decide) (Option.some.inj h)
noncomputable def F_X11_fed (l0 : Nat) (l1 : Int32) (M : q_Mem) : Option (Int32 × q_Mem) := (q_gR M l0 11 1 (fun c1 => q_nn c1 (fun r2 => (q_ob M r2 3 ((F_X3_hasGuest r2 l1 M).bind (fun u3 => (if u3 = 0 then some ((-1 : Int32), M) else (q_gR M l0 11 9 (fun c4 => q_nn c4 (fun r5 => (q_gR M l0 11 6 (fun c6 => q_nn c6 (fun r7 => (q_ob M r5 1 ((F_X1_isThere r5 r7 l1 M).bind (fun u8 => (if u8 = 0 then some ((-1 : Int32), M) else (q_gR M l0 11 9 (fun c9 => q_nn c9 (fun r10 => (q_gR M l0 11 6 (fun c11 => q_nn c11 (fun r12 => (q_ob M r10 1 ((F_X1_lay r10 r12 M).bind (fun x => match x with | (_, M14) => (q_gR M14 l0 11 9 (fun c15 => q_nn c15 (fun r16 => (q_gR M14 r16 1 1 (fun c17 => q_nn c17 (fun r18 => (q_lI M14 0 r18 l1 (fun v19 => some (v19, M14)))))))))))))))))))))))))))))))))))
set_option maxRecDepth 100000 in
set_option maxHeartbeats 4000000 in
theorem c_X11_fed (l : Launch) (G : q_G) (l0 : Nat) (l1 : Int32) (M : q_Mem) {r : Int32} {M' : q_Mem} (h : F_X11_fed l0 l1 M = some (r, M')) : q_Met l G yX11_fed cX11_fed 2 (Option.some Jvm.ClassFile.FieldType.int) 4 0 0 [.ref l0, .int l1] M (some (.int r)) M' := by
  unfold F_X11_fed at h
  refine q_enter [some (.ref l0), some (.int l1)] (by decide) (Nat.le_of_ble_eq_true rfl) rfl (fun K C => ?_)
  refine q_aload_n C dX11_fed_0 rfl ?_
  refine x_getR (ci := 11) (j := 1) C dX11_fed_1 lkF_X11_19 rfl h (fun c1 h => ?_)
  refine x_nn h (fun r2 h => ?_)
  refine q_iload_n C dX11_fed_4 rfl ?_
  obtain ⟨hk, h⟩ := q_obE h
  obtain ⟨u3, e1, h⟩ := q_bind h
  refine x_callV0 C dX11_fed_5 lkM_X11_170 mV_X3_hasGuest ⟨_, rfl, rfl⟩ hk (c_X3_hasGuest _ _ _ _ _ e1) rfl rfl (Nat.le_of_ble_eq_true rfl) (by decide) (by decide) ?_
  refine q_if_eq (tgt := 26) C dX11_fed_8 (by decide) h (fun _ h => ?_) (fun _ h => ?_)
  · refine x_iconst (v := (-1 : Int32)) C dX11_fed_26 (by decide) ?_
    exact q_iret C dX11_fed_27 rfl (by decide) (by decide) (Option.some.inj h)
  · refine q_aload_n C dX11_fed_11 rfl ?_
    refine x_getR (ci := 11) (j := 9) C dX11_fed_12 lkF_X11_69 rfl h (fun c4 h => ?_)
    refine x_nn h (fun r5 h => ?_)
    refine q_aload_n C dX11_fed_15 rfl ?_
    refine x_getR (ci := 11) (j := 6) C dX11_fed_16 lkF_X11_50 rfl h (fun c6 h => ?_)
    refine x_nn h (fun r7 h => ?_)
    refine q_iload_n C dX11_fed_19 rfl ?_
    obtain ⟨hk, h⟩ := q_obE h
    obtain ⟨u8, e1, h⟩ := q_bind h
    refine x_callV0 C dX11_fed_20 lkM_X11_268 mV_X1_isThere ⟨_, rfl, rfl⟩ hk (c_X1_isThere _ _ _ _ _ _ e1) rfl rfl (Nat.le_of_ble_eq_true rfl) (by decide) (by decide) ?_
    refine q_if_ne (tgt := 28) C dX11_fed_23 (by decide) h (fun _ h => ?_) (fun _ h => ?_)
    · refine x_iconst (v := (-1 : Int32)) C dX11_fed_26 (by decide) ?_
      exact q_iret C dX11_fed_27 rfl (by decide) (by decide) (Option.some.inj h)
    · refine q_aload_n C dX11_fed_28 rfl ?_
      refine x_getR (ci := 11) (j := 9) C dX11_fed_29 lkF_X11_69 rfl h (fun c9 h => ?_)
      refine x_nn h (fun r10 h => ?_)
      refine q_aload_n C dX11_fed_32 rfl ?_
      refine x_getR (ci := 11) (j := 6) C dX11_fed_33 lkF_X11_50 rfl h (fun c11 h => ?_)
      refine x_nn h (fun r12 h => ?_)
      obtain ⟨hk, h⟩ := q_obE h
      obtain ⟨⟨_, M14⟩, e1, h⟩ := q_bind h
      refine x_callVv0 C dX11_fed_36 lkM_X11_272 mV_X1_lay ⟨_, rfl, rfl⟩ hk (c_X1_lay _ _ _ _ _ e1) rfl rfl (Nat.le_of_ble_eq_true rfl) (by decide) (by decide) ?_
      refine q_aload_n C dX11_fed_39 rfl ?_
      refine x_getR (ci := 11) (j := 9) C dX11_fed_40 lkF_X11_69 rfl h (fun c15 h => ?_)
      refine x_nn h (fun r16 h => ?_)
      refine x_getR (ci := 1) (j := 1) C dX11_fed_43 lkF_X11_275 rfl h (fun c17 h => ?_)
      refine x_nn h (fun r18 h => ?_)
      refine q_iload_n C dX11_fed_46 rfl ?_
      refine x_iald C dX11_fed_47 h (fun v19 h => ?_)
      exact q_iret C dX11_fed_48 rfl (by decide) (by decide) (Option.some.inj h)
noncomputable def F_X11_best (l0 : Nat) (l1 : Int32) (l2 : Int32) (M : q_Mem) : Option (Int32 × q_Mem) := (q_gI M l0 11 18 (fun v1 => (if v1 = 0 then some ((-1000000 : Int32), M) else (if l1 < (1 : Int32) then some ((-1000000 : Int32), M) else (if (3 : Int32) < l1 then some ((-1000000 : Int32), M) else (if l2 < 0 then some ((-1000000 : Int32), M) else (if (1 : Int32) < l2 then some ((-1000000 : Int32), M) else (q_gR M l0 11 11 (fun c2 => q_nn c2 (fun r3 => (q_gR M l0 11 6 (fun c4 => q_nn c4 (fun r5 => (q_ob M r3 2 ((F_X2_seekBest r3 r5 l1 M).bind (fun x => match x with | (_, M7) => (if l2 = 0 then (q_gR M7 l0 11 11 (fun c8 => q_nn c8 (fun r9 => (q_gI M7 r9 2 8 (fun v10 => some (v10, M7)))))) else (q_gR M7 l0 11 11 (fun c11 => q_nn c11 (fun r12 => (q_gI M7 r12 2 9 (fun v13 => some (v13, M7)))))))))))))))))))))))
set_option maxRecDepth 100000 in
set_option maxHeartbeats 4000000 in
theorem c_X11_best (l : Launch) (G : q_G) (l0 : Nat) (l1 : Int32) (l2 : Int32) (M : q_Mem) {r : Int32} {M' : q_Mem} (h : F_X11_best l0 l1 l2 M = some (r, M')) : q_Met l G yX11_best cX11_best 3 (Option.some Jvm.ClassFile.FieldType.int) 68 0 0 [.ref l0, .int l1, .int l2] M (some (.int r)) M' := by
  unfold F_X11_best at h
  refine q_enter [some (.ref l0), some (.int l1), some (.int l2)] (by decide) (Nat.le_of_ble_eq_true rfl) rfl (fun K C => ?_)
  refine q_aload_n C dX11_best_0 rfl ?_
  refine x_getI (ci := 11) (j := 18) C dX11_best_1 lkF_X11_116 rfl h (fun v1 h => ?_)
  refine q_if_eq (tgt := 26) C dX11_best_4 (by decide) h (fun _ h => ?_) (fun _ h => ?_)
  · refine q_ldc (v := (-1000000 : Int32)) C dX11_best_26 wd_866 ?_
    exact q_iret C dX11_best_28 rfl (by decide) (by decide) (Option.some.inj h)
  · refine q_iload_n C dX11_best_7 rfl ?_
    refine x_iconst (v := (1 : Int32)) C dX11_best_8 (by decide) ?_
    refine q_icmp_lt (tgt := 26) C dX11_best_9 (by decide) h (fun _ h => ?_) (fun _ h => ?_)
    · refine q_ldc (v := (-1000000 : Int32)) C dX11_best_26 wd_866 ?_
      exact q_iret C dX11_best_28 rfl (by decide) (by decide) (Option.some.inj h)
    · refine q_iload_n C dX11_best_12 rfl ?_
      refine x_iconst (v := (3 : Int32)) C dX11_best_13 (by decide) ?_
      refine q_icmp_gt (tgt := 26) C dX11_best_14 (by decide) h (fun _ h => ?_) (fun _ h => ?_)
      · refine q_ldc (v := (-1000000 : Int32)) C dX11_best_26 wd_866 ?_
        exact q_iret C dX11_best_28 rfl (by decide) (by decide) (Option.some.inj h)
      · refine q_iload_n C dX11_best_17 rfl ?_
        refine q_if_lt (tgt := 26) C dX11_best_18 (by decide) h (fun _ h => ?_) (fun _ h => ?_)
        · refine q_ldc (v := (-1000000 : Int32)) C dX11_best_26 wd_866 ?_
          exact q_iret C dX11_best_28 rfl (by decide) (by decide) (Option.some.inj h)
        · refine q_iload_n C dX11_best_21 rfl ?_
          refine x_iconst (v := (1 : Int32)) C dX11_best_22 (by decide) ?_
          refine q_icmp_le (tgt := 29) C dX11_best_23 (by decide) h (fun _ h => ?_) (fun _ h => ?_)
          · refine q_ldc (v := (-1000000 : Int32)) C dX11_best_26 wd_866 ?_
            exact q_iret C dX11_best_28 rfl (by decide) (by decide) (Option.some.inj h)
          · refine q_aload_n C dX11_best_29 rfl ?_
            refine x_getR (ci := 11) (j := 11) C dX11_best_30 lkF_X11_87 rfl h (fun c2 h => ?_)
            refine x_nn h (fun r3 h => ?_)
            refine q_aload_n C dX11_best_33 rfl ?_
            refine x_getR (ci := 11) (j := 6) C dX11_best_34 lkF_X11_50 rfl h (fun c4 h => ?_)
            refine x_nn h (fun r5 h => ?_)
            refine q_iload_n C dX11_best_37 rfl ?_
            obtain ⟨hk, h⟩ := q_obE h
            obtain ⟨⟨_, M7⟩, e1, h⟩ := q_bind h
            refine x_callVv0 C dX11_best_38 lkM_X11_278 mV_X2_seekBest ⟨_, rfl, rfl⟩ hk (c_X2_seekBest _ _ _ _ _ _ e1) rfl rfl (Nat.le_of_ble_eq_true rfl) (by decide) (by decide) ?_
            refine q_iload_n C dX11_best_41 rfl ?_
            refine q_if_ne (tgt := 55) C dX11_best_42 (by decide) h (fun _ h => ?_) (fun _ h => ?_)
            · refine q_aload_n C dX11_best_45 rfl ?_
              refine x_getR (ci := 11) (j := 11) C dX11_best_46 lkF_X11_87 rfl h (fun c8 h => ?_)
              refine x_nn h (fun r9 h => ?_)
              refine x_getI (ci := 2) (j := 8) C dX11_best_49 lkF_X11_281 rfl h (fun v10 h => ?_)
              refine q_goto (tgt := 62) C dX11_best_52 (by decide) ?_
              exact q_iret C dX11_best_62 rfl (by decide) (by decide) (Option.some.inj h)
            · refine q_aload_n C dX11_best_55 rfl ?_
              refine x_getR (ci := 11) (j := 11) C dX11_best_56 lkF_X11_87 rfl h (fun c11 h => ?_)
              refine x_nn h (fun r12 h => ?_)
              refine x_getI (ci := 2) (j := 9) C dX11_best_59 lkF_X11_284 rfl h (fun v13 h => ?_)
              exact q_iret C dX11_best_62 rfl (by decide) (by decide) (Option.some.inj h)
noncomputable def F_X11_madeUp (l0 : Nat) (l1 : Int32) (M : q_Mem) : Option (Int32 × q_Mem) := (q_gI M l0 11 18 (fun v1 => (if v1 = 0 then some ((-1 : Int32), M) else (if l1 < 0 then some ((-1 : Int32), M) else (if (20 : Int32) < l1 then some ((-1 : Int32), M) else (q_gR M l0 11 11 (fun c2 => q_nn c2 (fun r3 => (q_gR M l0 11 6 (fun c4 => q_nn c4 (fun r5 => (q_ob M r3 2 ((F_X2_fewestMadeUp r3 r5 l1 M).bind (fun x => match x with | (u6, M7) => some (u6, M7)))))))))))))))
set_option maxRecDepth 100000 in
set_option maxHeartbeats 4000000 in
theorem c_X11_madeUp (l : Launch) (G : q_G) (l0 : Nat) (l1 : Int32) (M : q_Mem) {r : Int32} {M' : q_Mem} (h : F_X11_madeUp l0 l1 M = some (r, M')) : q_Met l G yX11_madeUp cX11_madeUp 2 (Option.some Jvm.ClassFile.FieldType.int) 5 0 0 [.ref l0, .int l1] M (some (.int r)) M' := by
  unfold F_X11_madeUp at h
  refine q_enter [some (.ref l0), some (.int l1)] (by decide) (Nat.le_of_ble_eq_true rfl) rfl (fun K C => ?_)
  refine q_aload_n C dX11_madeUp_0 rfl ?_
  refine x_getI (ci := 11) (j := 18) C dX11_madeUp_1 lkF_X11_116 rfl h (fun v1 h => ?_)
  refine q_if_eq (tgt := 17) C dX11_madeUp_4 (by decide) h (fun _ h => ?_) (fun _ h => ?_)
  · refine x_iconst (v := (-1 : Int32)) C dX11_madeUp_17 (by decide) ?_
    exact q_iret C dX11_madeUp_18 rfl (by decide) (by decide) (Option.some.inj h)
  · refine q_iload_n C dX11_madeUp_7 rfl ?_
    refine q_if_lt (tgt := 17) C dX11_madeUp_8 (by decide) h (fun _ h => ?_) (fun _ h => ?_)
    · refine x_iconst (v := (-1 : Int32)) C dX11_madeUp_17 (by decide) ?_
      exact q_iret C dX11_madeUp_18 rfl (by decide) (by decide) (Option.some.inj h)
    · refine q_iload_n C dX11_madeUp_11 rfl ?_
      refine x_bipush (v := (20 : Int32)) C dX11_madeUp_12 (by decide) ?_
      refine q_icmp_le (tgt := 19) C dX11_madeUp_14 (by decide) h (fun _ h => ?_) (fun _ h => ?_)
      · refine x_iconst (v := (-1 : Int32)) C dX11_madeUp_17 (by decide) ?_
        exact q_iret C dX11_madeUp_18 rfl (by decide) (by decide) (Option.some.inj h)
      · refine q_aload_n C dX11_madeUp_19 rfl ?_
        refine x_getR (ci := 11) (j := 11) C dX11_madeUp_20 lkF_X11_87 rfl h (fun c2 h => ?_)
        refine x_nn h (fun r3 h => ?_)
        refine q_aload_n C dX11_madeUp_23 rfl ?_
        refine x_getR (ci := 11) (j := 6) C dX11_madeUp_24 lkF_X11_50 rfl h (fun c4 h => ?_)
        refine x_nn h (fun r5 h => ?_)
        refine q_iload_n C dX11_madeUp_27 rfl ?_
        obtain ⟨hk, h⟩ := q_obE h
        obtain ⟨⟨u6, M7⟩, e1, h⟩ := q_bind h
        refine x_callV0 C dX11_madeUp_28 lkM_X11_287 mV_X2_fewestMadeUp ⟨_, rfl, rfl⟩ hk (c_X2_fewestMadeUp _ _ _ _ _ _ e1) rfl rfl (Nat.le_of_ble_eq_true rfl) (by decide) (by decide) ?_
        exact q_iret C dX11_madeUp_31 rfl (by decide) (by decide) (Option.some.inj h)
noncomputable def F_X11_areWarmthAndJoy (l0 : Int32) (l1 : Int32) (M : q_Mem) : Option (Int32) := (if l0 < 0 then q_rq (0 : Int32) else (if (20 : Int32) < l0 then q_rq (0 : Int32) else (if l1 < (-9 : Int32) then q_rq (0 : Int32) else (if (20 : Int32) < l1 then q_rq (0 : Int32) else q_rq (1 : Int32)))))
set_option maxRecDepth 100000 in
set_option maxHeartbeats 4000000 in
theorem c_X11_areWarmthAndJoy (l : Launch) (G : q_G) (l0 : Int32) (l1 : Int32) (M : q_Mem) {r : Int32} (h : F_X11_areWarmthAndJoy l0 l1 M = some r) : q_Met l G yX11_areWarmthAndJoy cX11_areWarmthAndJoy 2 (Option.some Jvm.ClassFile.FieldType.boolean) 1 0 0 [.int l0, .int l1] M (some (.int r)) M := by
  unfold F_X11_areWarmthAndJoy at h
  refine q_enter [some (.int l0), some (.int l1)] (by decide) (Nat.le_of_ble_eq_true rfl) rfl (fun K C => ?_)
  refine q_iload_n C dX11_areWarmthAndJoy_0 rfl ?_
  refine q_if_lt (tgt := 26) C dX11_areWarmthAndJoy_1 (by decide) h (fun _ h => ?_) (fun _ h => ?_)
  · refine x_iconst (v := (0 : Int32)) C dX11_areWarmthAndJoy_26 (by decide) ?_
    exact q_zret (res := (r, M)) C dX11_areWarmthAndJoy_27 rfl (by decide) (by decide) (q_rqE h).1 (congrArg (fun z => (z, M)) (q_rqE h).2)
  · refine q_iload_n C dX11_areWarmthAndJoy_4 rfl ?_
    refine x_bipush (v := (20 : Int32)) C dX11_areWarmthAndJoy_5 (by decide) ?_
    refine q_icmp_gt (tgt := 26) C dX11_areWarmthAndJoy_7 (by decide) h (fun _ h => ?_) (fun _ h => ?_)
    · refine x_iconst (v := (0 : Int32)) C dX11_areWarmthAndJoy_26 (by decide) ?_
      exact q_zret (res := (r, M)) C dX11_areWarmthAndJoy_27 rfl (by decide) (by decide) (q_rqE h).1 (congrArg (fun z => (z, M)) (q_rqE h).2)
    · refine q_iload_n C dX11_areWarmthAndJoy_10 rfl ?_
      refine x_bipush (v := (-9 : Int32)) C dX11_areWarmthAndJoy_11 (by decide) ?_
      refine q_icmp_lt (tgt := 26) C dX11_areWarmthAndJoy_13 (by decide) h (fun _ h => ?_) (fun _ h => ?_)
      · refine x_iconst (v := (0 : Int32)) C dX11_areWarmthAndJoy_26 (by decide) ?_
        exact q_zret (res := (r, M)) C dX11_areWarmthAndJoy_27 rfl (by decide) (by decide) (q_rqE h).1 (congrArg (fun z => (z, M)) (q_rqE h).2)
      · refine q_iload_n C dX11_areWarmthAndJoy_16 rfl ?_
        refine x_bipush (v := (20 : Int32)) C dX11_areWarmthAndJoy_17 (by decide) ?_
        refine q_icmp_gt (tgt := 26) C dX11_areWarmthAndJoy_19 (by decide) h (fun _ h => ?_) (fun _ h => ?_)
        · refine x_iconst (v := (0 : Int32)) C dX11_areWarmthAndJoy_26 (by decide) ?_
          exact q_zret (res := (r, M)) C dX11_areWarmthAndJoy_27 rfl (by decide) (by decide) (q_rqE h).1 (congrArg (fun z => (z, M)) (q_rqE h).2)
        · refine x_iconst (v := (1 : Int32)) C dX11_areWarmthAndJoy_22 (by decide) ?_
          refine q_goto (tgt := 27) C dX11_areWarmthAndJoy_23 (by decide) ?_
          exact q_zret (res := (r, M)) C dX11_areWarmthAndJoy_27 rfl (by decide) (by decide) (q_rqE h).1 (congrArg (fun z => (z, M)) (q_rqE h).2)
noncomputable def F_X11_seen (l0 : Nat) (l1 : Int32) (l2 : Int32) (l3 : Int32) (l4 : Int32) (l5 : Int32) (M : q_Mem) : Option (Int32 × q_Mem) := (q_gR M l0 11 1 (fun c1 => q_nn c1 (fun r2 => (q_ob M r2 3 ((F_X3_hasGuest r2 l1 M).bind (fun u3 => (if u3 = 0 then some ((-1 : Int32), M) else (q_gR M l0 11 1 (fun c4 => q_nn c4 (fun r5 => (q_ob M r5 3 ((F_X3_hasDish r5 l2 M).bind (fun u6 => (if u6 = 0 then some ((-1 : Int32), M) else ((F_X11_areWarmthAndJoy l3 l4 M).bind (fun u7 => (if u7 = 0 then some ((-1 : Int32), M) else (q_gR M l0 11 12 (fun c8 => q_nn c8 (fun r9 => (q_ob M r9 7 ((F_X7_add r9 l1 l2 l3 l4 l5 M).bind (fun x => match x with | (u10, M11) => some (u10, M11))))))))))))))))))))))))
set_option maxRecDepth 100000 in
set_option maxHeartbeats 4000000 in
theorem c_X11_seen (l : Launch) (G : q_G) (l0 : Nat) (l1 : Int32) (l2 : Int32) (l3 : Int32) (l4 : Int32) (l5 : Int32) (M : q_Mem) {r : Int32} {M' : q_Mem} (h : F_X11_seen l0 l1 l2 l3 l4 l5 M = some (r, M')) : q_Met l G yX11_seen cX11_seen 6 (Option.some Jvm.ClassFile.FieldType.int) 2 0 0 [.ref l0, .int l1, .int l2, .int l3, .int l4, .int l5] M (some (.int r)) M' := by
  unfold F_X11_seen at h
  refine q_enter [some (.ref l0), some (.int l1), some (.int l2), some (.int l3), some (.int l4), some (.int l5)] (by decide) (Nat.le_of_ble_eq_true rfl) rfl (fun K C => ?_)
  refine q_aload_n C dX11_seen_0 rfl ?_
  refine x_getR (ci := 11) (j := 1) C dX11_seen_1 lkF_X11_19 rfl h (fun c1 h => ?_)
  refine x_nn h (fun r2 h => ?_)
  refine q_iload_n C dX11_seen_4 rfl ?_
  obtain ⟨hk, h⟩ := q_obE h
  obtain ⟨u3, e1, h⟩ := q_bind h
  refine x_callV0 C dX11_seen_5 lkM_X11_170 mV_X3_hasGuest ⟨_, rfl, rfl⟩ hk (c_X3_hasGuest _ _ _ _ _ e1) rfl rfl (Nat.le_of_ble_eq_true rfl) (by decide) (by decide) ?_
  refine q_if_eq (tgt := 31) C dX11_seen_8 (by decide) h (fun _ h => ?_) (fun _ h => ?_)
  · refine x_iconst (v := (-1 : Int32)) C dX11_seen_31 (by decide) ?_
    exact q_iret C dX11_seen_32 rfl (by decide) (by decide) (Option.some.inj h)
  · refine q_aload_n C dX11_seen_11 rfl ?_
    refine x_getR (ci := 11) (j := 1) C dX11_seen_12 lkF_X11_19 rfl h (fun c4 h => ?_)
    refine x_nn h (fun r5 h => ?_)
    refine q_iload_n C dX11_seen_15 rfl ?_
    obtain ⟨hk, h⟩ := q_obE h
    obtain ⟨u6, e1, h⟩ := q_bind h
    refine x_callV0 C dX11_seen_16 lkM_X11_163 mV_X3_hasDish ⟨_, rfl, rfl⟩ hk (c_X3_hasDish _ _ _ _ _ e1) rfl rfl (Nat.le_of_ble_eq_true rfl) (by decide) (by decide) ?_
    refine q_if_eq (tgt := 31) C dX11_seen_19 (by decide) h (fun _ h => ?_) (fun _ h => ?_)
    · refine x_iconst (v := (-1 : Int32)) C dX11_seen_31 (by decide) ?_
      exact q_iret C dX11_seen_32 rfl (by decide) (by decide) (Option.some.inj h)
    · refine q_iload_n C dX11_seen_22 rfl ?_
      refine q_iload C dX11_seen_23 rfl ?_
      obtain ⟨u7, e1, h⟩ := q_bind h
      refine x_callS0 C dX11_seen_25 lkM_X11_291 mS_X11_areWarmthAndJoy (c_X11_areWarmthAndJoy _ _ _ _ _ e1) rfl rfl (Nat.le_of_ble_eq_true rfl) (by decide) (by decide) ?_
      refine q_if_ne (tgt := 33) C dX11_seen_28 (by decide) h (fun _ h => ?_) (fun _ h => ?_)
      · refine x_iconst (v := (-1 : Int32)) C dX11_seen_31 (by decide) ?_
        exact q_iret C dX11_seen_32 rfl (by decide) (by decide) (Option.some.inj h)
      · refine q_aload_n C dX11_seen_33 rfl ?_
        refine x_getR (ci := 11) (j := 12) C dX11_seen_34 lkF_X11_94 rfl h (fun c8 h => ?_)
        refine x_nn h (fun r9 h => ?_)
        refine q_iload_n C dX11_seen_37 rfl ?_
        refine q_iload_n C dX11_seen_38 rfl ?_
        refine q_iload_n C dX11_seen_39 rfl ?_
        refine q_iload C dX11_seen_40 rfl ?_
        refine q_iload C dX11_seen_42 rfl ?_
        obtain ⟨hk, h⟩ := q_obE h
        obtain ⟨⟨u10, M11⟩, e1, h⟩ := q_bind h
        refine x_callV0 C dX11_seen_44 lkM_X11_295 mV_X7_add ⟨_, rfl, rfl⟩ hk (c_X7_add _ _ _ _ _ _ _ _ _ e1) rfl rfl (Nat.le_of_ble_eq_true rfl) (by decide) (by decide) ?_
        exact q_iret C dX11_seen_47 rfl (by decide) (by decide) (Option.some.inj h)
noncomputable def F_X11_likes (l0 : Nat) (l1 : Int32) (M : q_Mem) : Option (Int32 × q_Mem) := (q_gR M l0 11 1 (fun c1 => q_nn c1 (fun r2 => (q_ob M r2 3 ((F_X3_hasGuest r2 l1 M).bind (fun u3 => (if u3 = 0 then some ((-1 : Int32), M) else (q_gR M l0 11 12 (fun c4 => q_nn c4 (fun r5 => (q_ob M r5 7 ((F_X7_kindsLeft r5 l1 M).bind (fun x => match x with | (u6, M7) => some (u6, M7))))))))))))))
set_option maxRecDepth 100000 in
set_option maxHeartbeats 4000000 in
theorem c_X11_likes (l : Launch) (G : q_G) (l0 : Nat) (l1 : Int32) (M : q_Mem) {r : Int32} {M' : q_Mem} (h : F_X11_likes l0 l1 M = some (r, M')) : q_Met l G yX11_likes cX11_likes 2 (Option.some Jvm.ClassFile.FieldType.int) 7 0 0 [.ref l0, .int l1] M (some (.int r)) M' := by
  unfold F_X11_likes at h
  refine q_enter [some (.ref l0), some (.int l1)] (by decide) (Nat.le_of_ble_eq_true rfl) rfl (fun K C => ?_)
  refine q_aload_n C dX11_likes_0 rfl ?_
  refine x_getR (ci := 11) (j := 1) C dX11_likes_1 lkF_X11_19 rfl h (fun c1 h => ?_)
  refine x_nn h (fun r2 h => ?_)
  refine q_iload_n C dX11_likes_4 rfl ?_
  obtain ⟨hk, h⟩ := q_obE h
  obtain ⟨u3, e1, h⟩ := q_bind h
  refine x_callV0 C dX11_likes_5 lkM_X11_170 mV_X3_hasGuest ⟨_, rfl, rfl⟩ hk (c_X3_hasGuest _ _ _ _ _ e1) rfl rfl (Nat.le_of_ble_eq_true rfl) (by decide) (by decide) ?_
  refine q_if_eq (tgt := 22) C dX11_likes_8 (by decide) h (fun _ h => ?_) (fun _ h => ?_)
  · refine x_iconst (v := (-1 : Int32)) C dX11_likes_22 (by decide) ?_
    exact q_iret C dX11_likes_23 rfl (by decide) (by decide) (Option.some.inj h)
  · refine q_aload_n C dX11_likes_11 rfl ?_
    refine x_getR (ci := 11) (j := 12) C dX11_likes_12 lkF_X11_94 rfl h (fun c4 h => ?_)
    refine x_nn h (fun r5 h => ?_)
    refine q_iload_n C dX11_likes_15 rfl ?_
    obtain ⟨hk, h⟩ := q_obE h
    obtain ⟨⟨u6, M7⟩, e1, h⟩ := q_bind h
    refine x_callV0 C dX11_likes_16 lkM_X11_299 mV_X7_kindsLeft ⟨_, rfl, rfl⟩ hk (c_X7_kindsLeft _ _ _ _ _ e1) rfl rfl (Nat.le_of_ble_eq_true rfl) (by decide) (by decide) ?_
    refine q_goto (tgt := 23) C dX11_likes_19 (by decide) ?_
    exact q_iret C dX11_likes_23 rfl (by decide) (by decide) (Option.some.inj h)
noncomputable def F_X11_probe (l0 : Nat) (l1 : Int32) (l2 : Int32) (l3 : Int32) (M : q_Mem) : Option (Int32 × q_Mem) := (q_gR M l0 11 1 (fun c1 => q_nn c1 (fun r2 => (q_ob M r2 3 ((F_X3_hasGuest r2 l1 M).bind (fun u3 => (if u3 = 0 then some ((-1 : Int32), M) else ((F_X11_areWarmthAndJoy l2 l3 M).bind (fun u4 => (if u4 = 0 then some ((-1 : Int32), M) else (q_gR M l0 11 12 (fun c5 => q_nn c5 (fun r6 => (q_ob M r6 7 ((F_X7_dishToTry r6 l1 l2 l3 M).bind (fun x => match x with | (u7, M8) => some (u7, M8)))))))))))))))))
set_option maxRecDepth 100000 in
set_option maxHeartbeats 4000000 in
theorem c_X11_probe (l : Launch) (G : q_G) (l0 : Nat) (l1 : Int32) (l2 : Int32) (l3 : Int32) (M : q_Mem) {r : Int32} {M' : q_Mem} (h : F_X11_probe l0 l1 l2 l3 M = some (r, M')) : q_Met l G yX11_probe cX11_probe 4 (Option.some Jvm.ClassFile.FieldType.int) 8 0 0 [.ref l0, .int l1, .int l2, .int l3] M (some (.int r)) M' := by
  unfold F_X11_probe at h
  refine q_enter [some (.ref l0), some (.int l1), some (.int l2), some (.int l3)] (by decide) (Nat.le_of_ble_eq_true rfl) rfl (fun K C => ?_)
  refine q_aload_n C dX11_probe_0 rfl ?_
  refine x_getR (ci := 11) (j := 1) C dX11_probe_1 lkF_X11_19 rfl h (fun c1 h => ?_)
  refine x_nn h (fun r2 h => ?_)
  refine q_iload_n C dX11_probe_4 rfl ?_
  obtain ⟨hk, h⟩ := q_obE h
  obtain ⟨u3, e1, h⟩ := q_bind h
  refine x_callV0 C dX11_probe_5 lkM_X11_170 mV_X3_hasGuest ⟨_, rfl, rfl⟩ hk (c_X3_hasGuest _ _ _ _ _ e1) rfl rfl (Nat.le_of_ble_eq_true rfl) (by decide) (by decide) ?_
  refine q_if_eq (tgt := 19) C dX11_probe_8 (by decide) h (fun _ h => ?_) (fun _ h => ?_)
  · refine x_iconst (v := (-1 : Int32)) C dX11_probe_19 (by decide) ?_
    exact q_iret C dX11_probe_20 rfl (by decide) (by decide) (Option.some.inj h)
  · refine q_iload_n C dX11_probe_11 rfl ?_
    refine q_iload_n C dX11_probe_12 rfl ?_
    obtain ⟨u4, e1, h⟩ := q_bind h
    refine x_callS0 C dX11_probe_13 lkM_X11_291 mS_X11_areWarmthAndJoy (c_X11_areWarmthAndJoy _ _ _ _ _ e1) rfl rfl (Nat.le_of_ble_eq_true rfl) (by decide) (by decide) ?_
    refine q_if_ne (tgt := 21) C dX11_probe_16 (by decide) h (fun _ h => ?_) (fun _ h => ?_)
    · refine x_iconst (v := (-1 : Int32)) C dX11_probe_19 (by decide) ?_
      exact q_iret C dX11_probe_20 rfl (by decide) (by decide) (Option.some.inj h)
    · refine q_aload_n C dX11_probe_21 rfl ?_
      refine x_getR (ci := 11) (j := 12) C dX11_probe_22 lkF_X11_94 rfl h (fun c5 h => ?_)
      refine x_nn h (fun r6 h => ?_)
      refine q_iload_n C dX11_probe_25 rfl ?_
      refine q_iload_n C dX11_probe_26 rfl ?_
      refine q_iload_n C dX11_probe_27 rfl ?_
      obtain ⟨hk, h⟩ := q_obE h
      obtain ⟨⟨u7, M8⟩, e1, h⟩ := q_bind h
      refine x_callV0 C dX11_probe_28 lkM_X11_302 mV_X7_dishToTry ⟨_, rfl, rfl⟩ hk (c_X7_dishToTry _ _ _ _ _ _ _ e1) rfl rfl (Nat.le_of_ble_eq_true rfl) (by decide) (by decide) ?_
      exact q_iret C dX11_probe_31 rfl (by decide) (by decide) (Option.some.inj h)
noncomputable def F_X11_leaves (l0 : Nat) (l1 : Int32) (M : q_Mem) : Option (Int32 × q_Mem) := (q_gR M l0 11 1 (fun c1 => q_nn c1 (fun r2 => (q_ob M r2 3 ((F_X3_hasGuest r2 l1 M).bind (fun u3 => (if u3 = 0 then some ((-1 : Int32), M) else (q_gR M l0 11 6 (fun c4 => q_nn c4 (fun r5 => (q_ob M r5 8 ((F_X8_hasLeft r5 l1 M).bind (fun u6 => (if u6 = 0 then (q_gR M l0 11 11 (fun c7 => q_nn c7 (fun r8 => (q_gR M l0 11 6 (fun c9 => q_nn c9 (fun r10 => (q_ob M r8 2 ((F_X2_daysToLeaving r8 r10 l1 M).bind (fun x => match x with | (u11, M12) => some (u11, M12)))))))))) else some ((-1 : Int32), M)))))))))))))))
set_option maxRecDepth 100000 in
set_option maxHeartbeats 4000000 in
theorem c_X11_leaves (l : Launch) (G : q_G) (l0 : Nat) (l1 : Int32) (M : q_Mem) {r : Int32} {M' : q_Mem} (h : F_X11_leaves l0 l1 M = some (r, M')) : q_Met l G yX11_leaves cX11_leaves 2 (Option.some Jvm.ClassFile.FieldType.int) 7 0 0 [.ref l0, .int l1] M (some (.int r)) M' := by
  unfold F_X11_leaves at h
  refine q_enter [some (.ref l0), some (.int l1)] (by decide) (Nat.le_of_ble_eq_true rfl) rfl (fun K C => ?_)
  refine q_aload_n C dX11_leaves_0 rfl ?_
  refine x_getR (ci := 11) (j := 1) C dX11_leaves_1 lkF_X11_19 rfl h (fun c1 h => ?_)
  refine x_nn h (fun r2 h => ?_)
  refine q_iload_n C dX11_leaves_4 rfl ?_
  obtain ⟨hk, h⟩ := q_obE h
  obtain ⟨u3, e1, h⟩ := q_bind h
  refine x_callV0 C dX11_leaves_5 lkM_X11_170 mV_X3_hasGuest ⟨_, rfl, rfl⟩ hk (c_X3_hasGuest _ _ _ _ _ e1) rfl rfl (Nat.le_of_ble_eq_true rfl) (by decide) (by decide) ?_
  refine q_if_eq (tgt := 22) C dX11_leaves_8 (by decide) h (fun _ h => ?_) (fun _ h => ?_)
  · refine x_iconst (v := (-1 : Int32)) C dX11_leaves_22 (by decide) ?_
    exact q_iret C dX11_leaves_23 rfl (by decide) (by decide) (Option.some.inj h)
  · refine q_aload_n C dX11_leaves_11 rfl ?_
    refine x_getR (ci := 11) (j := 6) C dX11_leaves_12 lkF_X11_50 rfl h (fun c4 h => ?_)
    refine x_nn h (fun r5 h => ?_)
    refine q_iload_n C dX11_leaves_15 rfl ?_
    obtain ⟨hk, h⟩ := q_obE h
    obtain ⟨u6, e1, h⟩ := q_bind h
    refine x_callV0 C dX11_leaves_16 lkM_X11_183 mV_X8_hasLeft ⟨_, rfl, rfl⟩ hk (c_X8_hasLeft _ _ _ _ _ e1) rfl rfl (Nat.le_of_ble_eq_true rfl) (by decide) (by decide) ?_
    refine q_if_eq (tgt := 24) C dX11_leaves_19 (by decide) h (fun _ h => ?_) (fun _ h => ?_)
    · refine q_aload_n C dX11_leaves_24 rfl ?_
      refine x_getR (ci := 11) (j := 11) C dX11_leaves_25 lkF_X11_87 rfl h (fun c7 h => ?_)
      refine x_nn h (fun r8 h => ?_)
      refine q_aload_n C dX11_leaves_28 rfl ?_
      refine x_getR (ci := 11) (j := 6) C dX11_leaves_29 lkF_X11_50 rfl h (fun c9 h => ?_)
      refine x_nn h (fun r10 h => ?_)
      refine q_iload_n C dX11_leaves_32 rfl ?_
      obtain ⟨hk, h⟩ := q_obE h
      obtain ⟨⟨u11, M12⟩, e1, h⟩ := q_bind h
      refine x_callV0 C dX11_leaves_33 lkM_X11_306 mV_X2_daysToLeaving ⟨_, rfl, rfl⟩ hk (c_X2_daysToLeaving _ _ _ _ _ _ e1) rfl rfl (Nat.le_of_ble_eq_true rfl) (by decide) (by decide) ?_
      exact q_iret C dX11_leaves_36 rfl (by decide) (by decide) (Option.some.inj h)
    · refine x_iconst (v := (-1 : Int32)) C dX11_leaves_22 (by decide) ?_
      exact q_iret C dX11_leaves_23 rfl (by decide) (by decide) (Option.some.inj h)
noncomputable def F_X11_canPlay (l0 : Nat) (l1 : Int32) (l2 : Int32) (M : q_Mem) : Option (Int32) := (q_gR M l0 11 1 (fun c1 => q_nn c1 (fun r2 => (q_ob M r2 3 ((F_X3_hasGuest r2 l1 M).bind (fun u3 => (if u3 = 0 then q_rq (0 : Int32) else (q_gR M l0 11 1 (fun c4 => q_nn c4 (fun r5 => (q_ob M r5 3 ((F_X3_hasGuest r5 l2 M).bind (fun u6 => (if u6 = 0 then q_rq (0 : Int32) else (if l1 = l2 then q_rq (0 : Int32) else (q_gR M l0 11 6 (fun c7 => q_nn c7 (fun r8 => (q_ob M r8 8 ((F_X8_hasLeft r8 l1 M).bind (fun u9 => (if u9 = 0 then (q_gR M l0 11 6 (fun c10 => q_nn c10 (fun r11 => (q_ob M r11 8 ((F_X8_hasLeft r11 l2 M).bind (fun u12 => (if u12 = 0 then q_rq (1 : Int32) else q_rq (0 : Int32)))))))) else q_rq (0 : Int32)))))))))))))))))))))))
set_option maxRecDepth 100000 in
set_option maxHeartbeats 4000000 in
theorem c_X11_canPlay (l : Launch) (G : q_G) (l0 : Nat) (l1 : Int32) (l2 : Int32) (M : q_Mem) {r : Int32} (h : F_X11_canPlay l0 l1 l2 M = some r) : q_Met l G yX11_canPlay cX11_canPlay 3 (Option.some Jvm.ClassFile.FieldType.boolean) 2 0 0 [.ref l0, .int l1, .int l2] M (some (.int r)) M := by
  unfold F_X11_canPlay at h
  refine q_enter [some (.ref l0), some (.int l1), some (.int l2)] (by decide) (Nat.le_of_ble_eq_true rfl) rfl (fun K C => ?_)
  refine q_aload_n C dX11_canPlay_0 rfl ?_
  refine x_getR (ci := 11) (j := 1) C dX11_canPlay_1 lkF_X11_19 rfl h (fun c1 h => ?_)
  refine x_nn h (fun r2 h => ?_)
  refine q_iload_n C dX11_canPlay_4 rfl ?_
  obtain ⟨hk, h⟩ := q_obE h
  obtain ⟨u3, e1, h⟩ := q_bind h
  refine x_callV0 C dX11_canPlay_5 lkM_X11_170 mV_X3_hasGuest ⟨_, rfl, rfl⟩ hk (c_X3_hasGuest _ _ _ _ _ e1) rfl rfl (Nat.le_of_ble_eq_true rfl) (by decide) (by decide) ?_
  refine q_if_eq (tgt := 53) C dX11_canPlay_8 (by decide) h (fun _ h => ?_) (fun _ h => ?_)
  · refine x_iconst (v := (0 : Int32)) C dX11_canPlay_53 (by decide) ?_
    exact q_zret (res := (r, M)) C dX11_canPlay_54 rfl (by decide) (by decide) (q_rqE h).1 (congrArg (fun z => (z, M)) (q_rqE h).2)
  · refine q_aload_n C dX11_canPlay_11 rfl ?_
    refine x_getR (ci := 11) (j := 1) C dX11_canPlay_12 lkF_X11_19 rfl h (fun c4 h => ?_)
    refine x_nn h (fun r5 h => ?_)
    refine q_iload_n C dX11_canPlay_15 rfl ?_
    obtain ⟨hk, h⟩ := q_obE h
    obtain ⟨u6, e1, h⟩ := q_bind h
    refine x_callV0 C dX11_canPlay_16 lkM_X11_170 mV_X3_hasGuest ⟨_, rfl, rfl⟩ hk (c_X3_hasGuest _ _ _ _ _ e1) rfl rfl (Nat.le_of_ble_eq_true rfl) (by decide) (by decide) ?_
    refine q_if_eq (tgt := 53) C dX11_canPlay_19 (by decide) h (fun _ h => ?_) (fun _ h => ?_)
    · refine x_iconst (v := (0 : Int32)) C dX11_canPlay_53 (by decide) ?_
      exact q_zret (res := (r, M)) C dX11_canPlay_54 rfl (by decide) (by decide) (q_rqE h).1 (congrArg (fun z => (z, M)) (q_rqE h).2)
    · refine q_iload_n C dX11_canPlay_22 rfl ?_
      refine q_iload_n C dX11_canPlay_23 rfl ?_
      refine q_icmp_eq (tgt := 53) C dX11_canPlay_24 (by decide) h (fun _ h => ?_) (fun _ h => ?_)
      · refine x_iconst (v := (0 : Int32)) C dX11_canPlay_53 (by decide) ?_
        exact q_zret (res := (r, M)) C dX11_canPlay_54 rfl (by decide) (by decide) (q_rqE h).1 (congrArg (fun z => (z, M)) (q_rqE h).2)
      · refine q_aload_n C dX11_canPlay_27 rfl ?_
        refine x_getR (ci := 11) (j := 6) C dX11_canPlay_28 lkF_X11_50 rfl h (fun c7 h => ?_)
        refine x_nn h (fun r8 h => ?_)
        refine q_iload_n C dX11_canPlay_31 rfl ?_
        obtain ⟨hk, h⟩ := q_obE h
        obtain ⟨u9, e1, h⟩ := q_bind h
        refine x_callV0 C dX11_canPlay_32 lkM_X11_183 mV_X8_hasLeft ⟨_, rfl, rfl⟩ hk (c_X8_hasLeft _ _ _ _ _ e1) rfl rfl (Nat.le_of_ble_eq_true rfl) (by decide) (by decide) ?_
        refine q_if_ne (tgt := 53) C dX11_canPlay_35 (by decide) h (fun _ h => ?_) (fun _ h => ?_)
        · refine q_aload_n C dX11_canPlay_38 rfl ?_
          refine x_getR (ci := 11) (j := 6) C dX11_canPlay_39 lkF_X11_50 rfl h (fun c10 h => ?_)
          refine x_nn h (fun r11 h => ?_)
          refine q_iload_n C dX11_canPlay_42 rfl ?_
          obtain ⟨hk, h⟩ := q_obE h
          obtain ⟨u12, e1, h⟩ := q_bind h
          refine x_callV0 C dX11_canPlay_43 lkM_X11_183 mV_X8_hasLeft ⟨_, rfl, rfl⟩ hk (c_X8_hasLeft _ _ _ _ _ e1) rfl rfl (Nat.le_of_ble_eq_true rfl) (by decide) (by decide) ?_
          refine q_if_ne (tgt := 53) C dX11_canPlay_46 (by decide) h (fun _ h => ?_) (fun _ h => ?_)
          · refine x_iconst (v := (1 : Int32)) C dX11_canPlay_49 (by decide) ?_
            refine q_goto (tgt := 54) C dX11_canPlay_50 (by decide) ?_
            exact q_zret (res := (r, M)) C dX11_canPlay_54 rfl (by decide) (by decide) (q_rqE h).1 (congrArg (fun z => (z, M)) (q_rqE h).2)
          · refine x_iconst (v := (0 : Int32)) C dX11_canPlay_53 (by decide) ?_
            exact q_zret (res := (r, M)) C dX11_canPlay_54 rfl (by decide) (by decide) (q_rqE h).1 (congrArg (fun z => (z, M)) (q_rqE h).2)
        · refine x_iconst (v := (0 : Int32)) C dX11_canPlay_53 (by decide) ?_
          exact q_zret (res := (r, M)) C dX11_canPlay_54 rfl (by decide) (by decide) (q_rqE h).1 (congrArg (fun z => (z, M)) (q_rqE h).2)
noncomputable def F_X11_game (l0 : Nat) (l1 : Int32) (l2 : Int32) (l3 : Int32) (l4 : Int32) (l5 : Int32) (M : q_Mem) : Option (Int32 × q_Mem) := (q_ob M l0 11 ((F_X11_canPlay l0 l1 l2 M).bind (fun u1 => (if u1 = 0 then some ((-1000000 : Int32), M) else (if l3 < 0 then some ((-1000000 : Int32), M) else (if (3 : Int32) < l3 then some ((-1000000 : Int32), M) else (if l4 < 0 then some ((-1000000 : Int32), M) else (if (3 : Int32) < l4 then some ((-1000000 : Int32), M) else (if l5 < 0 then some ((-1000000 : Int32), M) else (if (1 : Int32) < l5 then some ((-1000000 : Int32), M) else (q_gR M l0 11 11 (fun c2 => q_nn c2 (fun r3 => (q_gR M l0 11 6 (fun c4 => q_nn c4 (fun r5 => (q_ob M r3 2 ((F_X2_play r3 r5 l1 l2 l3 l4 M).bind (fun x => match x with | (_, M7) => (if l5 = 0 then (q_gR M7 l0 11 11 (fun c8 => q_nn c8 (fun r9 => (q_gI M7 r9 2 10 (fun v10 => some (v10, M7)))))) else (q_gR M7 l0 11 11 (fun c11 => q_nn c11 (fun r12 => (q_gI M7 r12 2 11 (fun v13 => some (v13, M7))))))))))))))))))))))))))
set_option maxRecDepth 100000 in
set_option maxHeartbeats 4000000 in
theorem c_X11_game (l : Launch) (G : q_G) (l0 : Nat) (l1 : Int32) (l2 : Int32) (l3 : Int32) (l4 : Int32) (l5 : Int32) (M : q_Mem) {r : Int32} {M' : q_Mem} (h : F_X11_game l0 l1 l2 l3 l4 l5 M = some (r, M')) : q_Met l G yX11_game cX11_game 6 (Option.some Jvm.ClassFile.FieldType.int) 7 0 0 [.ref l0, .int l1, .int l2, .int l3, .int l4, .int l5] M (some (.int r)) M' := by
  unfold F_X11_game at h
  refine q_enter [some (.ref l0), some (.int l1), some (.int l2), some (.int l3), some (.int l4), some (.int l5)] (by decide) (Nat.le_of_ble_eq_true rfl) rfl (fun K C => ?_)
  refine q_aload_n C dX11_game_0 rfl ?_
  refine q_iload_n C dX11_game_1 rfl ?_
  refine q_iload_n C dX11_game_2 rfl ?_
  obtain ⟨hk, h⟩ := q_obE h
  obtain ⟨u1, e1, h⟩ := q_bind h
  refine x_callV0 C dX11_game_3 lkM_X11_309 mV_X11_canPlay ⟨_, rfl, rfl⟩ hk (c_X11_canPlay _ _ _ _ _ _ e1) rfl rfl (Nat.le_of_ble_eq_true rfl) (by decide) (by decide) ?_
  refine q_if_eq (tgt := 40) C dX11_game_6 (by decide) h (fun _ h => ?_) (fun _ h => ?_)
  · refine q_ldc (v := (-1000000 : Int32)) C dX11_game_40 wd_866 ?_
    exact q_iret C dX11_game_42 rfl (by decide) (by decide) (Option.some.inj h)
  · refine q_iload_n C dX11_game_9 rfl ?_
    refine q_if_lt (tgt := 40) C dX11_game_10 (by decide) h (fun _ h => ?_) (fun _ h => ?_)
    · refine q_ldc (v := (-1000000 : Int32)) C dX11_game_40 wd_866 ?_
      exact q_iret C dX11_game_42 rfl (by decide) (by decide) (Option.some.inj h)
    · refine q_iload_n C dX11_game_13 rfl ?_
      refine x_iconst (v := (3 : Int32)) C dX11_game_14 (by decide) ?_
      refine q_icmp_gt (tgt := 40) C dX11_game_15 (by decide) h (fun _ h => ?_) (fun _ h => ?_)
      · refine q_ldc (v := (-1000000 : Int32)) C dX11_game_40 wd_866 ?_
        exact q_iret C dX11_game_42 rfl (by decide) (by decide) (Option.some.inj h)
      · refine q_iload C dX11_game_18 rfl ?_
        refine q_if_lt (tgt := 40) C dX11_game_20 (by decide) h (fun _ h => ?_) (fun _ h => ?_)
        · refine q_ldc (v := (-1000000 : Int32)) C dX11_game_40 wd_866 ?_
          exact q_iret C dX11_game_42 rfl (by decide) (by decide) (Option.some.inj h)
        · refine q_iload C dX11_game_23 rfl ?_
          refine x_iconst (v := (3 : Int32)) C dX11_game_25 (by decide) ?_
          refine q_icmp_gt (tgt := 40) C dX11_game_26 (by decide) h (fun _ h => ?_) (fun _ h => ?_)
          · refine q_ldc (v := (-1000000 : Int32)) C dX11_game_40 wd_866 ?_
            exact q_iret C dX11_game_42 rfl (by decide) (by decide) (Option.some.inj h)
          · refine q_iload C dX11_game_29 rfl ?_
            refine q_if_lt (tgt := 40) C dX11_game_31 (by decide) h (fun _ h => ?_) (fun _ h => ?_)
            · refine q_ldc (v := (-1000000 : Int32)) C dX11_game_40 wd_866 ?_
              exact q_iret C dX11_game_42 rfl (by decide) (by decide) (Option.some.inj h)
            · refine q_iload C dX11_game_34 rfl ?_
              refine x_iconst (v := (1 : Int32)) C dX11_game_36 (by decide) ?_
              refine q_icmp_le (tgt := 43) C dX11_game_37 (by decide) h (fun _ h => ?_) (fun _ h => ?_)
              · refine q_ldc (v := (-1000000 : Int32)) C dX11_game_40 wd_866 ?_
                exact q_iret C dX11_game_42 rfl (by decide) (by decide) (Option.some.inj h)
              · refine q_aload_n C dX11_game_43 rfl ?_
                refine x_getR (ci := 11) (j := 11) C dX11_game_44 lkF_X11_87 rfl h (fun c2 h => ?_)
                refine x_nn h (fun r3 h => ?_)
                refine q_aload_n C dX11_game_47 rfl ?_
                refine x_getR (ci := 11) (j := 6) C dX11_game_48 lkF_X11_50 rfl h (fun c4 h => ?_)
                refine x_nn h (fun r5 h => ?_)
                refine q_iload_n C dX11_game_51 rfl ?_
                refine q_iload_n C dX11_game_52 rfl ?_
                refine q_iload_n C dX11_game_53 rfl ?_
                refine q_iload C dX11_game_54 rfl ?_
                obtain ⟨hk, h⟩ := q_obE h
                obtain ⟨⟨_, M7⟩, e1, h⟩ := q_bind h
                refine x_callVv0 C dX11_game_56 lkM_X11_312 mV_X2_play ⟨_, rfl, rfl⟩ hk (c_X2_play _ _ _ _ _ _ _ _ _ e1) rfl rfl (Nat.le_of_ble_eq_true rfl) (by decide) (by decide) ?_
                refine q_iload C dX11_game_59 rfl ?_
                refine q_if_ne (tgt := 74) C dX11_game_61 (by decide) h (fun _ h => ?_) (fun _ h => ?_)
                · refine q_aload_n C dX11_game_64 rfl ?_
                  refine x_getR (ci := 11) (j := 11) C dX11_game_65 lkF_X11_87 rfl h (fun c8 h => ?_)
                  refine x_nn h (fun r9 h => ?_)
                  refine x_getI (ci := 2) (j := 10) C dX11_game_68 lkF_X11_316 rfl h (fun v10 h => ?_)
                  refine q_goto (tgt := 81) C dX11_game_71 (by decide) ?_
                  exact q_iret C dX11_game_81 rfl (by decide) (by decide) (Option.some.inj h)
                · refine q_aload_n C dX11_game_74 rfl ?_
                  refine x_getR (ci := 11) (j := 11) C dX11_game_75 lkF_X11_87 rfl h (fun c11 h => ?_)
                  refine x_nn h (fun r12 h => ?_)
                  refine x_getI (ci := 2) (j := 11) C dX11_game_78 lkF_X11_319 rfl h (fun v13 h => ?_)
                  exact q_iret C dX11_game_81 rfl (by decide) (by decide) (Option.some.inj h)
noncomputable def F_X11_rests (l0 : Nat) (l1 : Int32) (l2 : Int32) (l3 : Int32) (M : q_Mem) : Option (Int32 × q_Mem) := (q_ob M l0 11 ((F_X11_canPlay l0 l1 l2 M).bind (fun u1 => (if u1 = 0 then some ((-1 : Int32), M) else (if l3 < (-1 : Int32) then some ((-1 : Int32), M) else (if l3 < (16 : Int32) then (q_gR M l0 11 11 (fun c2 => q_nn c2 (fun r3 => (q_gR M l0 11 6 (fun c4 => q_nn c4 (fun r5 => (q_ob M r3 2 ((F_X2_playAll r3 r5 l1 l2 M).bind (fun x => match x with | (_, M7) => (if l3 = (-1 : Int32) then (q_gR M7 l0 11 11 (fun c8 => q_nn c8 (fun r9 => (q_ob M7 r9 2 ((F_X2_restCount r9 M7).bind (fun u10 => some (u10, M7))))))) else (q_gR M7 l0 11 11 (fun c11 => q_nn c11 (fun r12 => (q_ob M7 r12 2 ((F_X2_restAt r12 l3 M7).bind (fun u13 => some (u13, M7))))))))))))))))) else some ((-1 : Int32), M)))))))
set_option maxRecDepth 100000 in
set_option maxHeartbeats 4000000 in
theorem c_X11_rests (l : Launch) (G : q_G) (l0 : Nat) (l1 : Int32) (l2 : Int32) (l3 : Int32) (M : q_Mem) {r : Int32} {M' : q_Mem} (h : F_X11_rests l0 l1 l2 l3 M = some (r, M')) : q_Met l G yX11_rests cX11_rests 4 (Option.some Jvm.ClassFile.FieldType.int) 8 0 0 [.ref l0, .int l1, .int l2, .int l3] M (some (.int r)) M' := by
  unfold F_X11_rests at h
  refine q_enter [some (.ref l0), some (.int l1), some (.int l2), some (.int l3)] (by decide) (Nat.le_of_ble_eq_true rfl) rfl (fun K C => ?_)
  refine q_aload_n C dX11_rests_0 rfl ?_
  refine q_iload_n C dX11_rests_1 rfl ?_
  refine q_iload_n C dX11_rests_2 rfl ?_
  obtain ⟨hk, h⟩ := q_obE h
  obtain ⟨u1, e1, h⟩ := q_bind h
  refine x_callV0 C dX11_rests_3 lkM_X11_309 mV_X11_canPlay ⟨_, rfl, rfl⟩ hk (c_X11_canPlay _ _ _ _ _ _ e1) rfl rfl (Nat.le_of_ble_eq_true rfl) (by decide) (by decide) ?_
  refine q_if_eq (tgt := 20) C dX11_rests_6 (by decide) h (fun _ h => ?_) (fun _ h => ?_)
  · refine x_iconst (v := (-1 : Int32)) C dX11_rests_20 (by decide) ?_
    exact q_iret C dX11_rests_21 rfl (by decide) (by decide) (Option.some.inj h)
  · refine q_iload_n C dX11_rests_9 rfl ?_
    refine x_iconst (v := (-1 : Int32)) C dX11_rests_10 (by decide) ?_
    refine q_icmp_lt (tgt := 20) C dX11_rests_11 (by decide) h (fun _ h => ?_) (fun _ h => ?_)
    · refine x_iconst (v := (-1 : Int32)) C dX11_rests_20 (by decide) ?_
      exact q_iret C dX11_rests_21 rfl (by decide) (by decide) (Option.some.inj h)
    · refine q_iload_n C dX11_rests_14 rfl ?_
      refine x_bipush (v := (16 : Int32)) C dX11_rests_15 (by decide) ?_
      refine q_icmp_lt (tgt := 22) C dX11_rests_17 (by decide) h (fun _ h => ?_) (fun _ h => ?_)
      · refine q_aload_n C dX11_rests_22 rfl ?_
        refine x_getR (ci := 11) (j := 11) C dX11_rests_23 lkF_X11_87 rfl h (fun c2 h => ?_)
        refine x_nn h (fun r3 h => ?_)
        refine q_aload_n C dX11_rests_26 rfl ?_
        refine x_getR (ci := 11) (j := 6) C dX11_rests_27 lkF_X11_50 rfl h (fun c4 h => ?_)
        refine x_nn h (fun r5 h => ?_)
        refine q_iload_n C dX11_rests_30 rfl ?_
        refine q_iload_n C dX11_rests_31 rfl ?_
        obtain ⟨hk, h⟩ := q_obE h
        obtain ⟨⟨_, M7⟩, e1, h⟩ := q_bind h
        refine x_callVv0 C dX11_rests_32 lkM_X11_322 mV_X2_playAll ⟨_, rfl, rfl⟩ hk (c_X2_playAll _ _ _ _ _ _ _ e1) rfl rfl (Nat.le_of_ble_eq_true rfl) (by decide) (by decide) ?_
        refine q_iload_n C dX11_rests_35 rfl ?_
        refine x_iconst (v := (-1 : Int32)) C dX11_rests_36 (by decide) ?_
        refine q_icmp_ne (tgt := 50) C dX11_rests_37 (by decide) h (fun _ h => ?_) (fun _ h => ?_)
        · refine q_aload_n C dX11_rests_40 rfl ?_
          refine x_getR (ci := 11) (j := 11) C dX11_rests_41 lkF_X11_87 rfl h (fun c8 h => ?_)
          refine x_nn h (fun r9 h => ?_)
          obtain ⟨hk, h⟩ := q_obE h
          obtain ⟨u10, e1, h⟩ := q_bind h
          refine x_callV0 C dX11_rests_44 lkM_X11_326 mV_X2_restCount ⟨_, rfl, rfl⟩ hk (c_X2_restCount _ _ _ _ e1) rfl rfl (Nat.le_of_ble_eq_true rfl) (by decide) (by decide) ?_
          refine q_goto (tgt := 58) C dX11_rests_47 (by decide) ?_
          exact q_iret C dX11_rests_58 rfl (by decide) (by decide) (Option.some.inj h)
        · refine q_aload_n C dX11_rests_50 rfl ?_
          refine x_getR (ci := 11) (j := 11) C dX11_rests_51 lkF_X11_87 rfl h (fun c11 h => ?_)
          refine x_nn h (fun r12 h => ?_)
          refine q_iload_n C dX11_rests_54 rfl ?_
          obtain ⟨hk, h⟩ := q_obE h
          obtain ⟨u13, e1, h⟩ := q_bind h
          refine x_callV0 C dX11_rests_55 lkM_X11_329 mV_X2_restAt ⟨_, rfl, rfl⟩ hk (c_X2_restAt _ _ _ _ _ e1) rfl rfl (Nat.le_of_ble_eq_true rfl) (by decide) (by decide) ?_
          exact q_iret C dX11_rests_58 rfl (by decide) (by decide) (Option.some.inj h)
      · refine x_iconst (v := (-1 : Int32)) C dX11_rests_20 (by decide) ?_
        exact q_iret C dX11_rests_21 rfl (by decide) (by decide) (Option.some.inj h)
