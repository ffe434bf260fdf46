noncomputable def F_X12_canStay (l0 : Nat) (l1 : Nat) (l2 : Int32) (l3 : Int32) (M : q_Mem) : Option (Int32) := (q_ob M l0 12 ((F_X12_isGuest l0 l2 M).bind (fun u1 => (if u1 = 0 then q_rq (0 : Int32) else (q_lI M 0 l1 (((4 : Int32) * l2) + (3 : Int32)) (fun v2 => (if v2 = 0 then ((F_X12_isIn l3.toInt64 (1 : Int64) (9 : Int64) M).bind (fun u3 => (if u3 = 0 then q_rq (0 : Int32) else (q_lI M 0 l1 (((4 : Int32) * l2) + (0 : Int32)) (fun v4 => (if (99 : Int32) < (v4 + l3) then q_rq (0 : Int32) else q_rq (1 : Int32))))))) else q_rq (0 : Int32))))))))
set_option maxRecDepth 100000 in
set_option maxHeartbeats 4000000 in
theorem c_X12_canStay (l : Launch) (G : q_G) (l0 : Nat) (l1 : Nat) (l2 : Int32) (l3 : Int32) (M : q_Mem) {r : Int32} (h : F_X12_canStay l0 l1 l2 l3 M = some r) : q_Met l G yX12_canStay cX12_canStay 4 (Option.some Jvm.ClassFile.FieldType.boolean) 2 0 0 [.ref l0, .ref l1, .int l2, .int l3] M (some (.int r)) M := by
  unfold F_X12_canStay at h
  refine q_enter [some (.ref l0), some (.ref l1), some (.int l2), some (.int l3)] (by decide) (Nat.le_of_ble_eq_true rfl) rfl (fun K C => ?_)
  refine q_aload_n C dX12_canStay_0 rfl ?_
  refine q_iload_n C dX12_canStay_1 rfl ?_
  obtain ⟨hk, h⟩ := q_obE h
  obtain ⟨u1, e1, h⟩ := q_bind h
  refine x_callV0 C dX12_canStay_2 lkM_X12_360 mV_X12_isGuest ⟨_, rfl, rfl⟩ hk (c_X12_isGuest _ _ _ _ _ e1) rfl rfl (Nat.le_of_ble_eq_true rfl) (by decide) (by decide) ?_
  refine q_if_eq (tgt := 48) C dX12_canStay_5 (by decide) h (fun _ h => ?_) (fun _ h => ?_)
  · refine x_iconst (v := (0 : Int32)) C dX12_canStay_48 (by decide) ?_
    exact q_zret (res := (r, M)) C dX12_canStay_49 rfl (by decide) (by decide) (q_rqE h).1 (congrArg (fun z => (z, M)) (q_rqE h).2)
  · refine q_aload_n C dX12_canStay_8 rfl ?_
    refine x_iconst (v := (4 : Int32)) C dX12_canStay_9 (by decide) ?_
    refine q_iload_n C dX12_canStay_10 rfl ?_
    refine q_imul C dX12_canStay_11 ?_
    refine x_iconst (v := (3 : Int32)) C dX12_canStay_12 (by decide) ?_
    refine q_iadd C dX12_canStay_13 ?_
    refine x_iald C dX12_canStay_14 h (fun v2 h => ?_)
    refine q_if_ne (tgt := 48) C dX12_canStay_15 (by decide) h (fun _ h => ?_) (fun _ h => ?_)
    · refine q_iload_n C dX12_canStay_18 rfl ?_
      refine q_i2l C dX12_canStay_19 ?_
      refine x_lconst (v := (1 : Int64)) C dX12_canStay_20 (by decide) ?_
      refine q_ldc2 (v := (9 : Int64)) C dX12_canStay_21 wd_1565 ?_
      obtain ⟨u3, e1, h⟩ := q_bind h
      refine x_callS0 C dX12_canStay_24 lkM_X12_213 mS_X12_isIn (c_X12_isIn _ _ _ _ _ _ e1) rfl rfl (Nat.le_of_ble_eq_true rfl) (by decide) (by decide) ?_
      refine q_if_eq (tgt := 48) C dX12_canStay_27 (by decide) h (fun _ h => ?_) (fun _ h => ?_)
      · refine x_iconst (v := (0 : Int32)) C dX12_canStay_48 (by decide) ?_
        exact q_zret (res := (r, M)) C dX12_canStay_49 rfl (by decide) (by decide) (q_rqE h).1 (congrArg (fun z => (z, M)) (q_rqE h).2)
      · refine q_aload_n C dX12_canStay_30 rfl ?_
        refine x_iconst (v := (4 : Int32)) C dX12_canStay_31 (by decide) ?_
        refine q_iload_n C dX12_canStay_32 rfl ?_
        refine q_imul C dX12_canStay_33 ?_
        refine x_iconst (v := (0 : Int32)) C dX12_canStay_34 (by decide) ?_
        refine q_iadd C dX12_canStay_35 ?_
        refine x_iald C dX12_canStay_36 h (fun v4 h => ?_)
        refine q_iload_n C dX12_canStay_37 rfl ?_
        refine q_iadd C dX12_canStay_38 ?_
        refine x_bipush (v := (99 : Int32)) C dX12_canStay_39 (by decide) ?_
        refine q_icmp_gt (tgt := 48) C dX12_canStay_41 (by decide) h (fun _ h => ?_) (fun _ h => ?_)
        · refine x_iconst (v := (0 : Int32)) C dX12_canStay_48 (by decide) ?_
          exact q_zret (res := (r, M)) C dX12_canStay_49 rfl (by decide) (by decide) (q_rqE h).1 (congrArg (fun z => (z, M)) (q_rqE h).2)
        · refine x_iconst (v := (1 : Int32)) C dX12_canStay_44 (by decide) ?_
          refine q_goto (tgt := 49) C dX12_canStay_45 (by decide) ?_
          exact q_zret (res := (r, M)) C dX12_canStay_49 rfl (by decide) (by decide) (q_rqE h).1 (congrArg (fun z => (z, M)) (q_rqE h).2)
    · refine x_iconst (v := (0 : Int32)) C dX12_canStay_48 (by decide) ?_
      exact q_zret (res := (r, M)) C dX12_canStay_49 rfl (by decide) (by decide) (q_rqE h).1 (congrArg (fun z => (z, M)) (q_rqE h).2)
noncomputable def F_X12_stay (l0 : Nat) (l1 : Int32) (l2 : Int32) (M : q_Mem) : Option (Int32 × q_Mem) := (q_pI M l0 12 0 (0 : Int32) (fun M1 => (q_gR M1 l0 12 32 (fun c2 => q_nn c2 (fun r3 => (q_ob M1 l0 12 ((F_X12_canStay l0 r3 l1 l2 M1).bind (fun u4 => (if u4 = 0 then some ((-1 : Int32), M1) else (q_ob M1 l0 12 ((F_X12_remember l0 M1).bind (fun x => match x with | (_, M6) => (q_gR M6 l0 12 32 (fun c7 => q_nn c7 (fun r8 => (q_lI M6 0 r8 (((4 : Int32) * l1) + (0 : Int32)) (fun v9 => (q_tI M6 r8 (((4 : Int32) * l1) + (0 : Int32)) (v9 + l2) (fun M10 => (q_gR M10 l0 12 32 (fun c11 => q_nn c11 (fun r12 => (q_lI M10 0 r12 (((4 : Int32) * l1) + (0 : Int32)) (fun v13 => some (v13, M10)))))))))))))))))))))))))
set_option maxRecDepth 100000 in
set_option maxHeartbeats 4000000 in
theorem c_X12_stay (l : Launch) (G : q_G) (l0 : Nat) (l1 : Int32) (l2 : Int32) (M : q_Mem) {r : Int32} {M' : q_Mem} (h : F_X12_stay l0 l1 l2 M = some (r, M')) : q_Met l G yX12_stay cX12_stay 3 (Option.some Jvm.ClassFile.FieldType.int) 3 0 0 [.ref l0, .int l1, .int l2] M (some (.int r)) M' := by
  unfold F_X12_stay at h
  refine q_enter [some (.ref l0), some (.int l1), some (.int l2)] (by decide) (Nat.le_of_ble_eq_true rfl) rfl (fun K C => ?_)
  refine q_aload_n C dX12_stay_0 rfl ?_
  refine x_iconst (v := (0 : Int32)) C dX12_stay_1 (by decide) ?_
  refine x_putI (ci := 12) (j := 0) C dX12_stay_2 lkF_X12_92 (fun r hr => by cases hr; rfl) rfl h (fun M1 h => ?_)
  refine q_aload_n C dX12_stay_5 rfl ?_
  refine q_aload_n C dX12_stay_6 rfl ?_
  refine x_getR (ci := 12) (j := 32) C dX12_stay_7 lkF_X12_61 rfl h (fun c2 h => ?_)
  refine x_nn h (fun r3 h => ?_)
  refine q_iload_n C dX12_stay_10 rfl ?_
  refine q_iload_n C dX12_stay_11 rfl ?_
  obtain ⟨hk, h⟩ := q_obE h
  obtain ⟨u4, e1, h⟩ := q_bind h
  refine x_callV0 C dX12_stay_12 lkM_X12_386 mV_X12_canStay ⟨_, rfl, rfl⟩ hk (c_X12_canStay _ _ _ _ _ _ _ e1) rfl rfl (Nat.le_of_ble_eq_true rfl) (by decide) (by decide) ?_
  refine q_if_ne (tgt := 20) C dX12_stay_15 (by decide) h (fun _ h => ?_) (fun _ h => ?_)
  · refine x_iconst (v := (-1 : Int32)) C dX12_stay_18 (by decide) ?_
    exact q_iret C dX12_stay_19 rfl (by decide) (by decide) (Option.some.inj h)
  · refine q_aload_n C dX12_stay_20 rfl ?_
    obtain ⟨hk, h⟩ := q_obE h
    obtain ⟨⟨_, M6⟩, e1, h⟩ := q_bind h
    refine x_callVv0 C dX12_stay_21 lkM_X12_367 mV_X12_remember ⟨_, rfl, rfl⟩ hk (c_X12_remember _ _ _ _ e1) rfl rfl (Nat.le_of_ble_eq_true rfl) (by decide) (by decide) ?_
    refine q_aload_n C dX12_stay_24 rfl ?_
    refine x_getR (ci := 12) (j := 32) C dX12_stay_25 lkF_X12_61 rfl h (fun c7 h => ?_)
    refine x_nn h (fun r8 h => ?_)
    refine x_iconst (v := (4 : Int32)) C dX12_stay_28 (by decide) ?_
    refine q_iload_n C dX12_stay_29 rfl ?_
    refine q_imul C dX12_stay_30 ?_
    refine x_iconst (v := (0 : Int32)) C dX12_stay_31 (by decide) ?_
    refine q_iadd C dX12_stay_32 ?_
    refine q_dup2 C dX12_stay_33 rfl rfl ?_
    refine x_iald C dX12_stay_34 h (fun v9 h => ?_)
    refine q_iload_n C dX12_stay_35 rfl ?_
    refine q_iadd C dX12_stay_36 ?_
    refine x_iast C dX12_stay_37 h (fun M10 h => ?_)
    refine q_aload_n C dX12_stay_38 rfl ?_
    refine x_getR (ci := 12) (j := 32) C dX12_stay_39 lkF_X12_61 rfl h (fun c11 h => ?_)
    refine x_nn h (fun r12 h => ?_)
    refine x_iconst (v := (4 : Int32)) C dX12_stay_42 (by decide) ?_
    refine q_iload_n C dX12_stay_43 rfl ?_
    refine q_imul C dX12_stay_44 ?_
    refine x_iconst (v := (0 : Int32)) C dX12_stay_45 (by decide) ?_
    refine q_iadd C dX12_stay_46 ?_
    refine x_iald C dX12_stay_47 h (fun v13 h => ?_)
    exact q_iret C dX12_stay_48 rfl (by decide) (by decide) (Option.some.inj h)
noncomputable def F_X12_sign (l0 : Nat) (l1 : Int32) (l2 : Int32) (M : q_Mem) : Option (Int32 × q_Mem) := (q_pI M l0 12 0 (0 : Int32) (fun M1 => (q_ob M1 l0 12 ((F_X12_isGuest l0 l1 M1).bind (fun u2 => (if u2 = 0 then some ((-1 : Int32), M1) else ((F_X12_isIn l2.toInt64 (0 : Int64) (3 : Int64) M1).bind (fun u3 => (if u3 = 0 then some ((-1 : Int32), M1) else (q_gR M1 l0 12 32 (fun c4 => q_nn c4 (fun r5 => (q_lI M1 0 r5 (((4 : Int32) * l1) + (1 : Int32)) (fun v6 => (if v6 = l2 then some ((-1 : Int32), M1) else (q_ob M1 l0 12 ((F_X12_remember l0 M1).bind (fun x => match x with | (_, M8) => (q_gR M8 l0 12 32 (fun c9 => q_nn c9 (fun r10 => (q_lI M8 0 r10 (((4 : Int32) * l1) + (1 : Int32)) (fun v11 => (q_gR M8 l0 12 32 (fun c12 => q_nn c12 (fun r13 => (q_tI M8 r13 (((4 : Int32) * l1) + (1 : Int32)) l2 (fun M14 => some (v11, M14)))))))))))))))))))))))))))))
set_option maxRecDepth 100000 in
set_option maxHeartbeats 4000000 in
theorem c_X12_sign (l : Launch) (G : q_G) (l0 : Nat) (l1 : Int32) (l2 : Int32) (M : q_Mem) {r : Int32} {M' : q_Mem} (h : F_X12_sign l0 l1 l2 M = some (r, M')) : q_Met l G yX12_sign cX12_sign 4 (Option.some Jvm.ClassFile.FieldType.int) 2 0 0 [.ref l0, .int l1, .int l2] M (some (.int r)) M' := by
  unfold F_X12_sign at h
  refine q_enter [some (.ref l0), some (.int l1), some (.int l2), none] (by decide) (Nat.le_of_ble_eq_true rfl) rfl (fun K C => ?_)
  refine q_aload_n C dX12_sign_0 rfl ?_
  refine x_iconst (v := (0 : Int32)) C dX12_sign_1 (by decide) ?_
  refine x_putI (ci := 12) (j := 0) C dX12_sign_2 lkF_X12_92 (fun r hr => by cases hr; rfl) rfl h (fun M1 h => ?_)
  refine q_aload_n C dX12_sign_5 rfl ?_
  refine q_iload_n C dX12_sign_6 rfl ?_
  obtain ⟨hk, h⟩ := q_obE h
  obtain ⟨u2, e1, h⟩ := q_bind h
  refine x_callV0 C dX12_sign_7 lkM_X12_360 mV_X12_isGuest ⟨_, rfl, rfl⟩ hk (c_X12_isGuest _ _ _ _ _ e1) rfl rfl (Nat.le_of_ble_eq_true rfl) (by decide) (by decide) ?_
  refine q_if_eq (tgt := 39) C dX12_sign_10 (by decide) h (fun _ h => ?_) (fun _ h => ?_)
  · refine x_iconst (v := (-1 : Int32)) C dX12_sign_39 (by decide) ?_
    exact q_iret C dX12_sign_40 rfl (by decide) (by decide) (Option.some.inj h)
  · refine q_iload_n C dX12_sign_13 rfl ?_
    refine q_i2l C dX12_sign_14 ?_
    refine x_lconst (v := (0 : Int64)) C dX12_sign_15 (by decide) ?_
    refine q_ldc2 (v := (3 : Int64)) C dX12_sign_16 wd_1654 ?_
    obtain ⟨u3, e1, h⟩ := q_bind h
    refine x_callS0 C dX12_sign_19 lkM_X12_213 mS_X12_isIn (c_X12_isIn _ _ _ _ _ _ e1) rfl rfl (Nat.le_of_ble_eq_true rfl) (by decide) (by decide) ?_
    refine q_if_eq (tgt := 39) C dX12_sign_22 (by decide) h (fun _ h => ?_) (fun _ h => ?_)
    · refine x_iconst (v := (-1 : Int32)) C dX12_sign_39 (by decide) ?_
      exact q_iret C dX12_sign_40 rfl (by decide) (by decide) (Option.some.inj h)
    · refine q_aload_n C dX12_sign_25 rfl ?_
      refine x_getR (ci := 12) (j := 32) C dX12_sign_26 lkF_X12_61 rfl h (fun c4 h => ?_)
      refine x_nn h (fun r5 h => ?_)
      refine x_iconst (v := (4 : Int32)) C dX12_sign_29 (by decide) ?_
      refine q_iload_n C dX12_sign_30 rfl ?_
      refine q_imul C dX12_sign_31 ?_
      refine x_iconst (v := (1 : Int32)) C dX12_sign_32 (by decide) ?_
      refine q_iadd C dX12_sign_33 ?_
      refine x_iald C dX12_sign_34 h (fun v6 h => ?_)
      refine q_iload_n C dX12_sign_35 rfl ?_
      refine q_icmp_ne (tgt := 41) C dX12_sign_36 (by decide) h (fun _ h => ?_) (fun _ h => ?_)
      · refine x_iconst (v := (-1 : Int32)) C dX12_sign_39 (by decide) ?_
        exact q_iret C dX12_sign_40 rfl (by decide) (by decide) (Option.some.inj h)
      · refine q_aload_n C dX12_sign_41 rfl ?_
        obtain ⟨hk, h⟩ := q_obE h
        obtain ⟨⟨_, M8⟩, e1, h⟩ := q_bind h
        refine x_callVv0 C dX12_sign_42 lkM_X12_367 mV_X12_remember ⟨_, rfl, rfl⟩ hk (c_X12_remember _ _ _ _ e1) rfl rfl (Nat.le_of_ble_eq_true rfl) (by decide) (by decide) ?_
        refine q_aload_n C dX12_sign_45 rfl ?_
        refine x_getR (ci := 12) (j := 32) C dX12_sign_46 lkF_X12_61 rfl h (fun c9 h => ?_)
        refine x_nn h (fun r10 h => ?_)
        refine x_iconst (v := (4 : Int32)) C dX12_sign_49 (by decide) ?_
        refine q_iload_n C dX12_sign_50 rfl ?_
        refine q_imul C dX12_sign_51 ?_
        refine x_iconst (v := (1 : Int32)) C dX12_sign_52 (by decide) ?_
        refine q_iadd C dX12_sign_53 ?_
        refine x_iald C dX12_sign_54 h (fun v11 h => ?_)
        refine q_istore_n (L' := [some (.ref l0), some (.int l1), some (.int l2), some (.int v11)]) C dX12_sign_55 (by decide) rfl rfl ?_
        refine q_aload_n C dX12_sign_56 rfl ?_
        refine x_getR (ci := 12) (j := 32) C dX12_sign_57 lkF_X12_61 rfl h (fun c12 h => ?_)
        refine x_nn h (fun r13 h => ?_)
        refine x_iconst (v := (4 : Int32)) C dX12_sign_60 (by decide) ?_
        refine q_iload_n C dX12_sign_61 rfl ?_
        refine q_imul C dX12_sign_62 ?_
        refine x_iconst (v := (1 : Int32)) C dX12_sign_63 (by decide) ?_
        refine q_iadd C dX12_sign_64 ?_
        refine q_iload_n C dX12_sign_65 rfl ?_
        refine x_iast C dX12_sign_66 h (fun M14 h => ?_)
        refine q_iload_n C dX12_sign_67 rfl ?_
        exact q_iret C dX12_sign_68 rfl (by decide) (by decide) (Option.some.inj h)
noncomputable def F_X12_draw (l0 : Nat) (l1 : Int32) (M : q_Mem) : Option (Int32 × q_Mem) := (q_gL M l0 12 43 (fun v1 => (q_pL M l0 12 43 ((v1 * (6364136223846793005 : Int64)) + (1442695040888963407 : Int64)) (fun M2 => (q_gL M2 l0 12 43 (fun v3 => (q_rml ((v3.toUInt64 >>> ((33 : Int32).toInt64.toUInt64 &&& Int64.toUInt64 63)).toInt64) l1.toInt64 (fun v4 => some (v4.toInt32, M2)))))))))
set_option maxRecDepth 100000 in
set_option maxHeartbeats 4000000 in
theorem c_X12_draw (l : Launch) (G : q_G) (l0 : Nat) (l1 : Int32) (M : q_Mem) {r : Int32} {M' : q_Mem} (h : F_X12_draw l0 l1 M = some (r, M')) : q_Met l G yX12_draw cX12_draw 2 (Option.some Jvm.ClassFile.FieldType.int) 1 0 0 [.ref l0, .int l1] M (some (.int r)) M' := by
  unfold F_X12_draw at h
  refine q_enter [some (.ref l0), some (.int l1)] (by decide) (Nat.le_of_ble_eq_true rfl) rfl (fun K C => ?_)
  refine q_aload_n C dX12_draw_0 rfl ?_
  refine q_aload_n C dX12_draw_1 rfl ?_
  refine x_getL (ci := 12) (j := 43) C dX12_draw_2 lkF_X12_392 rfl h (fun v1 h => ?_)
  refine q_ldc2 (v := (6364136223846793005 : Int64)) C dX12_draw_5 wd_1664 ?_
  refine q_lmul C dX12_draw_8 ?_
  refine q_ldc2 (v := (1442695040888963407 : Int64)) C dX12_draw_9 wd_1665 ?_
  refine q_ladd C dX12_draw_12 ?_
  refine x_putL (ci := 12) (j := 43) C dX12_draw_13 lkF_X12_392 (fun r hr => by cases hr; rfl) rfl h (fun M2 h => ?_)
  refine q_aload_n C dX12_draw_16 rfl ?_
  refine x_getL (ci := 12) (j := 43) C dX12_draw_17 lkF_X12_392 rfl h (fun v3 h => ?_)
  refine x_bipush (v := (33 : Int32)) C dX12_draw_20 (by decide) ?_
  refine q_lushr C dX12_draw_22 ?_
  refine q_iload_n C dX12_draw_23 rfl ?_
  refine q_i2l C dX12_draw_24 ?_
  refine q_lrem C dX12_draw_25 h (fun v4 h => ?_)
  refine q_l2i C dX12_draw_26 ?_
  exact q_iret C dX12_draw_27 rfl (by decide) (by decide) (Option.some.inj h)
noncomputable def J_X12_years_160_49 (l0 : Nat) (l1 : Int32) (l4 : Int32) (M : q_Mem) : Option ((Int32 × q_Mem) ⊕ (q_Mem)) := (q_gR M l0 12 32 (fun c24 => q_nn c24 (fun r25 => (q_ob M l0 12 ((F_X12_goDay l0 r25 M).bind (fun x => match x with | (u26, M27) => some (.inl ((l4 + (1 : Int32)), M27))))))))
set_option maxRecDepth 100000 in
set_option maxHeartbeats 4000000 in
theorem jW_X12_years_160_49 {K : q_K} {Q : State → Prop} (C : q_C K yX12_years cX12_years 6 (Option.some Jvm.ClassFile.FieldType.int) 133 0 0) (l0 : Nat) (l1 : Int32) (l4 : Int32) (M : q_Mem) {stp : (Int32 × q_Mem) ⊕ (q_Mem)} (h : J_X12_years_160_49 l0 l1 l4 M = some stp) (kC : ∀ (l4 : Int32) (M : q_Mem), stp = .inl (l4, M) → q_W K 6 Q 0 0 M 49 [some (.ref l0), some (.int l1), none, none, some (.int l4), none] []) (kE0 : ∀ (M : q_Mem), stp = .inr M → q_W K 6 Q 0 0 M 176 [some (.ref l0), none, none, none, none, none] []) : q_W K 6 Q 0 0 M 160 [some (.ref l0), some (.int l1), none, none, some (.int l4), none] [] := by
  unfold J_X12_years_160_49 at h
  refine q_aload_n C dX12_years_160 rfl ?_
  refine q_aload_n C dX12_years_161 rfl ?_
  refine x_getR (ci := 12) (j := 32) C dX12_years_162 lkF_X12_61 rfl h (fun c24 h => ?_)
  refine x_nn h (fun r25 h => ?_)
  obtain ⟨hk, h⟩ := q_obE h
  obtain ⟨⟨u26, M27⟩, e1, h⟩ := q_bind h
  refine x_callV0 C dX12_years_165 lkM_X12_370 mV_X12_goDay ⟨_, rfl, rfl⟩ hk (c_X12_goDay _ _ _ _ _ e1) rfl rfl (Nat.le_of_ble_eq_true rfl) (by decide) (by decide) ?_
  refine q_istore (L' := [some (.ref l0), some (.int l1), none, none, some (.int l4), some (.int u26)]) C dX12_years_168 (by decide) rfl rfl ?_
  refine x_iinc (w := (1 : Int32)) (L' := [some (.ref l0), some (.int l1), none, none, some (.int (l4 + (1 : Int32))), some (.int u26)]) C dX12_years_170 rfl (by decide) (by decide) rfl rfl ?_
  refine q_goto (tgt := 49) C dX12_years_173 (by decide) ?_
  exact q_msk [true, true, false, false, true, false] (kC _ _ (Option.some.inj h).symm)
noncomputable def J_X12_years_93_49 (l0 : Nat) (l1 : Int32) (l4 : Int32) (M : q_Mem) : Option ((Int32 × q_Mem) ⊕ (q_Mem)) := (q_gR M l0 12 32 (fun c16 => q_nn c16 (fun r17 => (q_gI M l0 12 26 (fun v18 => (q_ob M l0 12 ((F_X12_draw l0 v18 M).bind (fun x => match x with | (u19, M20) => (q_tI M20 r17 (34 : Int32) ((1 : Int32) + u19) (fun M21 => (q_ob M21 l0 12 ((F_X12_draw l0 (10 : Int32) M21).bind (fun x => match x with | (u22, M23) => (if u22 < (8 : Int32) then J_X12_years_160_49 l0 l1 l4 M23 else (q_gI M23 l0 12 27 (fun v28 => (q_ob M23 l0 12 ((F_X12_draw l0 v28 M23).bind (fun x => match x with | (u29, M30) => (q_gR M30 l0 12 32 (fun c31 => q_nn c31 (fun r32 => (q_ob M30 l0 12 ((F_X12_canStay l0 r32 u29 (2 : Int32) M30).bind (fun u33 => (if u33 = 0 then J_X12_years_160_49 l0 l1 l4 M30 else (q_gR M30 l0 12 32 (fun c34 => q_nn c34 (fun r35 => (q_lI M30 0 r35 (((4 : Int32) * u29) + (0 : Int32)) (fun v36 => (q_tI M30 r35 (((4 : Int32) * u29) + (0 : Int32)) (v36 + (2 : Int32)) (fun M37 => J_X12_years_160_49 l0 l1 l4 M37)))))))))))))))))))))))))))))))))
set_option maxRecDepth 100000 in
set_option maxHeartbeats 4000000 in
theorem jW_X12_years_93_49 {K : q_K} {Q : State → Prop} (C : q_C K yX12_years cX12_years 6 (Option.some Jvm.ClassFile.FieldType.int) 133 0 0) (l0 : Nat) (l1 : Int32) (l4 : Int32) (M : q_Mem) {stp : (Int32 × q_Mem) ⊕ (q_Mem)} (h : J_X12_years_93_49 l0 l1 l4 M = some stp) (kC : ∀ (l4 : Int32) (M : q_Mem), stp = .inl (l4, M) → q_W K 6 Q 0 0 M 49 [some (.ref l0), some (.int l1), none, none, some (.int l4), none] []) (kE0 : ∀ (M : q_Mem), stp = .inr M → q_W K 6 Q 0 0 M 176 [some (.ref l0), none, none, none, none, none] []) : q_W K 6 Q 0 0 M 93 [some (.ref l0), some (.int l1), none, none, some (.int l4), none] [] := by
  unfold J_X12_years_93_49 at h
  refine q_aload_n C dX12_years_93 rfl ?_
  refine x_getR (ci := 12) (j := 32) C dX12_years_94 lkF_X12_61 rfl h (fun c16 h => ?_)
  refine x_nn h (fun r17 h => ?_)
  refine x_bipush (v := (34 : Int32)) C dX12_years_97 (by decide) ?_
  refine x_iconst (v := (1 : Int32)) C dX12_years_99 (by decide) ?_
  refine q_aload_n C dX12_years_100 rfl ?_
  refine q_aload_n C dX12_years_101 rfl ?_
  refine x_getI (ci := 12) (j := 26) C dX12_years_102 lkF_X12_284 rfl h (fun v18 h => ?_)
  obtain ⟨hk, h⟩ := q_obE h
  obtain ⟨⟨u19, M20⟩, e1, h⟩ := q_bind h
  refine x_callV0 C dX12_years_105 lkM_X12_402 mV_X12_draw ⟨_, rfl, rfl⟩ hk (c_X12_draw _ _ _ _ _ e1) rfl rfl (Nat.le_of_ble_eq_true rfl) (by decide) (by decide) ?_
  refine q_iadd C dX12_years_108 ?_
  refine x_iast C dX12_years_109 h (fun M21 h => ?_)
  refine q_aload_n C dX12_years_110 rfl ?_
  refine x_bipush (v := (10 : Int32)) C dX12_years_111 (by decide) ?_
  obtain ⟨hk, h⟩ := q_obE h
  obtain ⟨⟨u22, M23⟩, e1, h⟩ := q_bind h
  refine x_callV0 C dX12_years_113 lkM_X12_402 mV_X12_draw ⟨_, rfl, rfl⟩ hk (c_X12_draw _ _ _ _ _ e1) rfl rfl (Nat.le_of_ble_eq_true rfl) (by decide) (by decide) ?_
  refine x_bipush (v := (8 : Int32)) C dX12_years_116 (by decide) ?_
  refine q_icmp_lt (tgt := 160) C dX12_years_118 (by decide) h (fun _ h => ?_) (fun _ h => ?_)
  · exact q_msk [true, true, false, false, true, false] (jW_X12_years_160_49 C l0 l1 l4 M23 h kC kE0)
  · refine q_aload_n C dX12_years_121 rfl ?_
    refine q_aload_n C dX12_years_122 rfl ?_
    refine x_getI (ci := 12) (j := 27) C dX12_years_123 lkF_X12_287 rfl h (fun v28 h => ?_)
    obtain ⟨hk, h⟩ := q_obE h
    obtain ⟨⟨u29, M30⟩, e1, h⟩ := q_bind h
    refine x_callV0 C dX12_years_126 lkM_X12_402 mV_X12_draw ⟨_, rfl, rfl⟩ hk (c_X12_draw _ _ _ _ _ e1) rfl rfl (Nat.le_of_ble_eq_true rfl) (by decide) (by decide) ?_
    refine q_istore (L' := [some (.ref l0), some (.int l1), none, none, some (.int l4), some (.int u29)]) C dX12_years_129 (by decide) rfl rfl ?_
    refine q_aload_n C dX12_years_131 rfl ?_
    refine q_aload_n C dX12_years_132 rfl ?_
    refine x_getR (ci := 12) (j := 32) C dX12_years_133 lkF_X12_61 rfl h (fun c31 h => ?_)
    refine x_nn h (fun r32 h => ?_)
    refine q_iload C dX12_years_136 rfl ?_
    refine x_iconst (v := (2 : Int32)) C dX12_years_138 (by decide) ?_
    obtain ⟨hk, h⟩ := q_obE h
    obtain ⟨u33, e1, h⟩ := q_bind h
    refine x_callV0 C dX12_years_139 lkM_X12_386 mV_X12_canStay ⟨_, rfl, rfl⟩ hk (c_X12_canStay _ _ _ _ _ _ _ e1) rfl rfl (Nat.le_of_ble_eq_true rfl) (by decide) (by decide) ?_
    refine q_if_eq (tgt := 160) C dX12_years_142 (by decide) h (fun _ h => ?_) (fun _ h => ?_)
    · exact q_msk [true, true, false, false, true, false] (jW_X12_years_160_49 C l0 l1 l4 M30 h kC kE0)
    · refine q_aload_n C dX12_years_145 rfl ?_
      refine x_getR (ci := 12) (j := 32) C dX12_years_146 lkF_X12_61 rfl h (fun c34 h => ?_)
      refine x_nn h (fun r35 h => ?_)
      refine x_iconst (v := (4 : Int32)) C dX12_years_149 (by decide) ?_
      refine q_iload C dX12_years_150 rfl ?_
      refine q_imul C dX12_years_152 ?_
      refine x_iconst (v := (0 : Int32)) C dX12_years_153 (by decide) ?_
      refine q_iadd C dX12_years_154 ?_
      refine q_dup2 C dX12_years_155 rfl rfl ?_
      refine x_iald C dX12_years_156 h (fun v36 h => ?_)
      refine x_iconst (v := (2 : Int32)) C dX12_years_157 (by decide) ?_
      refine q_iadd C dX12_years_158 ?_
      refine x_iast C dX12_years_159 h (fun M37 h => ?_)
      exact q_msk [true, true, false, false, true, false] (jW_X12_years_160_49 C l0 l1 l4 M37 h kC kE0)
noncomputable def B_X12_years_49 (l0 : Nat) (l1 : Int32) (l4 : Int32) (M : q_Mem) : Option ((Int32 × q_Mem) ⊕ (q_Mem)) := (if l4 < l1 then (q_ob M l0 12 ((F_X12_remember l0 M).bind (fun x => match x with | (_, M9) => (q_ob M9 l0 12 ((F_X12_draw l0 (10 : Int32) M9).bind (fun x => match x with | (u10, M11) => (q_gI M11 l0 12 35 (fun v12 => (if u10 < v12 then (q_gR M11 l0 12 32 (fun c13 => q_nn c13 (fun r14 => ((F_X12_canBeIll r14 M11).bind (fun u15 => (if u15 = 0 then J_X12_years_93_49 l0 l1 l4 M11 else (q_gR M11 l0 12 32 (fun c38 => q_nn c38 (fun r39 => (q_lI M11 0 r39 (32 : Int32) (fun v40 => (q_tI M11 r39 (32 : Int32) (v40 + (1 : Int32)) (fun M41 => J_X12_years_93_49 l0 l1 l4 M41))))))))))))) else J_X12_years_93_49 l0 l1 l4 M11))))))))) else some (.inr M))
set_option maxRecDepth 100000 in
set_option maxHeartbeats 4000000 in
theorem bW_X12_years_49 {K : q_K} {Q : State → Prop} (C : q_C K yX12_years cX12_years 6 (Option.some Jvm.ClassFile.FieldType.int) 133 0 0) (l0 : Nat) (l1 : Int32) (l4 : Int32) (M : q_Mem) {stp : (Int32 × q_Mem) ⊕ (q_Mem)} (h : B_X12_years_49 l0 l1 l4 M = some stp) (kC : ∀ (l4 : Int32) (M : q_Mem), stp = .inl (l4, M) → q_W K 6 Q 0 0 M 49 [some (.ref l0), some (.int l1), none, none, some (.int l4), none] []) (kE0 : ∀ (M : q_Mem), stp = .inr M → q_W K 6 Q 0 0 M 176 [some (.ref l0), none, none, none, none, none] []) : q_W K 6 Q 0 0 M 49 [some (.ref l0), some (.int l1), none, none, some (.int l4), none] [] := by
  unfold B_X12_years_49 at h
  refine q_iload C dX12_years_49 rfl ?_
  refine q_iload_n C dX12_years_51 rfl ?_
  refine q_icmp_ge (tgt := 176) C dX12_years_52 (by decide) h (fun _ h => ?_) (fun _ h => ?_)
  · refine q_aload_n C dX12_years_55 rfl ?_
    obtain ⟨hk, h⟩ := q_obE h
    obtain ⟨⟨_, M9⟩, e1, h⟩ := q_bind h
    refine x_callVv0 C dX12_years_56 lkM_X12_367 mV_X12_remember ⟨_, rfl, rfl⟩ hk (c_X12_remember _ _ _ _ e1) rfl rfl (Nat.le_of_ble_eq_true rfl) (by decide) (by decide) ?_
    refine q_aload_n C dX12_years_59 rfl ?_
    refine x_bipush (v := (10 : Int32)) C dX12_years_60 (by decide) ?_
    obtain ⟨hk, h⟩ := q_obE h
    obtain ⟨⟨u10, M11⟩, e1, h⟩ := q_bind h
    refine x_callV0 C dX12_years_62 lkM_X12_402 mV_X12_draw ⟨_, rfl, rfl⟩ hk (c_X12_draw _ _ _ _ _ e1) rfl rfl (Nat.le_of_ble_eq_true rfl) (by decide) (by decide) ?_
    refine q_aload_n C dX12_years_65 rfl ?_
    refine x_getI (ci := 12) (j := 35) C dX12_years_66 lkF_X12_71 rfl h (fun v12 h => ?_)
    refine q_icmp_ge (tgt := 93) C dX12_years_69 (by decide) h (fun _ h => ?_) (fun _ h => ?_)
    · refine q_aload_n C dX12_years_72 rfl ?_
      refine x_getR (ci := 12) (j := 32) C dX12_years_73 lkF_X12_61 rfl h (fun c13 h => ?_)
      refine x_nn h (fun r14 h => ?_)
      obtain ⟨u15, e1, h⟩ := q_bind h
      refine x_callS0 C dX12_years_76 lkM_X12_376 mS_X12_canBeIll (c_X12_canBeIll _ _ _ _ e1) rfl rfl (Nat.le_of_ble_eq_true rfl) (by decide) (by decide) ?_
      refine q_if_eq (tgt := 93) C dX12_years_79 (by decide) h (fun _ h => ?_) (fun _ h => ?_)
      · exact q_msk [true, true, false, false, true, false] (jW_X12_years_93_49 C l0 l1 l4 M11 h kC kE0)
      · refine q_aload_n C dX12_years_82 rfl ?_
        refine x_getR (ci := 12) (j := 32) C dX12_years_83 lkF_X12_61 rfl h (fun c38 h => ?_)
        refine x_nn h (fun r39 h => ?_)
        refine x_bipush (v := (32 : Int32)) C dX12_years_86 (by decide) ?_
        refine q_dup2 C dX12_years_88 rfl rfl ?_
        refine x_iald C dX12_years_89 h (fun v40 h => ?_)
        refine x_iconst (v := (1 : Int32)) C dX12_years_90 (by decide) ?_
        refine q_iadd C dX12_years_91 ?_
        refine x_iast C dX12_years_92 h (fun M41 h => ?_)
        exact q_msk [true, true, false, false, true, false] (jW_X12_years_93_49 C l0 l1 l4 M41 h kC kE0)
    · exact q_msk [true, true, false, false, true, false] (jW_X12_years_93_49 C l0 l1 l4 M11 h kC kE0)
  · exact q_msk [true, false, false, false, false, false] (kE0 _ (Option.some.inj h).symm)
set_option maxRecDepth 100000 in
set_option maxHeartbeats 4000000 in
theorem lW_X12_years_49 {K : q_K} {Q : State → Prop} (C : q_C K yX12_years cX12_years 6 (Option.some Jvm.ClassFile.FieldType.int) 133 0 0) (l0 : Nat) (l1 : Int32) (n : Nat) : ∀ (l4 : Int32) (M : q_Mem) (e : (q_Mem)), q_lp (fun s => B_X12_years_49 l0 l1 s.1 s.2) n (l4, M) = some e → (∀ (M : q_Mem), e = M → q_W K 6 Q 0 0 M 176 [some (.ref l0), none, none, none, none, none] []) → q_W K 6 Q 0 0 M 49 [some (.ref l0), some (.int l1), none, none, some (.int l4), none] [] := by
  induction n with
  | zero => intro l4 M e h; cases h
  | succ n ih =>
    intro l4 M e h kE0
    obtain ⟨stp, e1, e2⟩ := q_bind h
    refine bW_X12_years_49 C l0 l1 l4 M e1 (fun a0 a1 hs => ?_) (fun b0 hs => ?_)
    · subst hs; exact ih _ _ _ e2 kE0
    · subst hs; exact kE0 _ (Option.some.inj e2).symm
noncomputable def F_X12_years (l0 : Nat) (l1 : Int32) (l2 : Int64) (M : q_Mem) : Option (Int32 × q_Mem) := (q_pI M l0 12 0 (0 : Int32) (fun M1 => (q_gI M1 l0 12 27 (fun v2 => (if v2 = 0 then some ((-1 : Int32), M1) else ((F_X12_isIn l1.toInt64 (1 : Int64) (30 : Int64) M1).bind (fun u3 => (if u3 = 0 then some ((-1 : Int32), M1) else (q_gR M1 l0 12 32 (fun c4 => q_nn c4 (fun r5 => (q_lI M1 0 r5 (35 : Int32) (fun v6 => (if (999 : Int32) < (v6 + l1) then some ((-1 : Int32), M1) else (q_pL M1 l0 12 43 l2 (fun M7 => (q_lp (fun s => B_X12_years_49 l0 l1 s.1 s.2) q_fu ((0 : Int32), M7)).bind (fun e42 => match e42 with | M43 => (q_gR M43 l0 12 32 (fun c44 => q_nn c44 (fun r45 => (q_lI M43 0 r45 (35 : Int32) (fun v46 => some (v46, M43)))))))))))))))))))))))
set_option maxRecDepth 100000 in
set_option maxHeartbeats 4000000 in
theorem c_X12_years (l : Launch) (G : q_G) (l0 : Nat) (l1 : Int32) (l2 : Int64) (M : q_Mem) {r : Int32} {M' : q_Mem} (h : F_X12_years l0 l1 l2 M = some (r, M')) : q_Met l G yX12_years cX12_years 6 (Option.some Jvm.ClassFile.FieldType.int) 133 0 0 [.ref l0, .int l1, .long l2] M (some (.int r)) M' := by
  unfold F_X12_years at h
  refine q_enter [some (.ref l0), some (.int l1), some (.long l2), none, none, none] (by decide) (Nat.le_of_ble_eq_true rfl) rfl (fun K C => ?_)
  refine q_aload_n C dX12_years_0 rfl ?_
  refine x_iconst (v := (0 : Int32)) C dX12_years_1 (by decide) ?_
  refine x_putI (ci := 12) (j := 0) C dX12_years_2 lkF_X12_92 (fun r hr => by cases hr; rfl) rfl h (fun M1 h => ?_)
  refine q_aload_n C dX12_years_5 rfl ?_
  refine x_getI (ci := 12) (j := 27) C dX12_years_6 lkF_X12_287 rfl h (fun v2 h => ?_)
  refine q_if_eq (tgt := 39) C dX12_years_9 (by decide) h (fun _ h => ?_) (fun _ h => ?_)
  · refine x_iconst (v := (-1 : Int32)) C dX12_years_39 (by decide) ?_
    exact q_iret C dX12_years_40 rfl (by decide) (by decide) (Option.some.inj h)
  · refine q_iload_n C dX12_years_12 rfl ?_
    refine q_i2l C dX12_years_13 ?_
    refine x_lconst (v := (1 : Int64)) C dX12_years_14 (by decide) ?_
    refine q_ldc2 (v := (30 : Int64)) C dX12_years_15 wd_1659 ?_
    obtain ⟨u3, e1, h⟩ := q_bind h
    refine x_callS0 C dX12_years_18 lkM_X12_213 mS_X12_isIn (c_X12_isIn _ _ _ _ _ _ e1) rfl rfl (Nat.le_of_ble_eq_true rfl) (by decide) (by decide) ?_
    refine q_if_eq (tgt := 39) C dX12_years_21 (by decide) h (fun _ h => ?_) (fun _ h => ?_)
    · refine x_iconst (v := (-1 : Int32)) C dX12_years_39 (by decide) ?_
      exact q_iret C dX12_years_40 rfl (by decide) (by decide) (Option.some.inj h)
    · refine q_aload_n C dX12_years_24 rfl ?_
      refine x_getR (ci := 12) (j := 32) C dX12_years_25 lkF_X12_61 rfl h (fun c4 h => ?_)
      refine x_nn h (fun r5 h => ?_)
      refine x_bipush (v := (35 : Int32)) C dX12_years_28 (by decide) ?_
      refine x_iald C dX12_years_30 h (fun v6 h => ?_)
      refine q_iload_n C dX12_years_31 rfl ?_
      refine q_iadd C dX12_years_32 ?_
      refine x_sipush (v := (999 : Int32)) C dX12_years_33 (by decide) ?_
      refine q_icmp_le (tgt := 41) C dX12_years_36 (by decide) h (fun _ h => ?_) (fun _ h => ?_)
      · refine x_iconst (v := (-1 : Int32)) C dX12_years_39 (by decide) ?_
        exact q_iret C dX12_years_40 rfl (by decide) (by decide) (Option.some.inj h)
      · refine q_aload_n C dX12_years_41 rfl ?_
        refine q_lload_n C dX12_years_42 rfl ?_
        refine x_putL (ci := 12) (j := 43) C dX12_years_43 lkF_X12_392 (fun r hr => by cases hr; rfl) rfl h (fun M7 h => ?_)
        refine x_iconst (v := (0 : Int32)) C dX12_years_46 (by decide) ?_
        refine q_istore (L' := [some (.ref l0), some (.int l1), some (.long l2), none, some (.int (0 : Int32)), none]) C dX12_years_47 (by decide) rfl rfl ?_
        obtain ⟨e42, he, h⟩ := q_bind h
        refine q_msk [true, true, false, false, true, false] (lW_X12_years_49 C l0 l1 q_fu _ _ _ he (fun M43 hs => ?_))
        · have hs := hs.symm
          subst hs
          refine q_aload_n C dX12_years_176 rfl ?_
          refine x_getR (ci := 12) (j := 32) C dX12_years_177 lkF_X12_61 rfl h (fun c44 h => ?_)
          refine x_nn h (fun r45 h => ?_)
          refine x_bipush (v := (35 : Int32)) C dX12_years_180 (by decide) ?_
          refine x_iald C dX12_years_182 h (fun v46 h => ?_)
          exact q_iret C dX12_years_183 rfl (by decide) (by decide) (Option.some.inj h)
noncomputable def B_X12_undo_26 (l0 : Nat) (l1 : Int32) (M : q_Mem) : Option ((Int32 × q_Mem) ⊕ (q_Mem)) := (if l1 < (217 : Int32) then (q_gR M l0 12 32 (fun c5 => q_nn c5 (fun r6 => (q_gR M l0 12 41 (fun c7 => q_nn c7 (fun r8 => (q_gI M l0 12 42 (fun v9 => (q_lI M 0 r8 (((217 : Int32) * v9) + l1) (fun v10 => (q_tI M r6 l1 v10 (fun M11 => some (.inl ((l1 + (1 : Int32)), M11)))))))))))))) else some (.inr M))
set_option maxRecDepth 100000 in
set_option maxHeartbeats 4000000 in
theorem bW_X12_undo_26 {K : q_K} {Q : State → Prop} (C : q_C K yX12_undo cX12_undo 2 (Option.some Jvm.ClassFile.FieldType.int) 1 0 0) (l0 : Nat) (l1 : Int32) (M : q_Mem) {stp : (Int32 × q_Mem) ⊕ (q_Mem)} (h : B_X12_undo_26 l0 l1 M = some stp) (kC : ∀ (l1 : Int32) (M : q_Mem), stp = .inl (l1, M) → q_W K 2 Q 0 0 M 26 [some (.ref l0), some (.int l1)] []) (kE0 : ∀ (M : q_Mem), stp = .inr M → q_W K 2 Q 0 0 M 60 [some (.ref l0), none] []) : q_W K 2 Q 0 0 M 26 [some (.ref l0), some (.int l1)] [] := by
  unfold B_X12_undo_26 at h
  refine q_iload_n C dX12_undo_26 rfl ?_
  refine x_sipush (v := (217 : Int32)) C dX12_undo_27 (by decide) ?_
  refine q_icmp_ge (tgt := 60) C dX12_undo_30 (by decide) h (fun _ h => ?_) (fun _ h => ?_)
  · refine q_aload_n C dX12_undo_33 rfl ?_
    refine x_getR (ci := 12) (j := 32) C dX12_undo_34 lkF_X12_61 rfl h (fun c5 h => ?_)
    refine x_nn h (fun r6 h => ?_)
    refine q_iload_n C dX12_undo_37 rfl ?_
    refine q_aload_n C dX12_undo_38 rfl ?_
    refine x_getR (ci := 12) (j := 41) C dX12_undo_39 lkF_X12_77 rfl h (fun c7 h => ?_)
    refine x_nn h (fun r8 h => ?_)
    refine x_sipush (v := (217 : Int32)) C dX12_undo_42 (by decide) ?_
    refine q_aload_n C dX12_undo_45 rfl ?_
    refine x_getI (ci := 12) (j := 42) C dX12_undo_46 lkF_X12_293 rfl h (fun v9 h => ?_)
    refine q_imul C dX12_undo_49 ?_
    refine q_iload_n C dX12_undo_50 rfl ?_
    refine q_iadd C dX12_undo_51 ?_
    refine x_iald C dX12_undo_52 h (fun v10 h => ?_)
    refine x_iast C dX12_undo_53 h (fun M11 h => ?_)
    refine x_iinc (w := (1 : Int32)) (L' := [some (.ref l0), some (.int (l1 + (1 : Int32)))]) C dX12_undo_54 rfl (by decide) (by decide) rfl rfl ?_
    refine q_goto (tgt := 26) C dX12_undo_57 (by decide) ?_
    exact q_msk [true, true] (kC _ _ (Option.some.inj h).symm)
  · exact q_msk [true, false] (kE0 _ (Option.some.inj h).symm)
set_option maxRecDepth 100000 in
set_option maxHeartbeats 4000000 in
theorem lW_X12_undo_26 {K : q_K} {Q : State → Prop} (C : q_C K yX12_undo cX12_undo 2 (Option.some Jvm.ClassFile.FieldType.int) 1 0 0) (l0 : Nat) (n : Nat) : ∀ (l1 : Int32) (M : q_Mem) (e : (q_Mem)), q_lp (fun s => B_X12_undo_26 l0 s.1 s.2) n (l1, M) = some e → (∀ (M : q_Mem), e = M → q_W K 2 Q 0 0 M 60 [some (.ref l0), none] []) → q_W K 2 Q 0 0 M 26 [some (.ref l0), some (.int l1)] [] := by
  induction n with
  | zero => intro l1 M e h; cases h
  | succ n ih =>
    intro l1 M e h kE0
    obtain ⟨stp, e1, e2⟩ := q_bind h
    refine bW_X12_undo_26 C l0 l1 M e1 (fun a0 a1 hs => ?_) (fun b0 hs => ?_)
    · subst hs; exact ih _ _ _ e2 kE0
    · subst hs; exact kE0 _ (Option.some.inj e2).symm
noncomputable def F_X12_undo (l0 : Nat) (M : q_Mem) : Option (Int32 × q_Mem) := (q_pI M l0 12 0 (0 : Int32) (fun M1 => (q_gI M1 l0 12 42 (fun v2 => (if v2 = 0 then some ((-1 : Int32), M1) else (q_gI M1 l0 12 42 (fun v3 => (q_pI M1 l0 12 42 (v3 - (1 : Int32)) (fun M4 => (q_lp (fun s => B_X12_undo_26 l0 s.1 s.2) q_fu ((0 : Int32), M4)).bind (fun e12 => match e12 with | M13 => (q_gI M13 l0 12 42 (fun v14 => some (v14, M13)))))))))))))
set_option maxRecDepth 100000 in
set_option maxHeartbeats 4000000 in
theorem c_X12_undo (l : Launch) (G : q_G) (l0 : Nat) (M : q_Mem) {r : Int32} {M' : q_Mem} (h : F_X12_undo l0 M = some (r, M')) : q_Met l G yX12_undo cX12_undo 2 (Option.some Jvm.ClassFile.FieldType.int) 1 0 0 [.ref l0] M (some (.int r)) M' := by
  unfold F_X12_undo at h
  refine q_enter [some (.ref l0), none] (by decide) (Nat.le_of_ble_eq_true rfl) rfl (fun K C => ?_)
  refine q_aload_n C dX12_undo_0 rfl ?_
  refine x_iconst (v := (0 : Int32)) C dX12_undo_1 (by decide) ?_
  refine x_putI (ci := 12) (j := 0) C dX12_undo_2 lkF_X12_92 (fun r hr => by cases hr; rfl) rfl h (fun M1 h => ?_)
  refine q_aload_n C dX12_undo_5 rfl ?_
  refine x_getI (ci := 12) (j := 42) C dX12_undo_6 lkF_X12_293 rfl h (fun v2 h => ?_)
  refine q_if_ne (tgt := 14) C dX12_undo_9 (by decide) h (fun _ h => ?_) (fun _ h => ?_)
  · refine x_iconst (v := (-1 : Int32)) C dX12_undo_12 (by decide) ?_
    exact q_iret C dX12_undo_13 rfl (by decide) (by decide) (Option.some.inj h)
  · refine q_aload_n C dX12_undo_14 rfl ?_
    refine q_dup C dX12_undo_15 rfl ?_
    refine x_getI (ci := 12) (j := 42) C dX12_undo_16 lkF_X12_293 rfl h (fun v3 h => ?_)
    refine x_iconst (v := (1 : Int32)) C dX12_undo_19 (by decide) ?_
    refine q_isub C dX12_undo_20 ?_
    refine x_putI (ci := 12) (j := 42) C dX12_undo_21 lkF_X12_293 (fun r hr => by cases hr; rfl) rfl h (fun M4 h => ?_)
    refine x_iconst (v := (0 : Int32)) C dX12_undo_24 (by decide) ?_
    refine q_istore_n (L' := [some (.ref l0), some (.int (0 : Int32))]) C dX12_undo_25 (by decide) rfl rfl ?_
    obtain ⟨e12, he, h⟩ := q_bind h
    refine q_msk [true, true] (lW_X12_undo_26 C l0 q_fu _ _ _ he (fun M13 hs => ?_))
    · have hs := hs.symm
      subst hs
      refine q_aload_n C dX12_undo_60 rfl ?_
      refine x_getI (ci := 12) (j := 42) C dX12_undo_61 lkF_X12_293 rfl h (fun v14 h => ?_)
      exact q_iret C dX12_undo_64 rfl (by decide) (by decide) (Option.some.inj h)
noncomputable def F_X12_log (l0 : Nat) (l1 : Int32) (l2 : Int32) (M : q_Mem) : Option (Int32 × q_Mem) := (q_pI M l0 12 0 (0 : Int32) (fun M1 => (q_gR M1 l0 12 32 (fun c2 => q_nn c2 (fun r3 => (q_lI M1 0 r3 (36 : Int32) (fun v4 => ((F_X12_isIn l1.toInt64 (0 : Int64) ((v4 - (1 : Int32)).toInt64) M1).bind (fun u5 => (if u5 = 0 then some ((-1000000 : Int32), M1) else ((F_X12_isIn l2.toInt64 (0 : Int64) (2 : Int64) M1).bind (fun u6 => (if u6 = 0 then some ((-1000000 : Int32), M1) else (q_gR M1 l0 12 32 (fun c7 => q_nn c7 (fun r8 => (q_gR M1 l0 12 32 (fun c9 => q_nn c9 (fun r10 => (q_lI M1 0 r10 (36 : Int32) (fun v11 => (q_lI M1 0 r8 (((37 : Int32) + ((3 : Int32) * ((v11 - (1 : Int32)) - l1))) + l2) (fun v12 => some (v12, M1))))))))))))))))))))))))
set_option maxRecDepth 100000 in
set_option maxHeartbeats 4000000 in
theorem c_X12_log (l : Launch) (G : q_G) (l0 : Nat) (l1 : Int32) (l2 : Int32) (M : q_Mem) {r : Int32} {M' : q_Mem} (h : F_X12_log l0 l1 l2 M = some (r, M')) : q_Met l G yX12_log cX12_log 3 (Option.some Jvm.ClassFile.FieldType.int) 2 0 0 [.ref l0, .int l1, .int l2] M (some (.int r)) M' := by
  unfold F_X12_log at h
  refine q_enter [some (.ref l0), some (.int l1), some (.int l2)] (by decide) (Nat.le_of_ble_eq_true rfl) rfl (fun K C => ?_)
  refine q_aload_n C dX12_log_0 rfl ?_
  refine x_iconst (v := (0 : Int32)) C dX12_log_1 (by decide) ?_
  refine x_putI (ci := 12) (j := 0) C dX12_log_2 lkF_X12_92 (fun r hr => by cases hr; rfl) rfl h (fun M1 h => ?_)
  refine q_iload_n C dX12_log_5 rfl ?_
  refine q_i2l C dX12_log_6 ?_
  refine x_lconst (v := (0 : Int64)) C dX12_log_7 (by decide) ?_
  refine q_aload_n C dX12_log_8 rfl ?_
  refine x_getR (ci := 12) (j := 32) C dX12_log_9 lkF_X12_61 rfl h (fun c2 h => ?_)
  refine x_nn h (fun r3 h => ?_)
  refine x_bipush (v := (36 : Int32)) C dX12_log_12 (by decide) ?_
  refine x_iald C dX12_log_14 h (fun v4 h => ?_)
  refine x_iconst (v := (1 : Int32)) C dX12_log_15 (by decide) ?_
  refine q_isub C dX12_log_16 ?_
  refine q_i2l C dX12_log_17 ?_
  obtain ⟨u5, e1, h⟩ := q_bind h
  refine x_callS0 C dX12_log_18 lkM_X12_213 mS_X12_isIn (c_X12_isIn _ _ _ _ _ _ e1) rfl rfl (Nat.le_of_ble_eq_true rfl) (by decide) (by decide) ?_
  refine q_if_eq (tgt := 62) C dX12_log_21 (by decide) h (fun _ h => ?_) (fun _ h => ?_)
  · refine q_ldcw (v := (-1000000 : Int32)) C dX12_log_62 wd_1674 ?_
    exact q_iret C dX12_log_65 rfl (by decide) (by decide) (Option.some.inj h)
  · refine q_iload_n C dX12_log_24 rfl ?_
    refine q_i2l C dX12_log_25 ?_
    refine x_lconst (v := (0 : Int64)) C dX12_log_26 (by decide) ?_
    refine q_ldc2 (v := (2 : Int64)) C dX12_log_27 wd_1373 ?_
    obtain ⟨u6, e1, h⟩ := q_bind h
    refine x_callS0 C dX12_log_30 lkM_X12_213 mS_X12_isIn (c_X12_isIn _ _ _ _ _ _ e1) rfl rfl (Nat.le_of_ble_eq_true rfl) (by decide) (by decide) ?_
    refine q_if_eq (tgt := 62) C dX12_log_33 (by decide) h (fun _ h => ?_) (fun _ h => ?_)
    · refine q_ldcw (v := (-1000000 : Int32)) C dX12_log_62 wd_1674 ?_
      exact q_iret C dX12_log_65 rfl (by decide) (by decide) (Option.some.inj h)
    · refine q_aload_n C dX12_log_36 rfl ?_
      refine x_getR (ci := 12) (j := 32) C dX12_log_37 lkF_X12_61 rfl h (fun c7 h => ?_)
      refine x_nn h (fun r8 h => ?_)
      refine x_bipush (v := (37 : Int32)) C dX12_log_40 (by decide) ?_
      refine x_iconst (v := (3 : Int32)) C dX12_log_42 (by decide) ?_
      refine q_aload_n C dX12_log_43 rfl ?_
      refine x_getR (ci := 12) (j := 32) C dX12_log_44 lkF_X12_61 rfl h (fun c9 h => ?_)
      refine x_nn h (fun r10 h => ?_)
      refine x_bipush (v := (36 : Int32)) C dX12_log_47 (by decide) ?_
      refine x_iald C dX12_log_49 h (fun v11 h => ?_)
      refine x_iconst (v := (1 : Int32)) C dX12_log_50 (by decide) ?_
      refine q_isub C dX12_log_51 ?_
      refine q_iload_n C dX12_log_52 rfl ?_
      refine q_isub C dX12_log_53 ?_
      refine q_imul C dX12_log_54 ?_
      refine q_iadd C dX12_log_55 ?_
      refine q_iload_n C dX12_log_56 rfl ?_
      refine q_iadd C dX12_log_57 ?_
      refine x_iald C dX12_log_58 h (fun v12 h => ?_)
      refine q_goto (tgt := 65) C dX12_log_59 (by decide) ?_
      exact q_iret C dX12_log_65 rfl (by decide) (by decide) (Option.some.inj h)
noncomputable def F_X12_isWeek (l0 : Nat) (l1 : Int32) (M : q_Mem) : Option (Int32) := (if l1 < 0 then q_rq (0 : Int32) else (q_gI M l0 12 30 (fun v1 => (if l1 < v1 then q_rq (1 : Int32) else q_rq (0 : Int32)))))
set_option maxRecDepth 100000 in
set_option maxHeartbeats 4000000 in
theorem c_X12_isWeek (l : Launch) (G : q_G) (l0 : Nat) (l1 : Int32) (M : q_Mem) {r : Int32} (h : F_X12_isWeek l0 l1 M = some r) : q_Met l G yX12_isWeek cX12_isWeek 2 (Option.some Jvm.ClassFile.FieldType.boolean) 1 0 0 [.ref l0, .int l1] M (some (.int r)) M := by
  unfold F_X12_isWeek at h
  refine q_enter [some (.ref l0), some (.int l1)] (by decide) (Nat.le_of_ble_eq_true rfl) rfl (fun K C => ?_)
  refine q_iload_n C dX12_isWeek_0 rfl ?_
  refine q_if_lt (tgt := 16) C dX12_isWeek_1 (by decide) h (fun _ h => ?_) (fun _ h => ?_)
  · refine x_iconst (v := (0 : Int32)) C dX12_isWeek_16 (by decide) ?_
    exact q_zret (res := (r, M)) C dX12_isWeek_17 rfl (by decide) (by decide) (q_rqE h).1 (congrArg (fun z => (z, M)) (q_rqE h).2)
  · refine q_iload_n C dX12_isWeek_4 rfl ?_
    refine q_aload_n C dX12_isWeek_5 rfl ?_
    refine x_getI (ci := 12) (j := 30) C dX12_isWeek_6 lkF_X12_279 rfl h (fun v1 h => ?_)
    refine q_icmp_ge (tgt := 16) C dX12_isWeek_9 (by decide) h (fun _ h => ?_) (fun _ h => ?_)
    · refine x_iconst (v := (1 : Int32)) C dX12_isWeek_12 (by decide) ?_
      refine q_goto (tgt := 17) C dX12_isWeek_13 (by decide) ?_
      exact q_zret (res := (r, M)) C dX12_isWeek_17 rfl (by decide) (by decide) (q_rqE h).1 (congrArg (fun z => (z, M)) (q_rqE h).2)
    · refine x_iconst (v := (0 : Int32)) C dX12_isWeek_16 (by decide) ?_
      exact q_zret (res := (r, M)) C dX12_isWeek_17 rfl (by decide) (by decide) (q_rqE h).1 (congrArg (fun z => (z, M)) (q_rqE h).2)
noncomputable def F_X12_step (l0 : Nat) (l1 : Int32) (l2 : Int32) (l3 : Int32) (M : q_Mem) : Option (Int32 × q_Mem) := (q_pI M l0 12 0 (0 : Int32) (fun M1 => (q_ob M1 l0 12 ((F_X12_isWeek l0 l1 M1).bind (fun u2 => (if u2 = 0 then some ((-1000000 : Int32), M1) else (q_gR M1 l0 12 25 (fun c3 => q_nn c3 (fun r4 => (q_lI M1 0 r4 l1 (fun v5 => ((F_X12_isIn l2.toInt64 (0 : Int64) ((v5 - (1 : Int32)).toInt64) M1).bind (fun u6 => (if u6 = 0 then some ((-1000000 : Int32), M1) else ((F_X12_isIn l3.toInt64 (0 : Int64) (2 : Int64) M1).bind (fun u7 => (if u7 = 0 then some ((-1000000 : Int32), M1) else (q_gR M1 l0 12 24 (fun c8 => q_nn c8 (fun r9 => (q_lI M1 0 r9 (((3 : Int32) * (((16 : Int32) * l1) + l2)) + l3) (fun v10 => some (v10, M1)))))))))))))))))))))))
set_option maxRecDepth 100000 in
set_option maxHeartbeats 4000000 in
theorem c_X12_step (l : Launch) (G : q_G) (l0 : Nat) (l1 : Int32) (l2 : Int32) (l3 : Int32) (M : q_Mem) {r : Int32} {M' : q_Mem} (h : F_X12_step l0 l1 l2 l3 M = some (r, M')) : q_Met l G yX12_step cX12_step 4 (Option.some Jvm.ClassFile.FieldType.int) 2 0 0 [.ref l0, .int l1, .int l2, .int l3] M (some (.int r)) M' := by
  unfold F_X12_step at h
  refine q_enter [some (.ref l0), some (.int l1), some (.int l2), some (.int l3)] (by decide) (Nat.le_of_ble_eq_true rfl) rfl (fun K C => ?_)
  refine q_aload_n C dX12_step_0 rfl ?_
  refine x_iconst (v := (0 : Int32)) C dX12_step_1 (by decide) ?_
  refine x_putI (ci := 12) (j := 0) C dX12_step_2 lkF_X12_92 (fun r hr => by cases hr; rfl) rfl h (fun M1 h => ?_)
  refine q_aload_n C dX12_step_5 rfl ?_
  refine q_iload_n C dX12_step_6 rfl ?_
  obtain ⟨hk, h⟩ := q_obE h
  obtain ⟨u2, e1, h⟩ := q_bind h
  refine x_callV0 C dX12_step_7 lkM_X12_406 mV_X12_isWeek ⟨_, rfl, rfl⟩ hk (c_X12_isWeek _ _ _ _ _ e1) rfl rfl (Nat.le_of_ble_eq_true rfl) (by decide) (by decide) ?_
  refine q_if_eq (tgt := 61) C dX12_step_10 (by decide) h (fun _ h => ?_) (fun _ h => ?_)
  · refine q_ldcw (v := (-1000000 : Int32)) C dX12_step_61 wd_1674 ?_
    exact q_iret C dX12_step_64 rfl (by decide) (by decide) (Option.some.inj h)
  · refine q_iload_n C dX12_step_13 rfl ?_
    refine q_i2l C dX12_step_14 ?_
    refine x_lconst (v := (0 : Int64)) C dX12_step_15 (by decide) ?_
    refine q_aload_n C dX12_step_16 rfl ?_
    refine x_getR (ci := 12) (j := 25) C dX12_step_17 lkF_X12_58 rfl h (fun c3 h => ?_)
    refine x_nn h (fun r4 h => ?_)
    refine q_iload_n C dX12_step_20 rfl ?_
    refine x_iald C dX12_step_21 h (fun v5 h => ?_)
    refine x_iconst (v := (1 : Int32)) C dX12_step_22 (by decide) ?_
    refine q_isub C dX12_step_23 ?_
    refine q_i2l C dX12_step_24 ?_
    obtain ⟨u6, e1, h⟩ := q_bind h
    refine x_callS0 C dX12_step_25 lkM_X12_213 mS_X12_isIn (c_X12_isIn _ _ _ _ _ _ e1) rfl rfl (Nat.le_of_ble_eq_true rfl) (by decide) (by decide) ?_
    refine q_if_eq (tgt := 61) C dX12_step_28 (by decide) h (fun _ h => ?_) (fun _ h => ?_)
    · refine q_ldcw (v := (-1000000 : Int32)) C dX12_step_61 wd_1674 ?_
      exact q_iret C dX12_step_64 rfl (by decide) (by decide) (Option.some.inj h)
    · refine q_iload_n C dX12_step_31 rfl ?_
      refine q_i2l C dX12_step_32 ?_
      refine x_lconst (v := (0 : Int64)) C dX12_step_33 (by decide) ?_
      refine q_ldc2 (v := (2 : Int64)) C dX12_step_34 wd_1373 ?_
      obtain ⟨u7, e1, h⟩ := q_bind h
      refine x_callS0 C dX12_step_37 lkM_X12_213 mS_X12_isIn (c_X12_isIn _ _ _ _ _ _ e1) rfl rfl (Nat.le_of_ble_eq_true rfl) (by decide) (by decide) ?_
      refine q_if_eq (tgt := 61) C dX12_step_40 (by decide) h (fun _ h => ?_) (fun _ h => ?_)
      · refine q_ldcw (v := (-1000000 : Int32)) C dX12_step_61 wd_1674 ?_
        exact q_iret C dX12_step_64 rfl (by decide) (by decide) (Option.some.inj h)
      · refine q_aload_n C dX12_step_43 rfl ?_
        refine x_getR (ci := 12) (j := 24) C dX12_step_44 lkF_X12_55 rfl h (fun c8 h => ?_)
        refine x_nn h (fun r9 h => ?_)
        refine x_iconst (v := (3 : Int32)) C dX12_step_47 (by decide) ?_
        refine x_bipush (v := (16 : Int32)) C dX12_step_48 (by decide) ?_
        refine q_iload_n C dX12_step_50 rfl ?_
        refine q_imul C dX12_step_51 ?_
        refine q_iload_n C dX12_step_52 rfl ?_
        refine q_iadd C dX12_step_53 ?_
        refine q_imul C dX12_step_54 ?_
        refine q_iload_n C dX12_step_55 rfl ?_
        refine q_iadd C dX12_step_56 ?_
        refine x_iald C dX12_step_57 h (fun v10 h => ?_)
        refine q_goto (tgt := 64) C dX12_step_58 (by decide) ?_
        exact q_iret C dX12_step_64 rfl (by decide) (by decide) (Option.some.inj h)
noncomputable def B_X12_copy_2 (l0 : Nat) (l1 : Nat) (l2 : Int32) (M : q_Mem) : Option ((Int32 × q_Mem) ⊕ (q_Mem)) := (if l2 < (36 : Int32) then (q_lI M 0 l0 l2 (fun v1 => (q_tI M l1 l2 v1 (fun M2 => some (.inl ((l2 + (1 : Int32)), M2)))))) else some (.inr M))
set_option maxRecDepth 100000 in
set_option maxHeartbeats 4000000 in
theorem bW_X12_copy_2 {K : q_K} {Q : State → Prop} (C : q_C K yX12_copy cX12_copy 3 (Option.none : Option Jvm.ClassFile.FieldType) 1 0 0) (l0 : Nat) (l1 : Nat) (l2 : Int32) (M : q_Mem) {stp : (Int32 × q_Mem) ⊕ (q_Mem)} (h : B_X12_copy_2 l0 l1 l2 M = some stp) (kC : ∀ (l2 : Int32) (M : q_Mem), stp = .inl (l2, M) → q_W K 3 Q 0 0 M 2 [some (.ref l0), some (.ref l1), some (.int l2)] []) (kE0 : ∀ (M : q_Mem), stp = .inr M → q_W K 3 Q 0 0 M 20 [none, some (.ref l1), none] []) : q_W K 3 Q 0 0 M 2 [some (.ref l0), some (.ref l1), some (.int l2)] [] := by
  unfold B_X12_copy_2 at h
  refine q_iload_n C dX12_copy_2 rfl ?_
  refine x_bipush (v := (36 : Int32)) C dX12_copy_3 (by decide) ?_
  refine q_icmp_ge (tgt := 20) C dX12_copy_5 (by decide) h (fun _ h => ?_) (fun _ h => ?_)
  · refine q_aload_n C dX12_copy_8 rfl ?_
    refine q_iload_n C dX12_copy_9 rfl ?_
    refine q_aload_n C dX12_copy_10 rfl ?_
    refine q_iload_n C dX12_copy_11 rfl ?_
    refine x_iald C dX12_copy_12 h (fun v1 h => ?_)
    refine x_iast C dX12_copy_13 h (fun M2 h => ?_)
    refine x_iinc (w := (1 : Int32)) (L' := [some (.ref l0), some (.ref l1), some (.int (l2 + (1 : Int32)))]) C dX12_copy_14 rfl (by decide) (by decide) rfl rfl ?_
    refine q_goto (tgt := 2) C dX12_copy_17 (by decide) ?_
    exact q_msk [true, true, true] (kC _ _ (Option.some.inj h).symm)
  · exact q_msk [false, true, false] (kE0 _ (Option.some.inj h).symm)
set_option maxRecDepth 100000 in
set_option maxHeartbeats 4000000 in
theorem lW_X12_copy_2 {K : q_K} {Q : State → Prop} (C : q_C K yX12_copy cX12_copy 3 (Option.none : Option Jvm.ClassFile.FieldType) 1 0 0) (l0 : Nat) (l1 : Nat) (n : Nat) : ∀ (l2 : Int32) (M : q_Mem) (e : (q_Mem)), q_lp (fun s => B_X12_copy_2 l0 l1 s.1 s.2) n (l2, M) = some e → (∀ (M : q_Mem), e = M → q_W K 3 Q 0 0 M 20 [none, some (.ref l1), none] []) → q_W K 3 Q 0 0 M 2 [some (.ref l0), some (.ref l1), some (.int l2)] [] := by
  induction n with
  | zero => intro l2 M e h; cases h
  | succ n ih =>
    intro l2 M e h kE0
    obtain ⟨stp, e1, e2⟩ := q_bind h
    refine bW_X12_copy_2 C l0 l1 l2 M e1 (fun a0 a1 hs => ?_) (fun b0 hs => ?_)
    · subst hs; exact ih _ _ _ e2 kE0
    · subst hs; exact kE0 _ (Option.some.inj e2).symm
noncomputable def F_X12_copy (l0 : Nat) (l1 : Nat) (M : q_Mem) : Option (Unit × q_Mem) := (q_lp (fun s => B_X12_copy_2 l0 l1 s.1 s.2) q_fu ((0 : Int32), M)).bind (fun e3 => match e3 with | M4 => (q_tI M4 l1 (36 : Int32) (0 : Int32) (fun M5 => some ((), M5))))
set_option maxRecDepth 100000 in
set_option maxHeartbeats 4000000 in
theorem c_X12_copy (l : Launch) (G : q_G) (l0 : Nat) (l1 : Nat) (M : q_Mem) {r : Unit} {M' : q_Mem} (h : F_X12_copy l0 l1 M = some (r, M')) : q_Met l G yX12_copy cX12_copy 3 (Option.none : Option Jvm.ClassFile.FieldType) 1 0 0 [.ref l0, .ref l1] M none M' := by
  unfold F_X12_copy at h
  refine q_enter [some (.ref l0), some (.ref l1), none] (by decide) (Nat.le_of_ble_eq_true rfl) rfl (fun K C => ?_)
  refine x_iconst (v := (0 : Int32)) C dX12_copy_0 (by decide) ?_
  refine q_istore_n (L' := [some (.ref l0), some (.ref l1), some (.int (0 : Int32))]) C dX12_copy_1 (by decide) rfl rfl ?_
  obtain ⟨e3, he, h⟩ := q_bind h
  refine q_msk [true, true, true] (lW_X12_copy_2 C l0 l1 q_fu _ _ _ he (fun M4 hs => ?_))
  · have hs := hs.symm
    subst hs
    refine q_aload_n C dX12_copy_20 rfl ?_
    refine x_bipush (v := (36 : Int32)) C dX12_copy_21 (by decide) ?_
    refine x_iconst (v := (0 : Int32)) C dX12_copy_23 (by decide) ?_
    refine x_iast C dX12_copy_24 h (fun M5 h => ?_)
    exact q_vret C dX12_copy_25 rfl (by decide) (by decide) (Option.some.inj h)
noncomputable def F_X12_canStep (l0 : Nat) (l1 : Nat) (l2 : Int32) (M : q_Mem) : Option (Int32) := (q_gR M l0 12 24 (fun c1 => q_nn c1 (fun r2 => (q_lI M 0 r2 l2 (fun v3 => (if v3 = (0 : Int32) then (q_lI M 0 l1 (35 : Int32) (fun v4 => (if v4 < (999 : Int32) then q_rq (1 : Int32) else q_rq (0 : Int32)))) else (if v3 = (1 : Int32) then (q_gR M l0 12 24 (fun c5 => q_nn c5 (fun r6 => (q_lI M 0 r6 (l2 + (1 : Int32)) (fun v7 => (q_ob M l0 12 ((F_X12_canChoose l0 l1 v7 M).bind (fun u8 => q_rq u8)))))))) else (if v3 = (2 : Int32) then ((F_X12_canBeIll l1 M).bind (fun u9 => q_rq u9)) else (if v3 = (3 : Int32) then ((F_X12_canMakeUp l1 M).bind (fun u10 => q_rq u10)) else (q_gR M l0 12 24 (fun c11 => q_nn c11 (fun r12 => (q_lI M 0 r12 (l2 + (1 : Int32)) (fun v13 => (q_gR M l0 12 24 (fun c14 => q_nn c14 (fun r15 => (q_lI M 0 r15 (l2 + (2 : Int32)) (fun v16 => (q_ob M l0 12 ((F_X12_canStay l0 l1 v13 v16 M).bind (fun u17 => q_rq u17))))))))))))))))))))))
set_option maxRecDepth 100000 in
set_option maxHeartbeats 4000000 in
theorem c_X12_canStep (l : Launch) (G : q_G) (l0 : Nat) (l1 : Nat) (l2 : Int32) (M : q_Mem) {r : Int32} (h : F_X12_canStep l0 l1 l2 M = some r) : q_Met l G yX12_canStep cX12_canStep 3 (Option.some Jvm.ClassFile.FieldType.boolean) 3 0 0 [.ref l0, .ref l1, .int l2] M (some (.int r)) M := by
  unfold F_X12_canStep at h
  refine q_enter [some (.ref l0), some (.ref l1), some (.int l2)] (by decide) (Nat.le_of_ble_eq_true rfl) rfl (fun K C => ?_)
  refine q_aload_n C dX12_canStep_0 rfl ?_
  refine x_getR (ci := 12) (j := 24) C dX12_canStep_1 lkF_X12_55 rfl h (fun c1 h => ?_)
  refine x_nn h (fun r2 h => ?_)
  refine q_iload_n C dX12_canStep_4 rfl ?_
  refine x_iald C dX12_canStep_5 h (fun v3 h => ?_)
  by_cases hs6_0 : v3 = (0 : Int32)
  · have h := q_iteT h hs6_0
    refine q_tsIn (tgt := 36) C dX12_canStep_6 hs6_0 (by decide) (by decide) rfl (by decide) ?_
    refine q_aload_n C dX12_canStep_36 rfl ?_
    refine x_bipush (v := (35 : Int32)) C dX12_canStep_37 (by decide) ?_
    refine x_iald C dX12_canStep_39 h (fun v4 h => ?_)
    refine x_sipush (v := (999 : Int32)) C dX12_canStep_40 (by decide) ?_
    refine q_icmp_ge (tgt := 50) C dX12_canStep_43 (by decide) h (fun _ h => ?_) (fun _ h => ?_)
    · refine x_iconst (v := (1 : Int32)) C dX12_canStep_46 (by decide) ?_
      refine q_goto (tgt := 51) C dX12_canStep_47 (by decide) ?_
      exact q_zret (res := (r, M)) C dX12_canStep_51 rfl (by decide) (by decide) (q_rqE h).1 (congrArg (fun z => (z, M)) (q_rqE h).2)
    · refine x_iconst (v := (0 : Int32)) C dX12_canStep_50 (by decide) ?_
      exact q_zret (res := (r, M)) C dX12_canStep_51 rfl (by decide) (by decide) (q_rqE h).1 (congrArg (fun z => (z, M)) (q_rqE h).2)
  have h := q_iteF h hs6_0
  by_cases hs6_1 : v3 = (1 : Int32)
  · have h := q_iteT h hs6_1
    refine q_tsIn (tgt := 52) C dX12_canStep_6 hs6_1 (by decide) (by decide) rfl (by decide) ?_
    refine q_aload_n C dX12_canStep_52 rfl ?_
    refine q_aload_n C dX12_canStep_53 rfl ?_
    refine q_aload_n C dX12_canStep_54 rfl ?_
    refine x_getR (ci := 12) (j := 24) C dX12_canStep_55 lkF_X12_55 rfl h (fun c5 h => ?_)
    refine x_nn h (fun r6 h => ?_)
    refine q_iload_n C dX12_canStep_58 rfl ?_
    refine x_iconst (v := (1 : Int32)) C dX12_canStep_59 (by decide) ?_
    refine q_iadd C dX12_canStep_60 ?_
    refine x_iald C dX12_canStep_61 h (fun v7 h => ?_)
    obtain ⟨hk, h⟩ := q_obE h
    obtain ⟨u8, e1, h⟩ := q_bind h
    refine x_callV0 C dX12_canStep_62 lkM_X12_373 mV_X12_canChoose ⟨_, rfl, rfl⟩ hk (c_X12_canChoose _ _ _ _ _ _ e1) rfl rfl (Nat.le_of_ble_eq_true rfl) (by decide) (by decide) ?_
    exact q_zret (res := (r, M)) C dX12_canStep_65 rfl (by decide) (by decide) (q_rqE h).1 (congrArg (fun z => (z, M)) (q_rqE h).2)
  have h := q_iteF h hs6_1
  by_cases hs6_2 : v3 = (2 : Int32)
  · have h := q_iteT h hs6_2
    refine q_tsIn (tgt := 66) C dX12_canStep_6 hs6_2 (by decide) (by decide) rfl (by decide) ?_
    refine q_aload_n C dX12_canStep_66 rfl ?_
    obtain ⟨u9, e1, h⟩ := q_bind h
    refine x_callS0 C dX12_canStep_67 lkM_X12_376 mS_X12_canBeIll (c_X12_canBeIll _ _ _ _ e1) rfl rfl (Nat.le_of_ble_eq_true rfl) (by decide) (by decide) ?_
    exact q_zret (res := (r, M)) C dX12_canStep_70 rfl (by decide) (by decide) (q_rqE h).1 (congrArg (fun z => (z, M)) (q_rqE h).2)
  have h := q_iteF h hs6_2
  by_cases hs6_3 : v3 = (3 : Int32)
  · have h := q_iteT h hs6_3
    refine q_tsIn (tgt := 71) C dX12_canStep_6 hs6_3 (by decide) (by decide) rfl (by decide) ?_
    refine q_aload_n C dX12_canStep_71 rfl ?_
    obtain ⟨u10, e1, h⟩ := q_bind h
    refine x_callS0 C dX12_canStep_72 lkM_X12_380 mS_X12_canMakeUp (c_X12_canMakeUp _ _ _ _ e1) rfl rfl (Nat.le_of_ble_eq_true rfl) (by decide) (by decide) ?_
    exact q_zret (res := (r, M)) C dX12_canStep_75 rfl (by decide) (by decide) (q_rqE h).1 (congrArg (fun z => (z, M)) (q_rqE h).2)
  have h := q_iteF h hs6_3
  have ho6 : (v3 : Int32).toInt < 0 ∨ 3 < (v3 : Int32).toInt := by
    have z0 := lv_neT (a := 0) hs6_0 (by decide)
    have z1 := lv_neT (a := 1) hs6_1 (by decide)
    have z2 := lv_neT (a := 2) hs6_2 (by decide)
    have z3 := lv_neT (a := 3) hs6_3 (by decide)
    omega
  refine q_tsOut (tgt := 76) C dX12_canStep_6 ho6 (by decide) ?_
  refine q_aload_n C dX12_canStep_76 rfl ?_
  refine q_aload_n C dX12_canStep_77 rfl ?_
  refine q_aload_n C dX12_canStep_78 rfl ?_
  refine x_getR (ci := 12) (j := 24) C dX12_canStep_79 lkF_X12_55 rfl h (fun c11 h => ?_)
  refine x_nn h (fun r12 h => ?_)
  refine q_iload_n C dX12_canStep_82 rfl ?_
  refine x_iconst (v := (1 : Int32)) C dX12_canStep_83 (by decide) ?_
  refine q_iadd C dX12_canStep_84 ?_
  refine x_iald C dX12_canStep_85 h (fun v13 h => ?_)
  refine q_aload_n C dX12_canStep_86 rfl ?_
  refine x_getR (ci := 12) (j := 24) C dX12_canStep_87 lkF_X12_55 rfl h (fun c14 h => ?_)
  refine x_nn h (fun r15 h => ?_)
  refine q_iload_n C dX12_canStep_90 rfl ?_
  refine x_iconst (v := (2 : Int32)) C dX12_canStep_91 (by decide) ?_
  refine q_iadd C dX12_canStep_92 ?_
  refine x_iald C dX12_canStep_93 h (fun v16 h => ?_)
  obtain ⟨hk, h⟩ := q_obE h
  obtain ⟨u17, e1, h⟩ := q_bind h
  refine x_callV0 C dX12_canStep_94 lkM_X12_386 mV_X12_canStay ⟨_, rfl, rfl⟩ hk (c_X12_canStay _ _ _ _ _ _ _ e1) rfl rfl (Nat.le_of_ble_eq_true rfl) (by decide) (by decide) ?_
  exact q_zret (res := (r, M)) C dX12_canStep_97 rfl (by decide) (by decide) (q_rqE h).1 (congrArg (fun z => (z, M)) (q_rqE h).2)
noncomputable def F_X12_goStep (l0 : Nat) (l1 : Nat) (l2 : Int32) (M : q_Mem) : Option (Unit × q_Mem) := (q_gR M l0 12 24 (fun c1 => q_nn c1 (fun r2 => (q_lI M 0 r2 l2 (fun v3 => (if v3 = (0 : Int32) then (q_ob M l0 12 ((F_X12_goDay l0 l1 M).bind (fun x => match x with | (u4, M5) => some ((), M5)))) else (if v3 = (1 : Int32) then (q_gR M l0 12 24 (fun c6 => q_nn c6 (fun r7 => (q_lI M 0 r7 (l2 + (1 : Int32)) (fun v8 => (q_tI M l1 (34 : Int32) ((1 : Int32) + v8) (fun M9 => some ((), M9)))))))) else (if v3 = (2 : Int32) then (q_lI M 0 l1 (32 : Int32) (fun v10 => (q_tI M l1 (32 : Int32) (v10 + (1 : Int32)) (fun M11 => some ((), M11))))) else (if v3 = (3 : Int32) then ((F_X12_makesUp l1 M).bind (fun x => match x with | (_, M13) => some ((), M13))) else (q_gR M l0 12 24 (fun c14 => q_nn c14 (fun r15 => (q_lI M 0 r15 (l2 + (1 : Int32)) (fun v16 => (q_lI M 0 l1 (((4 : Int32) * v16) + (0 : Int32)) (fun v17 => (q_gR M l0 12 24 (fun c18 => q_nn c18 (fun r19 => (q_lI M 0 r19 (l2 + (2 : Int32)) (fun v20 => (q_tI M l1 (((4 : Int32) * v16) + (0 : Int32)) (v17 + v20) (fun M21 => some ((), M21))))))))))))))))))))))))
set_option maxRecDepth 100000 in
set_option maxHeartbeats 4000000 in
theorem c_X12_goStep (l : Launch) (G : q_G) (l0 : Nat) (l1 : Nat) (l2 : Int32) (M : q_Mem) {r : Unit} {M' : q_Mem} (h : F_X12_goStep l0 l1 l2 M = some (r, M')) : q_Met l G yX12_goStep cX12_goStep 4 (Option.none : Option Jvm.ClassFile.FieldType) 133 0 0 [.ref l0, .ref l1, .int l2] M none M' := by
  unfold F_X12_goStep at h
  refine q_enter [some (.ref l0), some (.ref l1), some (.int l2), none] (by decide) (Nat.le_of_ble_eq_true rfl) rfl (fun K C => ?_)
  refine q_aload_n C dX12_goStep_0 rfl ?_
  refine x_getR (ci := 12) (j := 24) C dX12_goStep_1 lkF_X12_55 rfl h (fun c1 h => ?_)
  refine x_nn h (fun r2 h => ?_)
  refine q_iload_n C dX12_goStep_4 rfl ?_
  refine x_iald C dX12_goStep_5 h (fun v3 h => ?_)
  by_cases hs6_0 : v3 = (0 : Int32)
  · have h := q_iteT h hs6_0
    refine q_tsIn (tgt := 36) C dX12_goStep_6 hs6_0 (by decide) (by decide) rfl (by decide) ?_
    refine q_aload_n C dX12_goStep_36 rfl ?_
    refine q_aload_n C dX12_goStep_37 rfl ?_
    obtain ⟨hk, h⟩ := q_obE h
    obtain ⟨⟨u4, M5⟩, e1, h⟩ := q_bind h
    refine x_callV0 C dX12_goStep_38 lkM_X12_370 mV_X12_goDay ⟨_, rfl, rfl⟩ hk (c_X12_goDay _ _ _ _ _ e1) rfl rfl (Nat.le_of_ble_eq_true rfl) (by decide) (by decide) ?_
    refine q_istore_n (L' := [some (.ref l0), some (.ref l1), some (.int l2), some (.int u4)]) C dX12_goStep_41 (by decide) rfl rfl ?_
    refine q_goto (tgt := 105) C dX12_goStep_42 (by decide) ?_
    exact q_vret C dX12_goStep_105 rfl (by decide) (by decide) (Option.some.inj h)
  have h := q_iteF h hs6_0
  by_cases hs6_1 : v3 = (1 : Int32)
  · have h := q_iteT h hs6_1
    refine q_tsIn (tgt := 45) C dX12_goStep_6 hs6_1 (by decide) (by decide) rfl (by decide) ?_
    refine q_aload_n C dX12_goStep_45 rfl ?_
    refine x_bipush (v := (34 : Int32)) C dX12_goStep_46 (by decide) ?_
    refine x_iconst (v := (1 : Int32)) C dX12_goStep_48 (by decide) ?_
    refine q_aload_n C dX12_goStep_49 rfl ?_
    refine x_getR (ci := 12) (j := 24) C dX12_goStep_50 lkF_X12_55 rfl h (fun c6 h => ?_)
    refine x_nn h (fun r7 h => ?_)
    refine q_iload_n C dX12_goStep_53 rfl ?_
    refine x_iconst (v := (1 : Int32)) C dX12_goStep_54 (by decide) ?_
    refine q_iadd C dX12_goStep_55 ?_
    refine x_iald C dX12_goStep_56 h (fun v8 h => ?_)
    refine q_iadd C dX12_goStep_57 ?_
    refine x_iast C dX12_goStep_58 h (fun M9 h => ?_)
    refine q_goto (tgt := 105) C dX12_goStep_59 (by decide) ?_
    exact q_vret C dX12_goStep_105 rfl (by decide) (by decide) (Option.some.inj h)
  have h := q_iteF h hs6_1
  by_cases hs6_2 : v3 = (2 : Int32)
  · have h := q_iteT h hs6_2
    refine q_tsIn (tgt := 62) C dX12_goStep_6 hs6_2 (by decide) (by decide) rfl (by decide) ?_
    refine q_aload_n C dX12_goStep_62 rfl ?_
    refine x_bipush (v := (32 : Int32)) C dX12_goStep_63 (by decide) ?_
    refine q_dup2 C dX12_goStep_65 rfl rfl ?_
    refine x_iald C dX12_goStep_66 h (fun v10 h => ?_)
    refine x_iconst (v := (1 : Int32)) C dX12_goStep_67 (by decide) ?_
    refine q_iadd C dX12_goStep_68 ?_
    refine x_iast C dX12_goStep_69 h (fun M11 h => ?_)
    refine q_goto (tgt := 105) C dX12_goStep_70 (by decide) ?_
    exact q_vret C dX12_goStep_105 rfl (by decide) (by decide) (Option.some.inj h)
  have h := q_iteF h hs6_2
  by_cases hs6_3 : v3 = (3 : Int32)
  · have h := q_iteT h hs6_3
    refine q_tsIn (tgt := 73) C dX12_goStep_6 hs6_3 (by decide) (by decide) rfl (by decide) ?_
    refine q_aload_n C dX12_goStep_73 rfl ?_
    obtain ⟨⟨_, M13⟩, e1, h⟩ := q_bind h
    refine x_callSv0 C dX12_goStep_74 lkM_X12_383 mS_X12_makesUp (c_X12_makesUp _ _ _ _ e1) rfl rfl (Nat.le_of_ble_eq_true rfl) (by decide) (by decide) ?_
    refine q_goto (tgt := 105) C dX12_goStep_77 (by decide) ?_
    exact q_vret C dX12_goStep_105 rfl (by decide) (by decide) (Option.some.inj h)
  have h := q_iteF h hs6_3
  have ho6 : (v3 : Int32).toInt < 0 ∨ 3 < (v3 : Int32).toInt := by
    have z0 := lv_neT (a := 0) hs6_0 (by decide)
    have z1 := lv_neT (a := 1) hs6_1 (by decide)
    have z2 := lv_neT (a := 2) hs6_2 (by decide)
    have z3 := lv_neT (a := 3) hs6_3 (by decide)
    omega
  refine q_tsOut (tgt := 80) C dX12_goStep_6 ho6 (by decide) ?_
  refine q_aload_n C dX12_goStep_80 rfl ?_
  refine x_iconst (v := (4 : Int32)) C dX12_goStep_81 (by decide) ?_
  refine q_aload_n C dX12_goStep_82 rfl ?_
  refine x_getR (ci := 12) (j := 24) C dX12_goStep_83 lkF_X12_55 rfl h (fun c14 h => ?_)
  refine x_nn h (fun r15 h => ?_)
  refine q_iload_n C dX12_goStep_86 rfl ?_
  refine x_iconst (v := (1 : Int32)) C dX12_goStep_87 (by decide) ?_
  refine q_iadd C dX12_goStep_88 ?_
  refine x_iald C dX12_goStep_89 h (fun v16 h => ?_)
  refine q_imul C dX12_goStep_90 ?_
  refine x_iconst (v := (0 : Int32)) C dX12_goStep_91 (by decide) ?_
  refine q_iadd C dX12_goStep_92 ?_
  refine q_dup2 C dX12_goStep_93 rfl rfl ?_
  refine x_iald C dX12_goStep_94 h (fun v17 h => ?_)
  refine q_aload_n C dX12_goStep_95 rfl ?_
  refine x_getR (ci := 12) (j := 24) C dX12_goStep_96 lkF_X12_55 rfl h (fun c18 h => ?_)
  refine x_nn h (fun r19 h => ?_)
  refine q_iload_n C dX12_goStep_99 rfl ?_
  refine x_iconst (v := (2 : Int32)) C dX12_goStep_100 (by decide) ?_
  refine q_iadd C dX12_goStep_101 ?_
  refine x_iald C dX12_goStep_102 h (fun v20 h => ?_)
  refine q_iadd C dX12_goStep_103 ?_
  refine x_iast C dX12_goStep_104 h (fun M21 h => ?_)
  exact q_vret C dX12_goStep_105 rfl (by decide) (by decide) (Option.some.inj h)
noncomputable def B_X12_run_47 (l0 : Nat) (l1 : Int32) (l2 : Int32) (l3 : Int32) (M : q_Mem) : Option ((Int32 × q_Mem) ⊕ (Int32 × q_Mem)) := (q_gR M l0 12 25 (fun c11 => q_nn c11 (fun r12 => (q_lI M 0 r12 l1 (fun v13 => (if l3 < v13 then (q_gR M l0 12 33 (fun c14 => q_nn c14 (fun r15 => (q_ob M l0 12 ((F_X12_canStep l0 r15 ((3 : Int32) * (((16 : Int32) * l1) + l3)) M).bind (fun u16 => (if u16 = 0 then some (.inr (l3, M)) else (q_gR M l0 12 33 (fun c17 => q_nn c17 (fun r18 => (q_ob M l0 12 ((F_X12_goStep l0 r18 ((3 : Int32) * (((16 : Int32) * l1) + l3)) M).bind (fun x => match x with | (_, M20) => some (.inl ((l3 + (1 : Int32)), M20))))))))))))))) else some (.inr (l3, M))))))))
set_option maxRecDepth 100000 in
set_option maxHeartbeats 4000000 in
theorem bW_X12_run_47 {K : q_K} {Q : State → Prop} (C : q_C K yX12_run cX12_run 4 (Option.some Jvm.ClassFile.FieldType.int) 134 0 0) (l0 : Nat) (l1 : Int32) (l2 : Int32) (l3 : Int32) (M : q_Mem) {stp : (Int32 × q_Mem) ⊕ (Int32 × q_Mem)} (h : B_X12_run_47 l0 l1 l2 l3 M = some stp) (kC : ∀ (l3 : Int32) (M : q_Mem), stp = .inl (l3, M) → q_W K 4 Q 0 0 M 47 [some (.ref l0), some (.int l1), some (.int l2), some (.int l3)] []) (kE0 : ∀ (l3 : Int32) (M : q_Mem), stp = .inr (l3, M) → q_W K 4 Q 0 0 M 98 [some (.ref l0), some (.int l1), some (.int l2), some (.int l3)] []) : q_W K 4 Q 0 0 M 47 [some (.ref l0), some (.int l1), some (.int l2), some (.int l3)] [] := by
  unfold B_X12_run_47 at h
  refine q_iload_n C dX12_run_47 rfl ?_
  refine q_aload_n C dX12_run_48 rfl ?_
  refine x_getR (ci := 12) (j := 25) C dX12_run_49 lkF_X12_58 rfl h (fun c11 h => ?_)
  refine x_nn h (fun r12 h => ?_)
  refine q_iload_n C dX12_run_52 rfl ?_
  refine x_iald C dX12_run_53 h (fun v13 h => ?_)
  refine q_icmp_ge (tgt := 98) C dX12_run_54 (by decide) h (fun _ h => ?_) (fun _ h => ?_)
  · refine q_aload_n C dX12_run_57 rfl ?_
    refine q_aload_n C dX12_run_58 rfl ?_
    refine x_getR (ci := 12) (j := 33) C dX12_run_59 lkF_X12_64 rfl h (fun c14 h => ?_)
    refine x_nn h (fun r15 h => ?_)
    refine x_iconst (v := (3 : Int32)) C dX12_run_62 (by decide) ?_
    refine x_bipush (v := (16 : Int32)) C dX12_run_63 (by decide) ?_
    refine q_iload_n C dX12_run_65 rfl ?_
    refine q_imul C dX12_run_66 ?_
    refine q_iload_n C dX12_run_67 rfl ?_
    refine q_iadd C dX12_run_68 ?_
    refine q_imul C dX12_run_69 ?_
    obtain ⟨hk, h⟩ := q_obE h
    obtain ⟨u16, e1, h⟩ := q_bind h
    refine x_callV0 C dX12_run_70 lkM_X12_413 mV_X12_canStep ⟨_, rfl, rfl⟩ hk (c_X12_canStep _ _ _ _ _ _ e1) rfl rfl (Nat.le_of_ble_eq_true rfl) (by decide) (by decide) ?_
    refine q_if_eq (tgt := 98) C dX12_run_73 (by decide) h (fun _ h => ?_) (fun _ h => ?_)
    · exact q_msk [true, true, true, true] (kE0 _ _ (Option.some.inj h).symm)
    · refine q_aload_n C dX12_run_76 rfl ?_
      refine q_aload_n C dX12_run_77 rfl ?_
      refine x_getR (ci := 12) (j := 33) C dX12_run_78 lkF_X12_64 rfl h (fun c17 h => ?_)
      refine x_nn h (fun r18 h => ?_)
      refine x_iconst (v := (3 : Int32)) C dX12_run_81 (by decide) ?_
      refine x_bipush (v := (16 : Int32)) C dX12_run_82 (by decide) ?_
      refine q_iload_n C dX12_run_84 rfl ?_
      refine q_imul C dX12_run_85 ?_
      refine q_iload_n C dX12_run_86 rfl ?_
      refine q_iadd C dX12_run_87 ?_
      refine q_imul C dX12_run_88 ?_
      obtain ⟨hk, h⟩ := q_obE h
      obtain ⟨⟨_, M20⟩, e1, h⟩ := q_bind h
      refine x_callVv0 C dX12_run_89 lkM_X12_416 mV_X12_goStep ⟨_, rfl, rfl⟩ hk (c_X12_goStep _ _ _ _ _ _ e1) rfl rfl (Nat.le_of_ble_eq_true rfl) (by decide) (by decide) ?_
      refine x_iinc (w := (1 : Int32)) (L' := [some (.ref l0), some (.int l1), some (.int l2), some (.int (l3 + (1 : Int32)))]) C dX12_run_92 rfl (by decide) (by decide) rfl rfl ?_
      refine q_goto (tgt := 47) C dX12_run_95 (by decide) ?_
      exact q_msk [true, true, true, true] (kC _ _ (Option.some.inj h).symm)
  · exact q_msk [true, true, true, true] (kE0 _ _ (Option.some.inj h).symm)
set_option maxRecDepth 100000 in
set_option maxHeartbeats 4000000 in
theorem lW_X12_run_47 {K : q_K} {Q : State → Prop} (C : q_C K yX12_run cX12_run 4 (Option.some Jvm.ClassFile.FieldType.int) 134 0 0) (l0 : Nat) (l1 : Int32) (l2 : Int32) (n : Nat) : ∀ (l3 : Int32) (M : q_Mem) (e : (Int32 × q_Mem)), q_lp (fun s => B_X12_run_47 l0 l1 l2 s.1 s.2) n (l3, M) = some e → (∀ (l3 : Int32) (M : q_Mem), e = (l3, M) → q_W K 4 Q 0 0 M 98 [some (.ref l0), some (.int l1), some (.int l2), some (.int l3)] []) → q_W K 4 Q 0 0 M 47 [some (.ref l0), some (.int l1), some (.int l2), some (.int l3)] [] := by
  induction n with
  | zero => intro l3 M e h; cases h
  | succ n ih =>
    intro l3 M e h kE0
    obtain ⟨stp, e1, e2⟩ := q_bind h
    refine bW_X12_run_47 C l0 l1 l2 l3 M e1 (fun a0 a1 hs => ?_) (fun b0 b1 hs => ?_)
    · subst hs; exact ih _ _ _ e2 kE0
    · subst hs; exact kE0 _ _ (Option.some.inj e2).symm
noncomputable def F_X12_run (l0 : Nat) (l1 : Int32) (l2 : Int32) (M : q_Mem) : Option (Int32 × q_Mem) := (q_pI M l0 12 0 (0 : Int32) (fun M1 => (q_ob M1 l0 12 ((F_X12_isWeek l0 l1 M1).bind (fun u2 => (if u2 = 0 then some ((-1000000 : Int32), M1) else (q_gI M1 l0 12 27 (fun v3 => (if v3 = 0 then some ((-1000000 : Int32), M1) else ((F_X12_isIn l2.toInt64 (0 : Int64) (1 : Int64) M1).bind (fun u4 => (if u4 = 0 then some ((-1000000 : Int32), M1) else (q_gR M1 l0 12 32 (fun c5 => q_nn c5 (fun r6 => (q_gR M1 l0 12 33 (fun c7 => q_nn c7 (fun r8 => ((F_X12_copy r6 r8 M1).bind (fun x => match x with | (_, M10) => (q_lp (fun s => B_X12_run_47 l0 l1 l2 s.1 s.2) q_fu ((0 : Int32), M10)).bind (fun e21 => match e21 with | (w22, M23) => (if l2 = (1 : Int32) then (q_gR M23 l0 12 33 (fun c24 => q_nn c24 (fun r25 => (q_ob M23 l0 12 ((F_X12_joys l0 r25 M23).bind (fun u26 => (q_gR M23 l0 12 32 (fun c27 => q_nn c27 (fun r28 => (q_ob M23 l0 12 ((F_X12_joys l0 r28 M23).bind (fun u29 => some ((u26 - u29), M23))))))))))))) else (q_gR M23 l0 12 25 (fun c30 => q_nn c30 (fun r31 => (q_lI M23 0 r31 l1 (fun v32 => (if w22 = v32 then some ((-1 : Int32), M23) else some (w22, M23)))))))))))))))))))))))))))))
set_option maxRecDepth 100000 in
set_option maxHeartbeats 4000000 in
theorem c_X12_run (l : Launch) (G : q_G) (l0 : Nat) (l1 : Int32) (l2 : Int32) (M : q_Mem) {r : Int32} {M' : q_Mem} (h : F_X12_run l0 l1 l2 M = some (r, M')) : q_Met l G yX12_run cX12_run 4 (Option.some Jvm.ClassFile.FieldType.int) 134 0 0 [.ref l0, .int l1, .int l2] M (some (.int r)) M' := by
  unfold F_X12_run at h
  refine q_enter [some (.ref l0), some (.int l1), some (.int l2), none] (by decide) (Nat.le_of_ble_eq_true rfl) rfl (fun K C => ?_)
  refine q_aload_n C dX12_run_0 rfl ?_
  refine x_iconst (v := (0 : Int32)) C dX12_run_1 (by decide) ?_
  refine x_putI (ci := 12) (j := 0) C dX12_run_2 lkF_X12_92 (fun r hr => by cases hr; rfl) rfl h (fun M1 h => ?_)
  refine q_aload_n C dX12_run_5 rfl ?_
  refine q_iload_n C dX12_run_6 rfl ?_
  obtain ⟨hk, h⟩ := q_obE h
  obtain ⟨u2, e1, h⟩ := q_bind h
  refine x_callV0 C dX12_run_7 lkM_X12_406 mV_X12_isWeek ⟨_, rfl, rfl⟩ hk (c_X12_isWeek _ _ _ _ _ e1) rfl rfl (Nat.le_of_ble_eq_true rfl) (by decide) (by decide) ?_
  refine q_if_eq (tgt := 30) C dX12_run_10 (by decide) h (fun _ h => ?_) (fun _ h => ?_)
  · refine q_ldcw (v := (-1000000 : Int32)) C dX12_run_30 wd_1674 ?_
    exact q_iret C dX12_run_33 rfl (by decide) (by decide) (Option.some.inj h)
  · refine q_aload_n C dX12_run_13 rfl ?_
    refine x_getI (ci := 12) (j := 27) C dX12_run_14 lkF_X12_287 rfl h (fun v3 h => ?_)
    refine q_if_eq (tgt := 30) C dX12_run_17 (by decide) h (fun _ h => ?_) (fun _ h => ?_)
    · refine q_ldcw (v := (-1000000 : Int32)) C dX12_run_30 wd_1674 ?_
      exact q_iret C dX12_run_33 rfl (by decide) (by decide) (Option.some.inj h)
    · refine q_iload_n C dX12_run_20 rfl ?_
      refine q_i2l C dX12_run_21 ?_
      refine x_lconst (v := (0 : Int64)) C dX12_run_22 (by decide) ?_
      refine x_lconst (v := (1 : Int64)) C dX12_run_23 (by decide) ?_
      obtain ⟨u4, e1, h⟩ := q_bind h
      refine x_callS0 C dX12_run_24 lkM_X12_213 mS_X12_isIn (c_X12_isIn _ _ _ _ _ _ e1) rfl rfl (Nat.le_of_ble_eq_true rfl) (by decide) (by decide) ?_
      refine q_if_ne (tgt := 34) C dX12_run_27 (by decide) h (fun _ h => ?_) (fun _ h => ?_)
      · refine q_ldcw (v := (-1000000 : Int32)) C dX12_run_30 wd_1674 ?_
        exact q_iret C dX12_run_33 rfl (by decide) (by decide) (Option.some.inj h)
      · refine q_aload_n C dX12_run_34 rfl ?_
        refine x_getR (ci := 12) (j := 32) C dX12_run_35 lkF_X12_61 rfl h (fun c5 h => ?_)
        refine x_nn h (fun r6 h => ?_)
        refine q_aload_n C dX12_run_38 rfl ?_
        refine x_getR (ci := 12) (j := 33) C dX12_run_39 lkF_X12_64 rfl h (fun c7 h => ?_)
        refine x_nn h (fun r8 h => ?_)
        obtain ⟨⟨_, M10⟩, e1, h⟩ := q_bind h
        refine x_callSv0 C dX12_run_42 lkM_X12_409 mS_X12_copy (c_X12_copy _ _ _ _ _ e1) rfl rfl (Nat.le_of_ble_eq_true rfl) (by decide) (by decide) ?_
        refine x_iconst (v := (0 : Int32)) C dX12_run_45 (by decide) ?_
        refine q_istore_n (L' := [some (.ref l0), some (.int l1), some (.int l2), some (.int (0 : Int32))]) C dX12_run_46 (by decide) rfl rfl ?_
        obtain ⟨e21, he, h⟩ := q_bind h
        refine q_msk [true, true, true, true] (lW_X12_run_47 C l0 l1 l2 q_fu _ _ _ he (fun w22 M23 hs => ?_))
        · have hs := hs.symm
          subst hs
          refine q_iload_n C dX12_run_98 rfl ?_
          refine x_iconst (v := (1 : Int32)) C dX12_run_99 (by decide) ?_
          refine q_icmp_ne (tgt := 121) C dX12_run_100 (by decide) h (fun _ h => ?_) (fun _ h => ?_)
          · refine q_aload_n C dX12_run_103 rfl ?_
            refine q_aload_n C dX12_run_104 rfl ?_
            refine x_getR (ci := 12) (j := 33) C dX12_run_105 lkF_X12_64 rfl h (fun c24 h => ?_)
            refine x_nn h (fun r25 h => ?_)
            obtain ⟨hk, h⟩ := q_obE h
            obtain ⟨u26, e1, h⟩ := q_bind h
            refine x_callV0 C dX12_run_108 lkM_X12_354 mV_X12_joys ⟨_, rfl, rfl⟩ hk (c_X12_joys _ _ _ _ _ e1) rfl rfl (Nat.le_of_ble_eq_true rfl) (by decide) (by decide) ?_
            refine q_aload_n C dX12_run_111 rfl ?_
            refine q_aload_n C dX12_run_112 rfl ?_
            refine x_getR (ci := 12) (j := 32) C dX12_run_113 lkF_X12_61 rfl h (fun c27 h => ?_)
            refine x_nn h (fun r28 h => ?_)
            obtain ⟨hk, h⟩ := q_obE h
            obtain ⟨u29, e1, h⟩ := q_bind h
            refine x_callV0 C dX12_run_116 lkM_X12_354 mV_X12_joys ⟨_, rfl, rfl⟩ hk (c_X12_joys _ _ _ _ _ e1) rfl rfl (Nat.le_of_ble_eq_true rfl) (by decide) (by decide) ?_
            refine q_isub C dX12_run_119 ?_
            exact q_iret C dX12_run_120 rfl (by decide) (by decide) (Option.some.inj h)
          · refine q_iload_n C dX12_run_121 rfl ?_
            refine q_aload_n C dX12_run_122 rfl ?_
            refine x_getR (ci := 12) (j := 25) C dX12_run_123 lkF_X12_58 rfl h (fun c30 h => ?_)
            refine x_nn h (fun r31 h => ?_)
            refine q_iload_n C dX12_run_126 rfl ?_
            refine x_iald C dX12_run_127 h (fun v32 h => ?_)
            refine q_icmp_ne (tgt := 135) C dX12_run_128 (by decide) h (fun _ h => ?_) (fun _ h => ?_)
            · refine x_iconst (v := (-1 : Int32)) C dX12_run_131 (by decide) ?_
              refine q_goto (tgt := 136) C dX12_run_132 (by decide) ?_
              exact q_iret C dX12_run_136 rfl (by decide) (by decide) (Option.some.inj h)
            · refine q_iload_n C dX12_run_135 rfl ?_
              exact q_iret C dX12_run_136 rfl (by decide) (by decide) (Option.some.inj h)
