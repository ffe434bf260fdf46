noncomputable def F_X12_rule (l0 : Nat) (l1 : Int32) (M : q_Mem) : Option (Int32 × q_Mem) := (q_pI M l0 12 0 (0 : Int32) (fun M1 => (q_gI M1 l0 12 27 (fun v2 => (if v2 = 0 then some ((-1 : Int32), M1) else ((F_X12_isIn l1.toInt64 (0 : Int64) (2 : Int64) M1).bind (fun u3 => (if u3 = 0 then some ((-1 : Int32), M1) else (if l1 = 0 then (q_gR M1 l0 12 32 (fun c4 => q_nn c4 (fun r5 => (q_lI M1 0 r5 (32 : Int32) (fun v6 => some (v6, M1)))))) else (if l1 = (1 : Int32) then (q_gR M1 l0 12 18 (fun c7 => q_nn c7 (fun r8 => (q_lI M1 0 r8 (1 : Int32) (fun v9 => some (v9, M1)))))) else (q_gR M1 l0 12 32 (fun c10 => q_nn c10 (fun r11 => (q_lI M1 0 r11 (33 : Int32) (fun v12 => some (v12, M1))))))))))))))))
set_option maxRecDepth 100000 in
set_option maxHeartbeats 4000000 in
theorem c_X12_rule (l : Launch) (G : q_G) (l0 : Nat) (l1 : Int32) (M : q_Mem) {r : Int32} {M' : q_Mem} (h : F_X12_rule l0 l1 M = some (r, M')) : q_Met l G yX12_rule cX12_rule 2 (Option.some Jvm.ClassFile.FieldType.int) 2 0 0 [.ref l0, .int l1] M (some (.int r)) M' := by
  unfold F_X12_rule at h
  refine q_enter [some (.ref l0), some (.int l1)] (by decide) (Nat.le_of_ble_eq_true rfl) rfl (fun K C => ?_)
  refine q_aload_n C dX12_rule_0 rfl ?_
  refine x_iconst (v := (0 : Int32)) C dX12_rule_1 (by decide) ?_
  refine x_putI (ci := 12) (j := 0) C dX12_rule_2 lkF_X12_92 (fun r hr => by cases hr; rfl) rfl h (fun M1 h => ?_)
  refine q_aload_n C dX12_rule_5 rfl ?_
  refine x_getI (ci := 12) (j := 27) C dX12_rule_6 lkF_X12_287 rfl h (fun v2 h => ?_)
  refine q_if_eq (tgt := 24) C dX12_rule_9 (by decide) h (fun _ h => ?_) (fun _ h => ?_)
  · refine x_iconst (v := (-1 : Int32)) C dX12_rule_24 (by decide) ?_
    exact q_iret C dX12_rule_25 rfl (by decide) (by decide) (Option.some.inj h)
  · refine q_iload_n C dX12_rule_12 rfl ?_
    refine q_i2l C dX12_rule_13 ?_
    refine x_lconst (v := (0 : Int64)) C dX12_rule_14 (by decide) ?_
    refine q_ldc2 (v := (2 : Int64)) C dX12_rule_15 wd_1373 ?_
    obtain ⟨u3, e1, h⟩ := q_bind h
    refine x_callS0 C dX12_rule_18 lkM_X12_213 mS_X12_isIn (c_X12_isIn _ _ _ _ _ _ e1) rfl rfl (Nat.le_of_ble_eq_true rfl) (by decide) (by decide) ?_
    refine q_if_ne (tgt := 26) C dX12_rule_21 (by decide) h (fun _ h => ?_) (fun _ h => ?_)
    · refine x_iconst (v := (-1 : Int32)) C dX12_rule_24 (by decide) ?_
      exact q_iret C dX12_rule_25 rfl (by decide) (by decide) (Option.some.inj h)
    · refine q_iload_n C dX12_rule_26 rfl ?_
      refine q_if_ne (tgt := 40) C dX12_rule_27 (by decide) h (fun _ h => ?_) (fun _ h => ?_)
      · refine q_aload_n C dX12_rule_30 rfl ?_
        refine x_getR (ci := 12) (j := 32) C dX12_rule_31 lkF_X12_61 rfl h (fun c4 h => ?_)
        refine x_nn h (fun r5 h => ?_)
        refine x_bipush (v := (32 : Int32)) C dX12_rule_34 (by decide) ?_
        refine x_iald C dX12_rule_36 h (fun v6 h => ?_)
        refine q_goto (tgt := 61) C dX12_rule_37 (by decide) ?_
        exact q_iret C dX12_rule_61 rfl (by decide) (by decide) (Option.some.inj h)
      · refine q_iload_n C dX12_rule_40 rfl ?_
        refine x_iconst (v := (1 : Int32)) C dX12_rule_41 (by decide) ?_
        refine q_icmp_ne (tgt := 54) C dX12_rule_42 (by decide) h (fun _ h => ?_) (fun _ h => ?_)
        · refine q_aload_n C dX12_rule_45 rfl ?_
          refine x_getR (ci := 12) (j := 18) C dX12_rule_46 lkF_X12_37 rfl h (fun c7 h => ?_)
          refine x_nn h (fun r8 h => ?_)
          refine x_iconst (v := (1 : Int32)) C dX12_rule_49 (by decide) ?_
          refine x_iald C dX12_rule_50 h (fun v9 h => ?_)
          refine q_goto (tgt := 61) C dX12_rule_51 (by decide) ?_
          exact q_iret C dX12_rule_61 rfl (by decide) (by decide) (Option.some.inj h)
        · refine q_aload_n C dX12_rule_54 rfl ?_
          refine x_getR (ci := 12) (j := 32) C dX12_rule_55 lkF_X12_61 rfl h (fun c10 h => ?_)
          refine x_nn h (fun r11 h => ?_)
          refine x_bipush (v := (33 : Int32)) C dX12_rule_58 (by decide) ?_
          refine x_iald C dX12_rule_60 h (fun v12 h => ?_)
          exact q_iret C dX12_rule_61 rfl (by decide) (by decide) (Option.some.inj h)
noncomputable def F_X12_isDish (l0 : Nat) (l1 : Int32) (M : q_Mem) : Option (Int32) := (if l1 < 0 then q_rq (0 : Int32) else (q_gI M l0 12 26 (fun v1 => (if l1 < v1 then q_rq (1 : Int32) else q_rq (0 : Int32)))))
set_option maxRecDepth 100000 in
set_option maxHeartbeats 4000000 in
theorem c_X12_isDish (l : Launch) (G : q_G) (l0 : Nat) (l1 : Int32) (M : q_Mem) {r : Int32} (h : F_X12_isDish l0 l1 M = some r) : q_Met l G yX12_isDish cX12_isDish 2 (Option.some Jvm.ClassFile.FieldType.boolean) 1 0 0 [.ref l0, .int l1] M (some (.int r)) M := by
  unfold F_X12_isDish at h
  refine q_enter [some (.ref l0), some (.int l1)] (by decide) (Nat.le_of_ble_eq_true rfl) rfl (fun K C => ?_)
  refine q_iload_n C dX12_isDish_0 rfl ?_
  refine q_if_lt (tgt := 16) C dX12_isDish_1 (by decide) h (fun _ h => ?_) (fun _ h => ?_)
  · refine x_iconst (v := (0 : Int32)) C dX12_isDish_16 (by decide) ?_
    exact q_zret (res := (r, M)) C dX12_isDish_17 rfl (by decide) (by decide) (q_rqE h).1 (congrArg (fun z => (z, M)) (q_rqE h).2)
  · refine q_iload_n C dX12_isDish_4 rfl ?_
    refine q_aload_n C dX12_isDish_5 rfl ?_
    refine x_getI (ci := 12) (j := 26) C dX12_isDish_6 lkF_X12_284 rfl h (fun v1 h => ?_)
    refine q_icmp_ge (tgt := 16) C dX12_isDish_9 (by decide) h (fun _ h => ?_) (fun _ h => ?_)
    · refine x_iconst (v := (1 : Int32)) C dX12_isDish_12 (by decide) ?_
      refine q_goto (tgt := 17) C dX12_isDish_13 (by decide) ?_
      exact q_zret (res := (r, M)) C dX12_isDish_17 rfl (by decide) (by decide) (q_rqE h).1 (congrArg (fun z => (z, M)) (q_rqE h).2)
    · refine x_iconst (v := (0 : Int32)) C dX12_isDish_16 (by decide) ?_
      exact q_zret (res := (r, M)) C dX12_isDish_17 rfl (by decide) (by decide) (q_rqE h).1 (congrArg (fun z => (z, M)) (q_rqE h).2)
noncomputable def F_X12_dish (l0 : Nat) (l1 : Int32) (l2 : Int32) (M : q_Mem) : Option (Int32 × q_Mem) := (q_pI M l0 12 0 (0 : Int32) (fun M1 => (q_ob M1 l0 12 ((F_X12_isDish l0 l1 M1).bind (fun u2 => (if u2 = 0 then some ((-1 : Int32), M1) else ((F_X12_isIn l2.toInt64 (0 : Int64) (2 : Int64) M1).bind (fun u3 => (if u3 = 0 then some ((-1 : Int32), M1) else (q_gR M1 l0 12 20 (fun c4 => q_nn c4 (fun r5 => (q_lI M1 0 r5 (((3 : Int32) * l1) + l2) (fun v6 => some (v6, M1)))))))))))))))
set_option maxRecDepth 100000 in
set_option maxHeartbeats 4000000 in
theorem c_X12_dish (l : Launch) (G : q_G) (l0 : Nat) (l1 : Int32) (l2 : Int32) (M : q_Mem) {r : Int32} {M' : q_Mem} (h : F_X12_dish l0 l1 l2 M = some (r, M')) : q_Met l G yX12_dish cX12_dish 3 (Option.some Jvm.ClassFile.FieldType.int) 2 0 0 [.ref l0, .int l1, .int l2] M (some (.int r)) M' := by
  unfold F_X12_dish at h
  refine q_enter [some (.ref l0), some (.int l1), some (.int l2)] (by decide) (Nat.le_of_ble_eq_true rfl) rfl (fun K C => ?_)
  refine q_aload_n C dX12_dish_0 rfl ?_
  refine x_iconst (v := (0 : Int32)) C dX12_dish_1 (by decide) ?_
  refine x_putI (ci := 12) (j := 0) C dX12_dish_2 lkF_X12_92 (fun r hr => by cases hr; rfl) rfl h (fun M1 h => ?_)
  refine q_aload_n C dX12_dish_5 rfl ?_
  refine q_iload_n C dX12_dish_6 rfl ?_
  obtain ⟨hk, h⟩ := q_obE h
  obtain ⟨u2, e1, h⟩ := q_bind h
  refine x_callV0 C dX12_dish_7 lkM_X12_357 mV_X12_isDish ⟨_, rfl, rfl⟩ hk (c_X12_isDish _ _ _ _ _ e1) rfl rfl (Nat.le_of_ble_eq_true rfl) (by decide) (by decide) ?_
  refine q_if_eq (tgt := 38) C dX12_dish_10 (by decide) h (fun _ h => ?_) (fun _ h => ?_)
  · refine x_iconst (v := (-1 : Int32)) C dX12_dish_38 (by decide) ?_
    exact q_iret C dX12_dish_39 rfl (by decide) (by decide) (Option.some.inj h)
  · refine q_iload_n C dX12_dish_13 rfl ?_
    refine q_i2l C dX12_dish_14 ?_
    refine x_lconst (v := (0 : Int64)) C dX12_dish_15 (by decide) ?_
    refine q_ldc2 (v := (2 : Int64)) C dX12_dish_16 wd_1373 ?_
    obtain ⟨u3, e1, h⟩ := q_bind h
    refine x_callS0 C dX12_dish_19 lkM_X12_213 mS_X12_isIn (c_X12_isIn _ _ _ _ _ _ e1) rfl rfl (Nat.le_of_ble_eq_true rfl) (by decide) (by decide) ?_
    refine q_if_eq (tgt := 38) C dX12_dish_22 (by decide) h (fun _ h => ?_) (fun _ h => ?_)
    · refine x_iconst (v := (-1 : Int32)) C dX12_dish_38 (by decide) ?_
      exact q_iret C dX12_dish_39 rfl (by decide) (by decide) (Option.some.inj h)
    · refine q_aload_n C dX12_dish_25 rfl ?_
      refine x_getR (ci := 12) (j := 20) C dX12_dish_26 lkF_X12_43 rfl h (fun c4 h => ?_)
      refine x_nn h (fun r5 h => ?_)
      refine x_iconst (v := (3 : Int32)) C dX12_dish_29 (by decide) ?_
      refine q_iload_n C dX12_dish_30 rfl ?_
      refine q_imul C dX12_dish_31 ?_
      refine q_iload_n C dX12_dish_32 rfl ?_
      refine q_iadd C dX12_dish_33 ?_
      refine x_iald C dX12_dish_34 h (fun v6 h => ?_)
      refine q_goto (tgt := 39) C dX12_dish_35 (by decide) ?_
      exact q_iret C dX12_dish_39 rfl (by decide) (by decide) (Option.some.inj h)
noncomputable def F_X12_isGuest (l0 : Nat) (l1 : Int32) (M : q_Mem) : Option (Int32) := (if l1 < 0 then q_rq (0 : Int32) else (q_gI M l0 12 27 (fun v1 => (if l1 < v1 then q_rq (1 : Int32) else q_rq (0 : Int32)))))
set_option maxRecDepth 100000 in
set_option maxHeartbeats 4000000 in
theorem c_X12_isGuest (l : Launch) (G : q_G) (l0 : Nat) (l1 : Int32) (M : q_Mem) {r : Int32} (h : F_X12_isGuest l0 l1 M = some r) : q_Met l G yX12_isGuest cX12_isGuest 2 (Option.some Jvm.ClassFile.FieldType.boolean) 1 0 0 [.ref l0, .int l1] M (some (.int r)) M := by
  unfold F_X12_isGuest at h
  refine q_enter [some (.ref l0), some (.int l1)] (by decide) (Nat.le_of_ble_eq_true rfl) rfl (fun K C => ?_)
  refine q_iload_n C dX12_isGuest_0 rfl ?_
  refine q_if_lt (tgt := 16) C dX12_isGuest_1 (by decide) h (fun _ h => ?_) (fun _ h => ?_)
  · refine x_iconst (v := (0 : Int32)) C dX12_isGuest_16 (by decide) ?_
    exact q_zret (res := (r, M)) C dX12_isGuest_17 rfl (by decide) (by decide) (q_rqE h).1 (congrArg (fun z => (z, M)) (q_rqE h).2)
  · refine q_iload_n C dX12_isGuest_4 rfl ?_
    refine q_aload_n C dX12_isGuest_5 rfl ?_
    refine x_getI (ci := 12) (j := 27) C dX12_isGuest_6 lkF_X12_287 rfl h (fun v1 h => ?_)
    refine q_icmp_ge (tgt := 16) C dX12_isGuest_9 (by decide) h (fun _ h => ?_) (fun _ h => ?_)
    · refine x_iconst (v := (1 : Int32)) C dX12_isGuest_12 (by decide) ?_
      refine q_goto (tgt := 17) C dX12_isGuest_13 (by decide) ?_
      exact q_zret (res := (r, M)) C dX12_isGuest_17 rfl (by decide) (by decide) (q_rqE h).1 (congrArg (fun z => (z, M)) (q_rqE h).2)
    · refine x_iconst (v := (0 : Int32)) C dX12_isGuest_16 (by decide) ?_
      exact q_zret (res := (r, M)) C dX12_isGuest_17 rfl (by decide) (by decide) (q_rqE h).1 (congrArg (fun z => (z, M)) (q_rqE h).2)
noncomputable def F_X12_comes (l0 : Nat) (l1 : Int32) (M : q_Mem) : Option (Int32) := (q_gR M l0 12 22 (fun c1 => q_nn c1 (fun r2 => (q_lI M 0 r2 ((4 : Int32) * l1) (fun v3 => some v3)))))
set_option maxRecDepth 100000 in
set_option maxHeartbeats 4000000 in
theorem c_X12_comes (l : Launch) (G : q_G) (l0 : Nat) (l1 : Int32) (M : q_Mem) {r : Int32} (h : F_X12_comes l0 l1 M = some r) : q_Met l G yX12_comes cX12_comes 2 (Option.some Jvm.ClassFile.FieldType.int) 1 0 0 [.ref l0, .int l1] M (some (.int r)) M := by
  unfold F_X12_comes at h
  refine q_enter [some (.ref l0), some (.int l1)] (by decide) (Nat.le_of_ble_eq_true rfl) rfl (fun K C => ?_)
  refine q_aload_n C dX12_comes_0 rfl ?_
  refine x_getR (ci := 12) (j := 22) C dX12_comes_1 lkF_X12_49 rfl h (fun c1 h => ?_)
  refine x_nn h (fun r2 h => ?_)
  refine x_iconst (v := (4 : Int32)) C dX12_comes_4 (by decide) ?_
  refine q_iload_n C dX12_comes_5 rfl ?_
  refine q_imul C dX12_comes_6 ?_
  refine x_iald C dX12_comes_7 h (fun v3 h => ?_)
  exact q_iret (res := (r, M)) C dX12_comes_8 rfl (by decide) (by decide) (congrArg (fun z => (z, M)) (Option.some.inj h))
noncomputable def F_X12_pays (l0 : Nat) (l1 : Int32) (M : q_Mem) : Option (Int32) := (q_gR M l0 12 22 (fun c1 => q_nn c1 (fun r2 => (q_lI M 0 r2 (((4 : Int32) * l1) + (3 : Int32)) (fun v3 => some v3)))))
set_option maxRecDepth 100000 in
set_option maxHeartbeats 4000000 in
theorem c_X12_pays (l : Launch) (G : q_G) (l0 : Nat) (l1 : Int32) (M : q_Mem) {r : Int32} (h : F_X12_pays l0 l1 M = some r) : q_Met l G yX12_pays cX12_pays 2 (Option.some Jvm.ClassFile.FieldType.int) 1 0 0 [.ref l0, .int l1] M (some (.int r)) M := by
  unfold F_X12_pays at h
  refine q_enter [some (.ref l0), some (.int l1)] (by decide) (Nat.le_of_ble_eq_true rfl) rfl (fun K C => ?_)
  refine q_aload_n C dX12_pays_0 rfl ?_
  refine x_getR (ci := 12) (j := 22) C dX12_pays_1 lkF_X12_49 rfl h (fun c1 h => ?_)
  refine x_nn h (fun r2 h => ?_)
  refine x_iconst (v := (4 : Int32)) C dX12_pays_4 (by decide) ?_
  refine q_iload_n C dX12_pays_5 rfl ?_
  refine q_imul C dX12_pays_6 ?_
  refine x_iconst (v := (3 : Int32)) C dX12_pays_7 (by decide) ?_
  refine q_iadd C dX12_pays_8 ?_
  refine x_iald C dX12_pays_9 h (fun v3 h => ?_)
  exact q_iret (res := (r, M)) C dX12_pays_10 rfl (by decide) (by decide) (congrArg (fun z => (z, M)) (Option.some.inj h))
noncomputable def J_X12_guest_26 (l0 : Nat) (l1 : Int32) (l2 : Int32) (s0 : Nat) (s1 : Int32) (M : q_Mem) : Option (Int32 × q_Mem) := (q_pI M s0 12 0 s1 (fun M2 => (q_gI M2 l0 12 0 (fun v3 => (if 0 < v3 then some ((0 : Int32), M2) else (if l2 = (0 : Int32) then (q_ob M2 l0 12 ((F_X12_comes l0 l1 M2).bind (fun u4 => some (u4, M2)))) else (if l2 = (1 : Int32) then (q_gR M2 l0 12 32 (fun c5 => q_nn c5 (fun r6 => (q_lI M2 0 r6 (((4 : Int32) * l1) + (0 : Int32)) (fun v7 => some (v7, M2)))))) else (if l2 = (2 : Int32) then (q_gR M2 l0 12 32 (fun c8 => q_nn c8 (fun r9 => (q_lI M2 0 r9 (((4 : Int32) * l1) + (1 : Int32)) (fun v10 => some (v10, M2)))))) else (if l2 = (3 : Int32) then (q_ob M2 l0 12 ((F_X12_pays l0 l1 M2).bind (fun u11 => some (u11, M2)))) else (if l2 = (4 : Int32) then (q_gR M2 l0 12 32 (fun c12 => q_nn c12 (fun r13 => (q_lI M2 0 r13 (((4 : Int32) * l1) + (2 : Int32)) (fun v14 => some (v14, M2)))))) else (q_gR M2 l0 12 32 (fun c15 => q_nn c15 (fun r16 => (q_lI M2 0 r16 (((4 : Int32) * l1) + (3 : Int32)) (fun v17 => some (v17, M2))))))))))))))))
set_option maxRecDepth 100000 in
set_option maxHeartbeats 4000000 in
theorem jW_X12_guest_26 {K : q_K} (C : q_C K yX12_guest cX12_guest 3 (Option.some Jvm.ClassFile.FieldType.int) 2 0 0) (l0 : Nat) (l1 : Int32) (l2 : Int32) (s0 : Nat) (s1 : Int32) (M : q_Mem) {r : Int32} {M' : q_Mem} (h : J_X12_guest_26 l0 l1 l2 s0 s1 M = some (r, M')) : q_W K 3 (q_Q K (some (.int r)) M' 0 0) 0 0 M 26 [some (.ref l0), some (.int l1), some (.int l2)] [.int s1, .ref s0] := by
  unfold J_X12_guest_26 at h
  refine x_putI (ci := 12) (j := 0) C dX12_guest_26 lkF_X12_92 (fun r hr => by cases hr; rfl) rfl h (fun M2 h => ?_)
  refine q_aload_n C dX12_guest_29 rfl ?_
  refine x_getI (ci := 12) (j := 0) C dX12_guest_30 lkF_X12_92 rfl h (fun v3 h => ?_)
  refine q_if_le (tgt := 38) C dX12_guest_33 (by decide) h (fun _ h => ?_) (fun _ h => ?_)
  · refine x_iconst (v := (0 : Int32)) C dX12_guest_36 (by decide) ?_
    exact q_iret C dX12_guest_37 rfl (by decide) (by decide) (Option.some.inj h)
  · refine q_iload_n C dX12_guest_38 rfl ?_
    by_cases hs39_0 : l2 = (0 : Int32)
    · have h := q_iteT h hs39_0
      refine q_tsIn (tgt := 72) C dX12_guest_39 hs39_0 (by decide) (by decide) rfl (by decide) ?_
      refine q_aload_n C dX12_guest_72 rfl ?_
      refine q_iload_n C dX12_guest_73 rfl ?_
      obtain ⟨hk, h⟩ := q_obE h
      obtain ⟨u4, e1, h⟩ := q_bind h
      refine x_callV0 C dX12_guest_74 lkM_X12_299 mV_X12_comes ⟨_, rfl, rfl⟩ hk (c_X12_comes _ _ _ _ _ e1) rfl rfl (Nat.le_of_ble_eq_true rfl) (by decide) (by decide) ?_
      exact q_iret C dX12_guest_77 rfl (by decide) (by decide) (Option.some.inj h)
    have h := q_iteF h hs39_0
    by_cases hs39_1 : l2 = (1 : Int32)
    · have h := q_iteT h hs39_1
      refine q_tsIn (tgt := 78) C dX12_guest_39 hs39_1 (by decide) (by decide) rfl (by decide) ?_
      refine q_aload_n C dX12_guest_78 rfl ?_
      refine x_getR (ci := 12) (j := 32) C dX12_guest_79 lkF_X12_61 rfl h (fun c5 h => ?_)
      refine x_nn h (fun r6 h => ?_)
      refine x_iconst (v := (4 : Int32)) C dX12_guest_82 (by decide) ?_
      refine q_iload_n C dX12_guest_83 rfl ?_
      refine q_imul C dX12_guest_84 ?_
      refine x_iconst (v := (0 : Int32)) C dX12_guest_85 (by decide) ?_
      refine q_iadd C dX12_guest_86 ?_
      refine x_iald C dX12_guest_87 h (fun v7 h => ?_)
      exact q_iret C dX12_guest_88 rfl (by decide) (by decide) (Option.some.inj h)
    have h := q_iteF h hs39_1
    by_cases hs39_2 : l2 = (2 : Int32)
    · have h := q_iteT h hs39_2
      refine q_tsIn (tgt := 89) C dX12_guest_39 hs39_2 (by decide) (by decide) rfl (by decide) ?_
      refine q_aload_n C dX12_guest_89 rfl ?_
      refine x_getR (ci := 12) (j := 32) C dX12_guest_90 lkF_X12_61 rfl h (fun c8 h => ?_)
      refine x_nn h (fun r9 h => ?_)
      refine x_iconst (v := (4 : Int32)) C dX12_guest_93 (by decide) ?_
      refine q_iload_n C dX12_guest_94 rfl ?_
      refine q_imul C dX12_guest_95 ?_
      refine x_iconst (v := (1 : Int32)) C dX12_guest_96 (by decide) ?_
      refine q_iadd C dX12_guest_97 ?_
      refine x_iald C dX12_guest_98 h (fun v10 h => ?_)
      exact q_iret C dX12_guest_99 rfl (by decide) (by decide) (Option.some.inj h)
    have h := q_iteF h hs39_2
    by_cases hs39_3 : l2 = (3 : Int32)
    · have h := q_iteT h hs39_3
      refine q_tsIn (tgt := 100) C dX12_guest_39 hs39_3 (by decide) (by decide) rfl (by decide) ?_
      refine q_aload_n C dX12_guest_100 rfl ?_
      refine q_iload_n C dX12_guest_101 rfl ?_
      obtain ⟨hk, h⟩ := q_obE h
      obtain ⟨u11, e1, h⟩ := q_bind h
      refine x_callV0 C dX12_guest_102 lkM_X12_306 mV_X12_pays ⟨_, rfl, rfl⟩ hk (c_X12_pays _ _ _ _ _ e1) rfl rfl (Nat.le_of_ble_eq_true rfl) (by decide) (by decide) ?_
      exact q_iret C dX12_guest_105 rfl (by decide) (by decide) (Option.some.inj h)
    have h := q_iteF h hs39_3
    by_cases hs39_4 : l2 = (4 : Int32)
    · have h := q_iteT h hs39_4
      refine q_tsIn (tgt := 106) C dX12_guest_39 hs39_4 (by decide) (by decide) rfl (by decide) ?_
      refine q_aload_n C dX12_guest_106 rfl ?_
      refine x_getR (ci := 12) (j := 32) C dX12_guest_107 lkF_X12_61 rfl h (fun c12 h => ?_)
      refine x_nn h (fun r13 h => ?_)
      refine x_iconst (v := (4 : Int32)) C dX12_guest_110 (by decide) ?_
      refine q_iload_n C dX12_guest_111 rfl ?_
      refine q_imul C dX12_guest_112 ?_
      refine x_iconst (v := (2 : Int32)) C dX12_guest_113 (by decide) ?_
      refine q_iadd C dX12_guest_114 ?_
      refine x_iald C dX12_guest_115 h (fun v14 h => ?_)
      exact q_iret C dX12_guest_116 rfl (by decide) (by decide) (Option.some.inj h)
    have h := q_iteF h hs39_4
    have ho39 : (l2 : Int32).toInt < 0 ∨ 4 < (l2 : Int32).toInt := by
      have z0 := lv_neT (a := 0) hs39_0 (by decide)
      have z1 := lv_neT (a := 1) hs39_1 (by decide)
      have z2 := lv_neT (a := 2) hs39_2 (by decide)
      have z3 := lv_neT (a := 3) hs39_3 (by decide)
      have z4 := lv_neT (a := 4) hs39_4 (by decide)
      omega
    refine q_tsOut (tgt := 117) C dX12_guest_39 ho39 (by decide) ?_
    refine q_aload_n C dX12_guest_117 rfl ?_
    refine x_getR (ci := 12) (j := 32) C dX12_guest_118 lkF_X12_61 rfl h (fun c15 h => ?_)
    refine x_nn h (fun r16 h => ?_)
    refine x_iconst (v := (4 : Int32)) C dX12_guest_121 (by decide) ?_
    refine q_iload_n C dX12_guest_122 rfl ?_
    refine q_imul C dX12_guest_123 ?_
    refine x_iconst (v := (3 : Int32)) C dX12_guest_124 (by decide) ?_
    refine q_iadd C dX12_guest_125 ?_
    refine x_iald C dX12_guest_126 h (fun v17 h => ?_)
    exact q_iret C dX12_guest_127 rfl (by decide) (by decide) (Option.some.inj h)
noncomputable def J_X12_guest_25 (l0 : Nat) (l1 : Int32) (l2 : Int32) (s0 : Nat) (M : q_Mem) : Option (Int32 × q_Mem) := J_X12_guest_26 l0 l1 l2 s0 (1 : Int32) M
set_option maxRecDepth 100000 in
set_option maxHeartbeats 4000000 in
theorem jW_X12_guest_25 {K : q_K} (C : q_C K yX12_guest cX12_guest 3 (Option.some Jvm.ClassFile.FieldType.int) 2 0 0) (l0 : Nat) (l1 : Int32) (l2 : Int32) (s0 : Nat) (M : q_Mem) {r : Int32} {M' : q_Mem} (h : J_X12_guest_25 l0 l1 l2 s0 M = some (r, M')) : q_W K 3 (q_Q K (some (.int r)) M' 0 0) 0 0 M 25 [some (.ref l0), some (.int l1), some (.int l2)] [.ref s0] := by
  unfold J_X12_guest_25 at h
  refine x_iconst (v := (1 : Int32)) C dX12_guest_25 (by decide) ?_
  exact q_msk [true, true, true] (jW_X12_guest_26 C l0 l1 l2 s0 (1 : Int32) M h)
noncomputable def F_X12_guest (l0 : Nat) (l1 : Int32) (l2 : Int32) (M : q_Mem) : Option (Int32 × q_Mem) := (q_ob M l0 12 ((F_X12_isGuest l0 l1 M).bind (fun u1 => (if u1 = 0 then J_X12_guest_25 l0 l1 l2 l0 M else ((F_X12_isIn l2.toInt64 (0 : Int64) (5 : Int64) M).bind (fun u18 => (if u18 = 0 then J_X12_guest_25 l0 l1 l2 l0 M else J_X12_guest_26 l0 l1 l2 l0 (0 : Int32) M)))))))
set_option maxRecDepth 100000 in
set_option maxHeartbeats 4000000 in
theorem c_X12_guest (l : Launch) (G : q_G) (l0 : Nat) (l1 : Int32) (l2 : Int32) (M : q_Mem) {r : Int32} {M' : q_Mem} (h : F_X12_guest l0 l1 l2 M = some (r, M')) : q_Met l G yX12_guest cX12_guest 3 (Option.some Jvm.ClassFile.FieldType.int) 2 0 0 [.ref l0, .int l1, .int l2] M (some (.int r)) M' := by
  unfold F_X12_guest at h
  refine q_enter [some (.ref l0), some (.int l1), some (.int l2)] (by decide) (Nat.le_of_ble_eq_true rfl) rfl (fun K C => ?_)
  refine q_aload_n C dX12_guest_0 rfl ?_
  refine q_aload_n C dX12_guest_1 rfl ?_
  refine q_iload_n C dX12_guest_2 rfl ?_
  obtain ⟨hk, h⟩ := q_obE h
  obtain ⟨u1, e1, h⟩ := q_bind h
  refine x_callV0 C dX12_guest_3 lkM_X12_360 mV_X12_isGuest ⟨_, rfl, rfl⟩ hk (c_X12_isGuest _ _ _ _ _ e1) rfl rfl (Nat.le_of_ble_eq_true rfl) (by decide) (by decide) ?_
  refine q_if_eq (tgt := 25) C dX12_guest_6 (by decide) h (fun _ h => ?_) (fun _ h => ?_)
  · exact q_msk [true, true, true] (jW_X12_guest_25 C l0 l1 l2 l0 M h)
  · refine q_iload_n C dX12_guest_9 rfl ?_
    refine q_i2l C dX12_guest_10 ?_
    refine x_lconst (v := (0 : Int64)) C dX12_guest_11 (by decide) ?_
    refine q_ldc2 (v := (5 : Int64)) C dX12_guest_12 wd_1548 ?_
    obtain ⟨u18, e1, h⟩ := q_bind h
    refine x_callS0 C dX12_guest_15 lkM_X12_213 mS_X12_isIn (c_X12_isIn _ _ _ _ _ _ e1) rfl rfl (Nat.le_of_ble_eq_true rfl) (by decide) (by decide) ?_
    refine q_if_eq (tgt := 25) C dX12_guest_18 (by decide) h (fun _ h => ?_) (fun _ h => ?_)
    · exact q_msk [true, true, true] (jW_X12_guest_25 C l0 l1 l2 l0 M h)
    · refine x_iconst (v := (0 : Int32)) C dX12_guest_21 (by decide) ?_
      refine q_goto (tgt := 26) C dX12_guest_22 (by decide) ?_
      exact q_msk [true, true, true] (jW_X12_guest_26 C l0 l1 l2 l0 (0 : Int32) M h)
noncomputable def F_X12_thrown (l0 : Nat) (M : q_Mem) : Option (Int32) := (q_gI M l0 12 0 (fun v1 => some v1))
set_option maxRecDepth 100000 in
set_option maxHeartbeats 4000000 in
theorem c_X12_thrown (l : Launch) (G : q_G) (l0 : Nat) (M : q_Mem) {r : Int32} (h : F_X12_thrown l0 M = some r) : q_Met l G yX12_thrown cX12_thrown 1 (Option.some Jvm.ClassFile.FieldType.int) 1 0 0 [.ref l0] M (some (.int r)) M := by
  unfold F_X12_thrown at h
  refine q_enter [some (.ref l0)] (by decide) (Nat.le_of_ble_eq_true rfl) rfl (fun K C => ?_)
  refine q_aload_n C dX12_thrown_0 rfl ?_
  refine x_getI (ci := 12) (j := 0) C dX12_thrown_1 lkF_X12_92 rfl h (fun v1 h => ?_)
  exact q_iret (res := (r, M)) C dX12_thrown_4 rfl (by decide) (by decide) (congrArg (fun z => (z, M)) (Option.some.inj h))
noncomputable def J_X12_law_28 (l0 : Nat) (l1 : Int32) (M : q_Mem) : Option (Int32 × q_Mem) := (q_pI M l0 12 34 l1 (fun M2 => q_rz (1 : Int32) M2))
set_option maxRecDepth 100000 in
set_option maxHeartbeats 4000000 in
theorem jW_X12_law_28 {K : q_K} (C : q_C K yX12_law cX12_law 2 (Option.some Jvm.ClassFile.FieldType.boolean) 2 0 0) (l0 : Nat) (l1 : Int32) (M : q_Mem) {r : Int32} {M' : q_Mem} (h : J_X12_law_28 l0 l1 M = some (r, M')) : q_W K 2 (q_Q K (some (.int r)) M' 0 0) 0 0 M 28 [some (.ref l0), some (.int l1)] [] := by
  unfold J_X12_law_28 at h
  refine q_aload_n C dX12_law_28 rfl ?_
  refine q_iload_n C dX12_law_29 rfl ?_
  refine x_putI (ci := 12) (j := 34) C dX12_law_30 lkF_X12_67 (fun r hr => by cases hr; rfl) rfl h (fun M2 h => ?_)
  refine x_iconst (v := (1 : Int32)) C dX12_law_33 (by decide) ?_
  exact q_zret C dX12_law_34 rfl (by decide) (by decide) (q_rzE h).1 (q_rzE h).2
noncomputable def F_X12_law (l0 : Nat) (l1 : Int32) (M : q_Mem) : Option (Int32 × q_Mem) := (q_pI M l0 12 0 (0 : Int32) (fun M1 => (if l1 = (-1 : Int32) then J_X12_law_28 l0 l1 M1 else (q_gI M1 l0 12 7 (fun v3 => ((F_X12_isIn l1.toInt64 (0 : Int64) ((v3 - (1 : Int32)).toInt64) M1).bind (fun u4 => (if u4 = 0 then q_rz (0 : Int32) M1 else J_X12_law_28 l0 l1 M1))))))))
set_option maxRecDepth 100000 in
set_option maxHeartbeats 4000000 in
theorem c_X12_law (l : Launch) (G : q_G) (l0 : Nat) (l1 : Int32) (M : q_Mem) {r : Int32} {M' : q_Mem} (h : F_X12_law l0 l1 M = some (r, M')) : q_Met l G yX12_law cX12_law 2 (Option.some Jvm.ClassFile.FieldType.boolean) 2 0 0 [.ref l0, .int l1] M (some (.int r)) M' := by
  unfold F_X12_law at h
  refine q_enter [some (.ref l0), some (.int l1)] (by decide) (Nat.le_of_ble_eq_true rfl) rfl (fun K C => ?_)
  refine q_aload_n C dX12_law_0 rfl ?_
  refine x_iconst (v := (0 : Int32)) C dX12_law_1 (by decide) ?_
  refine x_putI (ci := 12) (j := 0) C dX12_law_2 lkF_X12_92 (fun r hr => by cases hr; rfl) rfl h (fun M1 h => ?_)
  refine q_iload_n C dX12_law_5 rfl ?_
  refine x_iconst (v := (-1 : Int32)) C dX12_law_6 (by decide) ?_
  refine q_icmp_eq (tgt := 28) C dX12_law_7 (by decide) h (fun _ h => ?_) (fun _ h => ?_)
  · exact q_msk [true, true] (jW_X12_law_28 C l0 l1 M1 h)
  · refine q_iload_n C dX12_law_10 rfl ?_
    refine q_i2l C dX12_law_11 ?_
    refine x_lconst (v := (0 : Int64)) C dX12_law_12 (by decide) ?_
    refine q_aload_n C dX12_law_13 rfl ?_
    refine x_getI (ci := 12) (j := 7) C dX12_law_14 lkF_X12_276 rfl h (fun v3 h => ?_)
    refine x_iconst (v := (1 : Int32)) C dX12_law_17 (by decide) ?_
    refine q_isub C dX12_law_18 ?_
    refine q_i2l C dX12_law_19 ?_
    obtain ⟨u4, e1, h⟩ := q_bind h
    refine x_callS0 C dX12_law_20 lkM_X12_213 mS_X12_isIn (c_X12_isIn _ _ _ _ _ _ e1) rfl rfl (Nat.le_of_ble_eq_true rfl) (by decide) (by decide) ?_
    refine q_if_ne (tgt := 28) C dX12_law_23 (by decide) h (fun _ h => ?_) (fun _ h => ?_)
    · refine x_iconst (v := (0 : Int32)) C dX12_law_26 (by decide) ?_
      exact q_zret C dX12_law_27 rfl (by decide) (by decide) (q_rzE h).1 (q_rzE h).2
    · exact q_msk [true, true] (jW_X12_law_28 C l0 l1 M1 h)
noncomputable def F_X12_fever (l0 : Nat) (l1 : Int32) (M : q_Mem) : Option (Int32 × q_Mem) := (q_pI M l0 12 0 (0 : Int32) (fun M1 => ((F_X12_isIn l1.toInt64 (0 : Int64) (9 : Int64) M1).bind (fun u2 => (if u2 = 0 then q_rz (0 : Int32) M1 else (q_gI M1 l0 12 35 (fun v3 => (if l1 = v3 then q_rz (0 : Int32) M1 else (q_pI M1 l0 12 35 l1 (fun M4 => q_rz (1 : Int32) M4))))))))))
set_option maxRecDepth 100000 in
set_option maxHeartbeats 4000000 in
theorem c_X12_fever (l : Launch) (G : q_G) (l0 : Nat) (l1 : Int32) (M : q_Mem) {r : Int32} {M' : q_Mem} (h : F_X12_fever l0 l1 M = some (r, M')) : q_Met l G yX12_fever cX12_fever 2 (Option.some Jvm.ClassFile.FieldType.boolean) 2 0 0 [.ref l0, .int l1] M (some (.int r)) M' := by
  unfold F_X12_fever at h
  refine q_enter [some (.ref l0), some (.int l1)] (by decide) (Nat.le_of_ble_eq_true rfl) rfl (fun K C => ?_)
  refine q_aload_n C dX12_fever_0 rfl ?_
  refine x_iconst (v := (0 : Int32)) C dX12_fever_1 (by decide) ?_
  refine x_putI (ci := 12) (j := 0) C dX12_fever_2 lkF_X12_92 (fun r hr => by cases hr; rfl) rfl h (fun M1 h => ?_)
  refine q_iload_n C dX12_fever_5 rfl ?_
  refine q_i2l C dX12_fever_6 ?_
  refine x_lconst (v := (0 : Int64)) C dX12_fever_7 (by decide) ?_
  refine q_ldc2 (v := (9 : Int64)) C dX12_fever_8 wd_1565 ?_
  obtain ⟨u2, e1, h⟩ := q_bind h
  refine x_callS0 C dX12_fever_11 lkM_X12_213 mS_X12_isIn (c_X12_isIn _ _ _ _ _ _ e1) rfl rfl (Nat.le_of_ble_eq_true rfl) (by decide) (by decide) ?_
  refine q_if_eq (tgt := 25) C dX12_fever_14 (by decide) h (fun _ h => ?_) (fun _ h => ?_)
  · refine x_iconst (v := (0 : Int32)) C dX12_fever_25 (by decide) ?_
    exact q_zret C dX12_fever_26 rfl (by decide) (by decide) (q_rzE h).1 (q_rzE h).2
  · refine q_iload_n C dX12_fever_17 rfl ?_
    refine q_aload_n C dX12_fever_18 rfl ?_
    refine x_getI (ci := 12) (j := 35) C dX12_fever_19 lkF_X12_71 rfl h (fun v3 h => ?_)
    refine q_icmp_ne (tgt := 27) C dX12_fever_22 (by decide) h (fun _ h => ?_) (fun _ h => ?_)
    · refine x_iconst (v := (0 : Int32)) C dX12_fever_25 (by decide) ?_
      exact q_zret C dX12_fever_26 rfl (by decide) (by decide) (q_rzE h).1 (q_rzE h).2
    · refine q_aload_n C dX12_fever_27 rfl ?_
      refine q_iload_n C dX12_fever_28 rfl ?_
      refine x_putI (ci := 12) (j := 35) C dX12_fever_29 lkF_X12_71 (fun r hr => by cases hr; rfl) rfl h (fun M4 h => ?_)
      refine x_iconst (v := (1 : Int32)) C dX12_fever_32 (by decide) ?_
      exact q_zret C dX12_fever_33 rfl (by decide) (by decide) (q_rzE h).1 (q_rzE h).2
noncomputable def B_X12_remember_11 (l0 : Nat) (l1 : Int32) (M : q_Mem) : Option ((Int32 × q_Mem) ⊕ (q_Mem)) := (if l1 < (8463 : Int32) then (q_gR M l0 12 41 (fun c2 => q_nn c2 (fun r3 => (q_gR M l0 12 41 (fun c4 => q_nn c4 (fun r5 => (q_lI M 0 r5 (l1 + (217 : Int32)) (fun v6 => (q_tI M r3 l1 v6 (fun M7 => some (.inl ((l1 + (1 : Int32)), M7)))))))))))) else some (.inr M))
set_option maxRecDepth 100000 in
set_option maxHeartbeats 4000000 in
theorem bW_X12_remember_11 {K : q_K} {Q : State → Prop} (C : q_C K yX12_remember cX12_remember 2 (Option.none : Option Jvm.ClassFile.FieldType) 1 0 0) (l0 : Nat) (l1 : Int32) (M : q_Mem) {stp : (Int32 × q_Mem) ⊕ (q_Mem)} (h : B_X12_remember_11 l0 l1 M = some stp) (kC : ∀ (l1 : Int32) (M : q_Mem), stp = .inl (l1, M) → q_W K 2 Q 0 0 M 11 [some (.ref l0), some (.int l1)] []) (kE0 : ∀ (M : q_Mem), stp = .inr M → q_W K 2 Q 0 0 M 40 [some (.ref l0), none] []) : q_W K 2 Q 0 0 M 11 [some (.ref l0), some (.int l1)] [] := by
  unfold B_X12_remember_11 at h
  refine q_iload_n C dX12_remember_11 rfl ?_
  refine x_sipush (v := (8463 : Int32)) C dX12_remember_12 (by decide) ?_
  refine q_icmp_ge (tgt := 40) C dX12_remember_15 (by decide) h (fun _ h => ?_) (fun _ h => ?_)
  · refine q_aload_n C dX12_remember_18 rfl ?_
    refine x_getR (ci := 12) (j := 41) C dX12_remember_19 lkF_X12_77 rfl h (fun c2 h => ?_)
    refine x_nn h (fun r3 h => ?_)
    refine q_iload_n C dX12_remember_22 rfl ?_
    refine q_aload_n C dX12_remember_23 rfl ?_
    refine x_getR (ci := 12) (j := 41) C dX12_remember_24 lkF_X12_77 rfl h (fun c4 h => ?_)
    refine x_nn h (fun r5 h => ?_)
    refine q_iload_n C dX12_remember_27 rfl ?_
    refine x_sipush (v := (217 : Int32)) C dX12_remember_28 (by decide) ?_
    refine q_iadd C dX12_remember_31 ?_
    refine x_iald C dX12_remember_32 h (fun v6 h => ?_)
    refine x_iast C dX12_remember_33 h (fun M7 h => ?_)
    refine x_iinc (w := (1 : Int32)) (L' := [some (.ref l0), some (.int (l1 + (1 : Int32)))]) C dX12_remember_34 rfl (by decide) (by decide) rfl rfl ?_
    refine q_goto (tgt := 11) C dX12_remember_37 (by decide) ?_
    exact q_msk [true, true] (kC _ _ (Option.some.inj h).symm)
  · exact q_msk [true, false] (kE0 _ (Option.some.inj h).symm)
set_option maxRecDepth 100000 in
set_option maxHeartbeats 4000000 in
theorem lW_X12_remember_11 {K : q_K} {Q : State → Prop} (C : q_C K yX12_remember cX12_remember 2 (Option.none : Option Jvm.ClassFile.FieldType) 1 0 0) (l0 : Nat) (n : Nat) : ∀ (l1 : Int32) (M : q_Mem) (e : (q_Mem)), q_lp (fun s => B_X12_remember_11 l0 s.1 s.2) n (l1, M) = some e → (∀ (M : q_Mem), e = M → q_W K 2 Q 0 0 M 40 [some (.ref l0), none] []) → q_W K 2 Q 0 0 M 11 [some (.ref l0), some (.int l1)] [] := by
  induction n with
  | zero => intro l1 M e h; cases h
  | succ n ih =>
    intro l1 M e h kE0
    obtain ⟨stp, e1, e2⟩ := q_bind h
    refine bW_X12_remember_11 C l0 l1 M e1 (fun a0 a1 hs => ?_) (fun b0 hs => ?_)
    · subst hs; exact ih _ _ _ e2 kE0
    · subst hs; exact kE0 _ (Option.some.inj e2).symm
noncomputable def B_X12_remember_52 (l0 : Nat) (l1 : Int32) (M : q_Mem) : Option ((Int32 × q_Mem) ⊕ (q_Mem)) := (if l1 < (217 : Int32) then (q_gR M l0 12 41 (fun c12 => q_nn c12 (fun r13 => (q_gI M l0 12 42 (fun v14 => (q_gR M l0 12 32 (fun c15 => q_nn c15 (fun r16 => (q_lI M 0 r16 l1 (fun v17 => (q_tI M r13 (((217 : Int32) * v14) + l1) v17 (fun M18 => some (.inl ((l1 + (1 : Int32)), M18)))))))))))))) else some (.inr M))
set_option maxRecDepth 100000 in
set_option maxHeartbeats 4000000 in
theorem bW_X12_remember_52 {K : q_K} {Q : State → Prop} (C : q_C K yX12_remember cX12_remember 2 (Option.none : Option Jvm.ClassFile.FieldType) 1 0 0) (l0 : Nat) (l1 : Int32) (M : q_Mem) {stp : (Int32 × q_Mem) ⊕ (q_Mem)} (h : B_X12_remember_52 l0 l1 M = some stp) (kC : ∀ (l1 : Int32) (M : q_Mem), stp = .inl (l1, M) → q_W K 2 Q 0 0 M 52 [some (.ref l0), some (.int l1)] []) (kE0 : ∀ (M : q_Mem), stp = .inr M → q_W K 2 Q 0 0 M 86 [some (.ref l0), none] []) : q_W K 2 Q 0 0 M 52 [some (.ref l0), some (.int l1)] [] := by
  unfold B_X12_remember_52 at h
  refine q_iload_n C dX12_remember_52 rfl ?_
  refine x_sipush (v := (217 : Int32)) C dX12_remember_53 (by decide) ?_
  refine q_icmp_ge (tgt := 86) C dX12_remember_56 (by decide) h (fun _ h => ?_) (fun _ h => ?_)
  · refine q_aload_n C dX12_remember_59 rfl ?_
    refine x_getR (ci := 12) (j := 41) C dX12_remember_60 lkF_X12_77 rfl h (fun c12 h => ?_)
    refine x_nn h (fun r13 h => ?_)
    refine x_sipush (v := (217 : Int32)) C dX12_remember_63 (by decide) ?_
    refine q_aload_n C dX12_remember_66 rfl ?_
    refine x_getI (ci := 12) (j := 42) C dX12_remember_67 lkF_X12_293 rfl h (fun v14 h => ?_)
    refine q_imul C dX12_remember_70 ?_
    refine q_iload_n C dX12_remember_71 rfl ?_
    refine q_iadd C dX12_remember_72 ?_
    refine q_aload_n C dX12_remember_73 rfl ?_
    refine x_getR (ci := 12) (j := 32) C dX12_remember_74 lkF_X12_61 rfl h (fun c15 h => ?_)
    refine x_nn h (fun r16 h => ?_)
    refine q_iload_n C dX12_remember_77 rfl ?_
    refine x_iald C dX12_remember_78 h (fun v17 h => ?_)
    refine x_iast C dX12_remember_79 h (fun M18 h => ?_)
    refine x_iinc (w := (1 : Int32)) (L' := [some (.ref l0), some (.int (l1 + (1 : Int32)))]) C dX12_remember_80 rfl (by decide) (by decide) rfl rfl ?_
    refine q_goto (tgt := 52) C dX12_remember_83 (by decide) ?_
    exact q_msk [true, true] (kC _ _ (Option.some.inj h).symm)
  · exact q_msk [true, false] (kE0 _ (Option.some.inj h).symm)
set_option maxRecDepth 100000 in
set_option maxHeartbeats 4000000 in
theorem lW_X12_remember_52 {K : q_K} {Q : State → Prop} (C : q_C K yX12_remember cX12_remember 2 (Option.none : Option Jvm.ClassFile.FieldType) 1 0 0) (l0 : Nat) (n : Nat) : ∀ (l1 : Int32) (M : q_Mem) (e : (q_Mem)), q_lp (fun s => B_X12_remember_52 l0 s.1 s.2) n (l1, M) = some e → (∀ (M : q_Mem), e = M → q_W K 2 Q 0 0 M 86 [some (.ref l0), none] []) → q_W K 2 Q 0 0 M 52 [some (.ref l0), some (.int l1)] [] := by
  induction n with
  | zero => intro l1 M e h; cases h
  | succ n ih =>
    intro l1 M e h kE0
    obtain ⟨stp, e1, e2⟩ := q_bind h
    refine bW_X12_remember_52 C l0 l1 M e1 (fun a0 a1 hs => ?_) (fun b0 hs => ?_)
    · subst hs; exact ih _ _ _ e2 kE0
    · subst hs; exact kE0 _ (Option.some.inj e2).symm
noncomputable def J_X12_remember_50 (l0 : Nat) (M : q_Mem) : Option (Unit × q_Mem) := (q_lp (fun s => B_X12_remember_52 l0 s.1 s.2) q_fu ((0 : Int32), M)).bind (fun e19 => match e19 with | M20 => (q_gI M20 l0 12 42 (fun v21 => (q_pI M20 l0 12 42 (v21 + (1 : Int32)) (fun M22 => some ((), M22))))))
set_option maxRecDepth 100000 in
set_option maxHeartbeats 4000000 in
theorem jW_X12_remember_50 {K : q_K} (C : q_C K yX12_remember cX12_remember 2 (Option.none : Option Jvm.ClassFile.FieldType) 1 0 0) (l0 : Nat) (M : q_Mem) {r : Unit} {M' : q_Mem} (h : J_X12_remember_50 l0 M = some (r, M')) : q_W K 2 (q_Q K none M' 0 0) 0 0 M 50 [some (.ref l0), none] [] := by
  unfold J_X12_remember_50 at h
  refine x_iconst (v := (0 : Int32)) C dX12_remember_50 (by decide) ?_
  refine q_istore_n (L' := [some (.ref l0), some (.int (0 : Int32))]) C dX12_remember_51 (by decide) rfl rfl ?_
  obtain ⟨e19, he, h⟩ := q_bind h
  refine q_msk [true, true] (lW_X12_remember_52 C l0 q_fu _ _ _ he (fun M20 hs => ?_))
  · have hs := hs.symm
    subst hs
    refine q_aload_n C dX12_remember_86 rfl ?_
    refine q_dup C dX12_remember_87 rfl ?_
    refine x_getI (ci := 12) (j := 42) C dX12_remember_88 lkF_X12_293 rfl h (fun v21 h => ?_)
    refine x_iconst (v := (1 : Int32)) C dX12_remember_91 (by decide) ?_
    refine q_iadd C dX12_remember_92 ?_
    refine x_putI (ci := 12) (j := 42) C dX12_remember_93 lkF_X12_293 (fun r hr => by cases hr; rfl) rfl h (fun M22 h => ?_)
    exact q_vret C dX12_remember_96 rfl (by decide) (by decide) (Option.some.inj h)
noncomputable def F_X12_remember (l0 : Nat) (M : q_Mem) : Option (Unit × q_Mem) := (q_gI M l0 12 42 (fun v1 => (if v1 = (40 : Int32) then (q_lp (fun s => B_X12_remember_11 l0 s.1 s.2) q_fu ((0 : Int32), M)).bind (fun e8 => match e8 with | M9 => (q_gI M9 l0 12 42 (fun v10 => (q_pI M9 l0 12 42 (v10 - (1 : Int32)) (fun M11 => J_X12_remember_50 l0 M11))))) else J_X12_remember_50 l0 M)))
set_option maxRecDepth 100000 in
set_option maxHeartbeats 4000000 in
theorem c_X12_remember (l : Launch) (G : q_G) (l0 : Nat) (M : q_Mem) {r : Unit} {M' : q_Mem} (h : F_X12_remember l0 M = some (r, M')) : q_Met l G yX12_remember cX12_remember 2 (Option.none : Option Jvm.ClassFile.FieldType) 1 0 0 [.ref l0] M none M' := by
  unfold F_X12_remember at h
  refine q_enter [some (.ref l0), none] (by decide) (Nat.le_of_ble_eq_true rfl) rfl (fun K C => ?_)
  refine q_aload_n C dX12_remember_0 rfl ?_
  refine x_getI (ci := 12) (j := 42) C dX12_remember_1 lkF_X12_293 rfl h (fun v1 h => ?_)
  refine x_bipush (v := (40 : Int32)) C dX12_remember_4 (by decide) ?_
  refine q_icmp_ne (tgt := 50) C dX12_remember_6 (by decide) h (fun _ h => ?_) (fun _ h => ?_)
  · refine x_iconst (v := (0 : Int32)) C dX12_remember_9 (by decide) ?_
    refine q_istore_n (L' := [some (.ref l0), some (.int (0 : Int32))]) C dX12_remember_10 (by decide) rfl rfl ?_
    obtain ⟨e8, he, h⟩ := q_bind h
    refine q_msk [true, true] (lW_X12_remember_11 C l0 q_fu _ _ _ he (fun M9 hs => ?_))
    · have hs := hs.symm
      subst hs
      refine q_aload_n C dX12_remember_40 rfl ?_
      refine q_dup C dX12_remember_41 rfl ?_
      refine x_getI (ci := 12) (j := 42) C dX12_remember_42 lkF_X12_293 rfl h (fun v10 h => ?_)
      refine x_iconst (v := (1 : Int32)) C dX12_remember_45 (by decide) ?_
      refine q_isub C dX12_remember_46 ?_
      refine x_putI (ci := 12) (j := 42) C dX12_remember_47 lkF_X12_293 (fun r hr => by cases hr; rfl) rfl h (fun M11 h => ?_)
      exact q_msk [true, false] (jW_X12_remember_50 C l0 M11 h)
  · exact q_msk [true, false] (jW_X12_remember_50 C l0 M h)
noncomputable def F_X12_isThere (l0 : Nat) (l1 : Nat) (l2 : Int32) (M : q_Mem) : Option (Int32) := (q_lI M 0 l1 (((4 : Int32) * l2) + (3 : Int32)) (fun v1 => (if v1 = 0 then (q_lI M 0 l1 (35 : Int32) (fun v2 => (q_ob M l0 12 ((F_X12_comes l0 l2 M).bind (fun u3 => (q_ob M l0 12 ((F_X12_comes l0 l2 M).bind (fun u4 => (q_lI M 0 l1 (((4 : Int32) * l2) + (0 : Int32)) (fun v5 => ((F_X12_isIn v2.toInt64 u3.toInt64 (((u4 + v5) - (1 : Int32)).toInt64) M).bind (fun u6 => (if u6 = 0 then q_rq (0 : Int32) else q_rq (1 : Int32)))))))))))))) else q_rq (0 : Int32))))
set_option maxRecDepth 100000 in
set_option maxHeartbeats 4000000 in
theorem c_X12_isThere (l : Launch) (G : q_G) (l0 : Nat) (l1 : Nat) (l2 : Int32) (M : q_Mem) {r : Int32} (h : F_X12_isThere l0 l1 l2 M = some r) : q_Met l G yX12_isThere cX12_isThere 3 (Option.some Jvm.ClassFile.FieldType.boolean) 2 0 0 [.ref l0, .ref l1, .int l2] M (some (.int r)) M := by
  unfold F_X12_isThere at h
  refine q_enter [some (.ref l0), some (.ref l1), some (.int l2)] (by decide) (Nat.le_of_ble_eq_true rfl) rfl (fun K C => ?_)
  refine q_aload_n C dX12_isThere_0 rfl ?_
  refine x_iconst (v := (4 : Int32)) C dX12_isThere_1 (by decide) ?_
  refine q_iload_n C dX12_isThere_2 rfl ?_
  refine q_imul C dX12_isThere_3 ?_
  refine x_iconst (v := (3 : Int32)) C dX12_isThere_4 (by decide) ?_
  refine q_iadd C dX12_isThere_5 ?_
  refine x_iald C dX12_isThere_6 h (fun v1 h => ?_)
  refine q_if_ne (tgt := 47) C dX12_isThere_7 (by decide) h (fun _ h => ?_) (fun _ h => ?_)
  · refine q_aload_n C dX12_isThere_10 rfl ?_
    refine x_bipush (v := (35 : Int32)) C dX12_isThere_11 (by decide) ?_
    refine x_iald C dX12_isThere_13 h (fun v2 h => ?_)
    refine q_i2l C dX12_isThere_14 ?_
    refine q_aload_n C dX12_isThere_15 rfl ?_
    refine q_iload_n C dX12_isThere_16 rfl ?_
    obtain ⟨hk, h⟩ := q_obE h
    obtain ⟨u3, e1, h⟩ := q_bind h
    refine x_callV0 C dX12_isThere_17 lkM_X12_299 mV_X12_comes ⟨_, rfl, rfl⟩ hk (c_X12_comes _ _ _ _ _ e1) rfl rfl (Nat.le_of_ble_eq_true rfl) (by decide) (by decide) ?_
    refine q_i2l C dX12_isThere_20 ?_
    refine q_aload_n C dX12_isThere_21 rfl ?_
    refine q_iload_n C dX12_isThere_22 rfl ?_
    obtain ⟨hk, h⟩ := q_obE h
    obtain ⟨u4, e1, h⟩ := q_bind h
    refine x_callV0 C dX12_isThere_23 lkM_X12_299 mV_X12_comes ⟨_, rfl, rfl⟩ hk (c_X12_comes _ _ _ _ _ e1) rfl rfl (Nat.le_of_ble_eq_true rfl) (by decide) (by decide) ?_
    refine q_aload_n C dX12_isThere_26 rfl ?_
    refine x_iconst (v := (4 : Int32)) C dX12_isThere_27 (by decide) ?_
    refine q_iload_n C dX12_isThere_28 rfl ?_
    refine q_imul C dX12_isThere_29 ?_
    refine x_iconst (v := (0 : Int32)) C dX12_isThere_30 (by decide) ?_
    refine q_iadd C dX12_isThere_31 ?_
    refine x_iald C dX12_isThere_32 h (fun v5 h => ?_)
    refine q_iadd C dX12_isThere_33 ?_
    refine x_iconst (v := (1 : Int32)) C dX12_isThere_34 (by decide) ?_
    refine q_isub C dX12_isThere_35 ?_
    refine q_i2l C dX12_isThere_36 ?_
    obtain ⟨u6, e1, h⟩ := q_bind h
    refine x_callS0 C dX12_isThere_37 lkM_X12_213 mS_X12_isIn (c_X12_isIn _ _ _ _ _ _ e1) rfl rfl (Nat.le_of_ble_eq_true rfl) (by decide) (by decide) ?_
    refine q_if_eq (tgt := 47) C dX12_isThere_40 (by decide) h (fun _ h => ?_) (fun _ h => ?_)
    · refine x_iconst (v := (0 : Int32)) C dX12_isThere_47 (by decide) ?_
      exact q_zret (res := (r, M)) C dX12_isThere_48 rfl (by decide) (by decide) (q_rqE h).1 (congrArg (fun z => (z, M)) (q_rqE h).2)
    · refine x_iconst (v := (1 : Int32)) C dX12_isThere_43 (by decide) ?_
      refine q_goto (tgt := 48) C dX12_isThere_44 (by decide) ?_
      exact q_zret (res := (r, M)) C dX12_isThere_48 rfl (by decide) (by decide) (q_rqE h).1 (congrArg (fun z => (z, M)) (q_rqE h).2)
  · refine x_iconst (v := (0 : Int32)) C dX12_isThere_47 (by decide) ?_
    exact q_zret (res := (r, M)) C dX12_isThere_48 rfl (by decide) (by decide) (q_rqE h).1 (congrArg (fun z => (z, M)) (q_rqE h).2)
noncomputable def J_X12_thereBits_29_4 (l0 : Nat) (l1 : Nat) (l3 : Int32) (s0 : Int32) (s1 : Int32) (M : q_Mem) : Option ((Int32 × Int32) ⊕ (Int32)) := some (.inl ((s0 ||| s1), (l3 + (1 : Int32))))
set_option maxRecDepth 100000 in
set_option maxHeartbeats 4000000 in
theorem jW_X12_thereBits_29_4 {K : q_K} {Q : State → Prop} (C : q_C K yX12_thereBits cX12_thereBits 4 (Option.some Jvm.ClassFile.FieldType.int) 3 0 0) (l0 : Nat) (l1 : Nat) (l3 : Int32) (s0 : Int32) (s1 : Int32) (M : q_Mem) {stp : (Int32 × Int32) ⊕ (Int32)} (h : J_X12_thereBits_29_4 l0 l1 l3 s0 s1 M = some stp) (kC : ∀ (l2 : Int32) (l3 : Int32), stp = .inl (l2, l3) → q_W K 4 Q 0 0 M 4 [some (.ref l0), some (.ref l1), some (.int l2), some (.int l3)] []) (kE0 : ∀ (l2 : Int32), stp = .inr l2 → q_W K 4 Q 0 0 M 37 [none, none, some (.int l2), none] []) : q_W K 4 Q 0 0 M 29 [some (.ref l0), some (.ref l1), none, some (.int l3)] [.int s1, .int s0] := by
  unfold J_X12_thereBits_29_4 at h
  refine q_ior C dX12_thereBits_29 ?_
  refine q_istore_n (L' := [some (.ref l0), some (.ref l1), some (.int (s0 ||| s1)), some (.int l3)]) C dX12_thereBits_30 (by decide) rfl rfl ?_
  refine x_iinc (w := (1 : Int32)) (L' := [some (.ref l0), some (.ref l1), some (.int (s0 ||| s1)), some (.int (l3 + (1 : Int32)))]) C dX12_thereBits_31 rfl (by decide) (by decide) rfl rfl ?_
  refine q_goto (tgt := 4) C dX12_thereBits_34 (by decide) ?_
  exact q_msk [true, true, true, true] (kC _ _ (Option.some.inj h).symm)
noncomputable def B_X12_thereBits_4 (l0 : Nat) (l1 : Nat) (l2 : Int32) (l3 : Int32) (M : q_Mem) : Option ((Int32 × Int32) ⊕ (Int32)) := (q_gI M l0 12 27 (fun v1 => (if l3 < v1 then (q_ob M l0 12 ((F_X12_isThere l0 l1 l3 M).bind (fun u2 => (if u2 = 0 then J_X12_thereBits_29_4 l0 l1 l3 l2 (0 : Int32) M else J_X12_thereBits_29_4 l0 l1 l3 l2 ((1 : Int32) <<< (l3 &&& 31)) M)))) else some (.inr l2))))
set_option maxRecDepth 100000 in
set_option maxHeartbeats 4000000 in
theorem bW_X12_thereBits_4 {K : q_K} {Q : State → Prop} (C : q_C K yX12_thereBits cX12_thereBits 4 (Option.some Jvm.ClassFile.FieldType.int) 3 0 0) (l0 : Nat) (l1 : Nat) (l2 : Int32) (l3 : Int32) (M : q_Mem) {stp : (Int32 × Int32) ⊕ (Int32)} (h : B_X12_thereBits_4 l0 l1 l2 l3 M = some stp) (kC : ∀ (l2 : Int32) (l3 : Int32), stp = .inl (l2, l3) → q_W K 4 Q 0 0 M 4 [some (.ref l0), some (.ref l1), some (.int l2), some (.int l3)] []) (kE0 : ∀ (l2 : Int32), stp = .inr l2 → q_W K 4 Q 0 0 M 37 [none, none, some (.int l2), none] []) : q_W K 4 Q 0 0 M 4 [some (.ref l0), some (.ref l1), some (.int l2), some (.int l3)] [] := by
  unfold B_X12_thereBits_4 at h
  refine q_iload_n C dX12_thereBits_4 rfl ?_
  refine q_aload_n C dX12_thereBits_5 rfl ?_
  refine x_getI (ci := 12) (j := 27) C dX12_thereBits_6 lkF_X12_287 rfl h (fun v1 h => ?_)
  refine q_icmp_ge (tgt := 37) C dX12_thereBits_9 (by decide) h (fun _ h => ?_) (fun _ h => ?_)
  · refine q_iload_n C dX12_thereBits_12 rfl ?_
    refine q_aload_n C dX12_thereBits_13 rfl ?_
    refine q_aload_n C dX12_thereBits_14 rfl ?_
    refine q_iload_n C dX12_thereBits_15 rfl ?_
    obtain ⟨hk, h⟩ := q_obE h
    obtain ⟨u2, e1, h⟩ := q_bind h
    refine x_callV0 C dX12_thereBits_16 lkM_X12_302 mV_X12_isThere ⟨_, rfl, rfl⟩ hk (c_X12_isThere _ _ _ _ _ _ e1) rfl rfl (Nat.le_of_ble_eq_true rfl) (by decide) (by decide) ?_
    refine q_if_eq (tgt := 28) C dX12_thereBits_19 (by decide) h (fun _ h => ?_) (fun _ h => ?_)
    · refine x_iconst (v := (0 : Int32)) C dX12_thereBits_28 (by decide) ?_
      exact q_msk [true, true, false, true] (jW_X12_thereBits_29_4 C l0 l1 l3 l2 (0 : Int32) M h kC kE0)
    · refine x_iconst (v := (1 : Int32)) C dX12_thereBits_22 (by decide) ?_
      refine q_iload_n C dX12_thereBits_23 rfl ?_
      refine q_ishl C dX12_thereBits_24 ?_
      refine q_goto (tgt := 29) C dX12_thereBits_25 (by decide) ?_
      exact q_msk [true, true, false, true] (jW_X12_thereBits_29_4 C l0 l1 l3 l2 ((1 : Int32) <<< (l3 &&& 31)) M h kC kE0)
  · exact q_msk [false, false, true, false] (kE0 _ (Option.some.inj h).symm)
set_option maxRecDepth 100000 in
set_option maxHeartbeats 4000000 in
theorem lW_X12_thereBits_4 {K : q_K} {Q : State → Prop} (C : q_C K yX12_thereBits cX12_thereBits 4 (Option.some Jvm.ClassFile.FieldType.int) 3 0 0) (l0 : Nat) (l1 : Nat) (M : q_Mem) (n : Nat) : ∀ (l2 : Int32) (l3 : Int32) (e : (Int32)), q_lp (fun s => B_X12_thereBits_4 l0 l1 s.1 s.2 M) n (l2, l3) = some e → (∀ (l2 : Int32), e = l2 → q_W K 4 Q 0 0 M 37 [none, none, some (.int l2), none] []) → q_W K 4 Q 0 0 M 4 [some (.ref l0), some (.ref l1), some (.int l2), some (.int l3)] [] := by
  induction n with
  | zero => intro l2 l3 e h; cases h
  | succ n ih =>
    intro l2 l3 e h kE0
    obtain ⟨stp, e1, e2⟩ := q_bind h
    refine bW_X12_thereBits_4 C l0 l1 l2 l3 M e1 (fun a0 a1 hs => ?_) (fun b0 hs => ?_)
    · subst hs; exact ih _ _ _ e2 kE0
    · subst hs; exact kE0 _ (Option.some.inj e2).symm
noncomputable def F_X12_thereBits (l0 : Nat) (l1 : Nat) (M : q_Mem) : Option (Int32) := (q_lp (fun s => B_X12_thereBits_4 l0 l1 s.1 s.2 M) q_fu ((0 : Int32), (0 : Int32))).bind (fun e3 => match e3 with | w4 => some w4)
set_option maxRecDepth 100000 in
set_option maxHeartbeats 4000000 in
theorem c_X12_thereBits (l : Launch) (G : q_G) (l0 : Nat) (l1 : Nat) (M : q_Mem) {r : Int32} (h : F_X12_thereBits l0 l1 M = some r) : q_Met l G yX12_thereBits cX12_thereBits 4 (Option.some Jvm.ClassFile.FieldType.int) 3 0 0 [.ref l0, .ref l1] M (some (.int r)) M := by
  unfold F_X12_thereBits at h
  refine q_enter [some (.ref l0), some (.ref l1), none, none] (by decide) (Nat.le_of_ble_eq_true rfl) rfl (fun K C => ?_)
  refine x_iconst (v := (0 : Int32)) C dX12_thereBits_0 (by decide) ?_
  refine q_istore_n (L' := [some (.ref l0), some (.ref l1), some (.int (0 : Int32)), none]) C dX12_thereBits_1 (by decide) rfl rfl ?_
  refine x_iconst (v := (0 : Int32)) C dX12_thereBits_2 (by decide) ?_
  refine q_istore_n (L' := [some (.ref l0), some (.ref l1), some (.int (0 : Int32)), some (.int (0 : Int32))]) C dX12_thereBits_3 (by decide) rfl rfl ?_
  obtain ⟨e3, he, h⟩ := q_bind h
  refine q_msk [true, true, true, true] (lW_X12_thereBits_4 C l0 l1 M q_fu _ _ _ he (fun w4 hs => ?_))
  · have hs := hs.symm
    subst hs
    refine q_iload_n C dX12_thereBits_37 rfl ?_
    exact q_iret (res := (r, M)) C dX12_thereBits_38 rfl (by decide) (by decide) (congrArg (fun z => (z, M)) (Option.some.inj h))
noncomputable def F_X12_cooks (l0 : Nat) (l1 : Nat) (M : q_Mem) : Option (Int32) := (q_lI M 0 l1 (34 : Int32) (fun v1 => (if 0 < v1 then (q_lI M 0 l1 (34 : Int32) (fun v2 => some (v2 - (1 : Int32)))) else (q_lI M 0 l1 (35 : Int32) (fun v3 => (q_gI M l0 12 26 (fun v4 => (q_rmi v3 v4 (fun v5 => some v5)))))))))
set_option maxRecDepth 100000 in
set_option maxHeartbeats 4000000 in
theorem c_X12_cooks (l : Launch) (G : q_G) (l0 : Nat) (l1 : Nat) (M : q_Mem) {r : Int32} (h : F_X12_cooks l0 l1 M = some r) : q_Met l G yX12_cooks cX12_cooks 2 (Option.some Jvm.ClassFile.FieldType.int) 1 0 0 [.ref l0, .ref l1] M (some (.int r)) M := by
  unfold F_X12_cooks at h
  refine q_enter [some (.ref l0), some (.ref l1)] (by decide) (Nat.le_of_ble_eq_true rfl) rfl (fun K C => ?_)
  refine q_aload_n C dX12_cooks_0 rfl ?_
  refine x_bipush (v := (34 : Int32)) C dX12_cooks_1 (by decide) ?_
  refine x_iald C dX12_cooks_3 h (fun v1 h => ?_)
  refine q_if_le (tgt := 16) C dX12_cooks_4 (by decide) h (fun _ h => ?_) (fun _ h => ?_)
  · refine q_aload_n C dX12_cooks_7 rfl ?_
    refine x_bipush (v := (34 : Int32)) C dX12_cooks_8 (by decide) ?_
    refine x_iald C dX12_cooks_10 h (fun v2 h => ?_)
    refine x_iconst (v := (1 : Int32)) C dX12_cooks_11 (by decide) ?_
    refine q_isub C dX12_cooks_12 ?_
    refine q_goto (tgt := 25) C dX12_cooks_13 (by decide) ?_
    exact q_iret (res := (r, M)) C dX12_cooks_25 rfl (by decide) (by decide) (congrArg (fun z => (z, M)) (Option.some.inj h))
  · refine q_aload_n C dX12_cooks_16 rfl ?_
    refine x_bipush (v := (35 : Int32)) C dX12_cooks_17 (by decide) ?_
    refine x_iald C dX12_cooks_19 h (fun v3 h => ?_)
    refine q_aload_n C dX12_cooks_20 rfl ?_
    refine x_getI (ci := 12) (j := 26) C dX12_cooks_21 lkF_X12_284 rfl h (fun v4 h => ?_)
    refine q_irem C dX12_cooks_24 h (fun v5 h => ?_)
    exact q_iret (res := (r, M)) C dX12_cooks_25 rfl (by decide) (by decide) (congrArg (fun z => (z, M)) (Option.some.inj h))
noncomputable def J_X12_serves_91 (s0 : Nat) (s1 : Int32) (M : q_Mem) : Option (Unit × q_Mem) := (q_pI M s0 12 38 s1 (fun M6 => some ((), M6)))
set_option maxRecDepth 100000 in
set_option maxHeartbeats 4000000 in
theorem jW_X12_serves_91 {K : q_K} (C : q_C K yX12_serves cX12_serves 4 (Option.none : Option Jvm.ClassFile.FieldType) 2 0 0) (s0 : Nat) (s1 : Int32) (M : q_Mem) {r : Unit} {M' : q_Mem} (h : J_X12_serves_91 s0 s1 M = some (r, M')) : q_W K 4 (q_Q K none M' 0 0) 0 0 M 91 [none, none, none, none] [.int s1, .ref s0] := by
  unfold J_X12_serves_91 at h
  refine x_putI (ci := 12) (j := 38) C dX12_serves_91 lkF_X12_319 (fun r hr => by cases hr; rfl) rfl h (fun M6 h => ?_)
  exact q_vret C dX12_serves_94 rfl (by decide) (by decide) (Option.some.inj h)
noncomputable def J_X12_serves_52 (l0 : Nat) (l1 : Nat) (l2 : Int32) (s0 : Nat) (s1 : Int32) (M : q_Mem) : Option (Unit × q_Mem) := (q_pI M s0 12 39 s1 (fun M5 => (if l2 < 0 then J_X12_serves_91 l0 (0 : Int32) M5 else (q_gR M5 l0 12 20 (fun c7 => q_nn c7 (fun r8 => (q_gI M5 l0 12 37 (fun v9 => (q_lI M5 0 r8 ((3 : Int32) * v9) (fun v10 => (q_gR M5 l0 12 18 (fun c11 => q_nn c11 (fun r12 => (q_lI M5 0 r12 (1 : Int32) (fun v13 => (q_lI M5 0 l1 (32 : Int32) (fun v14 => J_X12_serves_91 l0 (q_mx (0 : Int32) (v10 - (v13 * v14))) M5)))))))))))))))))
set_option maxRecDepth 100000 in
set_option maxHeartbeats 4000000 in
theorem jW_X12_serves_52 {K : q_K} (C : q_C K yX12_serves cX12_serves 4 (Option.none : Option Jvm.ClassFile.FieldType) 2 0 0) (l0 : Nat) (l1 : Nat) (l2 : Int32) (s0 : Nat) (s1 : Int32) (M : q_Mem) {r : Unit} {M' : q_Mem} (h : J_X12_serves_52 l0 l1 l2 s0 s1 M = some (r, M')) : q_W K 4 (q_Q K none M' 0 0) 0 0 M 52 [some (.ref l0), some (.ref l1), some (.int l2), none] [.int s1, .ref s0] := by
  unfold J_X12_serves_52 at h
  refine x_putI (ci := 12) (j := 39) C dX12_serves_52 lkF_X12_316 (fun r hr => by cases hr; rfl) rfl h (fun M5 h => ?_)
  refine q_aload_n C dX12_serves_55 rfl ?_
  refine q_iload_n C dX12_serves_56 rfl ?_
  refine q_if_ge (tgt := 64) C dX12_serves_57 (by decide) h (fun _ h => ?_) (fun _ h => ?_)
  · refine x_iconst (v := (0 : Int32)) C dX12_serves_60 (by decide) ?_
    refine q_goto (tgt := 91) C dX12_serves_61 (by decide) ?_
    exact q_msk [false, false, false, false] (jW_X12_serves_91 C l0 (0 : Int32) M5 h)
  · refine x_iconst (v := (0 : Int32)) C dX12_serves_64 (by decide) ?_
    refine q_aload_n C dX12_serves_65 rfl ?_
    refine x_getR (ci := 12) (j := 20) C dX12_serves_66 lkF_X12_43 rfl h (fun c7 h => ?_)
    refine x_nn h (fun r8 h => ?_)
    refine x_iconst (v := (3 : Int32)) C dX12_serves_69 (by decide) ?_
    refine q_aload_n C dX12_serves_70 rfl ?_
    refine x_getI (ci := 12) (j := 37) C dX12_serves_71 lkF_X12_313 rfl h (fun v9 h => ?_)
    refine q_imul C dX12_serves_74 ?_
    refine x_iald C dX12_serves_75 h (fun v10 h => ?_)
    refine q_aload_n C dX12_serves_76 rfl ?_
    refine x_getR (ci := 12) (j := 18) C dX12_serves_77 lkF_X12_37 rfl h (fun c11 h => ?_)
    refine x_nn h (fun r12 h => ?_)
    refine x_iconst (v := (1 : Int32)) C dX12_serves_80 (by decide) ?_
    refine x_iald C dX12_serves_81 h (fun v13 h => ?_)
    refine q_aload_n C dX12_serves_82 rfl ?_
    refine x_bipush (v := (32 : Int32)) C dX12_serves_83 (by decide) ?_
    refine x_iald C dX12_serves_85 h (fun v14 h => ?_)
    refine q_imul C dX12_serves_86 ?_
    refine q_isub C dX12_serves_87 ?_
    refine q_max C dX12_serves_88 wd_1599 wd_467 wd_15 wd_468 (by decide) (Nat.le_of_ble_eq_true rfl) (by decide) ?_
    exact q_msk [false, false, false, false] (jW_X12_serves_91 C l0 (q_mx (0 : Int32) (v10 - (v13 * v14))) M5 h)
noncomputable def J_X12_serves_35 (l0 : Nat) (l1 : Nat) (l2 : Int32) (l3 : Int32) (s0 : Nat) (s1 : Int32) (M : q_Mem) : Option (Unit × q_Mem) := (q_pI M s0 12 37 s1 (fun M4 => (if l2 < 0 then J_X12_serves_52 l0 l1 l2 l0 (0 : Int32) M4 else (q_lI M4 0 l1 (l3 + (1 : Int32)) (fun v15 => J_X12_serves_52 l0 l1 l2 l0 v15 M4)))))
set_option maxRecDepth 100000 in
set_option maxHeartbeats 4000000 in
theorem jW_X12_serves_35 {K : q_K} (C : q_C K yX12_serves cX12_serves 4 (Option.none : Option Jvm.ClassFile.FieldType) 2 0 0) (l0 : Nat) (l1 : Nat) (l2 : Int32) (l3 : Int32) (s0 : Nat) (s1 : Int32) (M : q_Mem) {r : Unit} {M' : q_Mem} (h : J_X12_serves_35 l0 l1 l2 l3 s0 s1 M = some (r, M')) : q_W K 4 (q_Q K none M' 0 0) 0 0 M 35 [some (.ref l0), some (.ref l1), some (.int l2), some (.int l3)] [.int s1, .ref s0] := by
  unfold J_X12_serves_35 at h
  refine x_putI (ci := 12) (j := 37) C dX12_serves_35 lkF_X12_313 (fun r hr => by cases hr; rfl) rfl h (fun M4 h => ?_)
  refine q_aload_n C dX12_serves_38 rfl ?_
  refine q_iload_n C dX12_serves_39 rfl ?_
  refine q_if_ge (tgt := 47) C dX12_serves_40 (by decide) h (fun _ h => ?_) (fun _ h => ?_)
  · refine x_iconst (v := (0 : Int32)) C dX12_serves_43 (by decide) ?_
    refine q_goto (tgt := 52) C dX12_serves_44 (by decide) ?_
    exact q_msk [true, true, true, false] (jW_X12_serves_52 C l0 l1 l2 l0 (0 : Int32) M4 h)
  · refine q_aload_n C dX12_serves_47 rfl ?_
    refine q_iload_n C dX12_serves_48 rfl ?_
    refine x_iconst (v := (1 : Int32)) C dX12_serves_49 (by decide) ?_
    refine q_iadd C dX12_serves_50 ?_
    refine x_iald C dX12_serves_51 h (fun v15 h => ?_)
    exact q_msk [true, true, true, false] (jW_X12_serves_52 C l0 l1 l2 l0 v15 M4 h)
noncomputable def F_X12_serves (l0 : Nat) (l1 : Nat) (M : q_Mem) : Option (Unit × q_Mem) := (q_lI M 0 l1 (35 : Int32) (fun v1 => (q_lI M 0 l1 (32 : Int32) (fun v2 => (q_rmi (q_mx (0 : Int32) (v1 - v2)) (4 : Int32) (fun v3 => (if (v1 - v2) < 0 then J_X12_serves_35 l0 l1 (v1 - v2) ((24 : Int32) + ((2 : Int32) * v3)) l0 (-1 : Int32) M else (q_lI M 0 l1 ((24 : Int32) + ((2 : Int32) * v3)) (fun v16 => J_X12_serves_35 l0 l1 (v1 - v2) ((24 : Int32) + ((2 : Int32) * v3)) l0 v16 M)))))))))
set_option maxRecDepth 100000 in
set_option maxHeartbeats 4000000 in
theorem c_X12_serves (l : Launch) (G : q_G) (l0 : Nat) (l1 : Nat) (M : q_Mem) {r : Unit} {M' : q_Mem} (h : F_X12_serves l0 l1 M = some (r, M')) : q_Met l G yX12_serves cX12_serves 4 (Option.none : Option Jvm.ClassFile.FieldType) 2 0 0 [.ref l0, .ref l1] M none M' := by
  unfold F_X12_serves at h
  refine q_enter [some (.ref l0), some (.ref l1), none, none] (by decide) (Nat.le_of_ble_eq_true rfl) rfl (fun K C => ?_)
  refine q_aload_n C dX12_serves_0 rfl ?_
  refine x_bipush (v := (35 : Int32)) C dX12_serves_1 (by decide) ?_
  refine x_iald C dX12_serves_3 h (fun v1 h => ?_)
  refine q_aload_n C dX12_serves_4 rfl ?_
  refine x_bipush (v := (32 : Int32)) C dX12_serves_5 (by decide) ?_
  refine x_iald C dX12_serves_7 h (fun v2 h => ?_)
  refine q_isub C dX12_serves_8 ?_
  refine q_istore_n (L' := [some (.ref l0), some (.ref l1), some (.int (v1 - v2)), none]) C dX12_serves_9 (by decide) rfl rfl ?_
  refine x_bipush (v := (24 : Int32)) C dX12_serves_10 (by decide) ?_
  refine x_iconst (v := (2 : Int32)) C dX12_serves_12 (by decide) ?_
  refine x_iconst (v := (0 : Int32)) C dX12_serves_13 (by decide) ?_
  refine q_iload_n C dX12_serves_14 rfl ?_
  refine q_max C dX12_serves_15 wd_1599 wd_467 wd_15 wd_468 (by decide) (Nat.le_of_ble_eq_true rfl) (by decide) ?_
  refine x_iconst (v := (4 : Int32)) C dX12_serves_18 (by decide) ?_
  refine q_irem C dX12_serves_19 h (fun v3 h => ?_)
  refine q_imul C dX12_serves_20 ?_
  refine q_iadd C dX12_serves_21 ?_
  refine q_istore_n (L' := [some (.ref l0), some (.ref l1), some (.int (v1 - v2)), some (.int ((24 : Int32) + ((2 : Int32) * v3)))]) C dX12_serves_22 (by decide) rfl rfl ?_
  refine q_aload_n C dX12_serves_23 rfl ?_
  refine q_iload_n C dX12_serves_24 rfl ?_
  refine q_if_ge (tgt := 32) C dX12_serves_25 (by decide) h (fun _ h => ?_) (fun _ h => ?_)
  · refine x_iconst (v := (-1 : Int32)) C dX12_serves_28 (by decide) ?_
    refine q_goto (tgt := 35) C dX12_serves_29 (by decide) ?_
    exact q_msk [true, true, true, true] (jW_X12_serves_35 C l0 l1 (v1 - v2) ((24 : Int32) + ((2 : Int32) * v3)) l0 (-1 : Int32) M h)
  · refine q_aload_n C dX12_serves_32 rfl ?_
    refine q_iload_n C dX12_serves_33 rfl ?_
    refine x_iald C dX12_serves_34 h (fun v16 h => ?_)
    exact q_msk [true, true, true, true] (jW_X12_serves_35 C l0 l1 (v1 - v2) ((24 : Int32) + ((2 : Int32) * v3)) l0 v16 M h)
noncomputable def B_X12_goTable_55 (l0 : Nat) (l1 : Nat) (l3 : Int32) (l4 : Int32) (l5 : Int32) (M : q_Mem) : Option ((Int32 × q_Mem) ⊕ (q_Mem)) := (if l5 < (6 : Int32) then (q_gR M l0 12 36 (fun c12 => q_nn c12 (fun r13 => (q_tI M r13 l5 (0 : Int32) (fun M14 => some (.inl ((l5 + (1 : Int32)), M14))))))) else some (.inr M))
set_option maxRecDepth 100000 in
set_option maxHeartbeats 4000000 in
theorem bW_X12_goTable_55 {K : q_K} {Q : State → Prop} (C : q_C K yX12_goTable cX12_goTable 8 (Option.none : Option Jvm.ClassFile.FieldType) 4 0 0) (l0 : Nat) (l1 : Nat) (l3 : Int32) (l4 : Int32) (l5 : Int32) (M : q_Mem) {stp : (Int32 × q_Mem) ⊕ (q_Mem)} (h : B_X12_goTable_55 l0 l1 l3 l4 l5 M = some stp) (kC : ∀ (l5 : Int32) (M : q_Mem), stp = .inl (l5, M) → q_W K 8 Q 0 0 M 55 [some (.ref l0), some (.ref l1), none, some (.int l3), some (.int l4), some (.int l5), none, none] []) (kE0 : ∀ (M : q_Mem), stp = .inr M → q_W K 8 Q 0 0 M 76 [some (.ref l0), some (.ref l1), none, some (.int l3), some (.int l4), none, none, none] []) : q_W K 8 Q 0 0 M 55 [some (.ref l0), some (.ref l1), none, some (.int l3), some (.int l4), some (.int l5), none, none] [] := by
  unfold B_X12_goTable_55 at h
  refine q_iload C dX12_goTable_55 rfl ?_
  refine x_bipush (v := (6 : Int32)) C dX12_goTable_57 (by decide) ?_
  refine q_icmp_ge (tgt := 76) C dX12_goTable_59 (by decide) h (fun _ h => ?_) (fun _ h => ?_)
  · refine q_aload_n C dX12_goTable_62 rfl ?_
    refine x_getR (ci := 12) (j := 36) C dX12_goTable_63 lkF_X12_74 rfl h (fun c12 h => ?_)
    refine x_nn h (fun r13 h => ?_)
    refine q_iload C dX12_goTable_66 rfl ?_
    refine x_iconst (v := (0 : Int32)) C dX12_goTable_68 (by decide) ?_
    refine x_iast C dX12_goTable_69 h (fun M14 h => ?_)
    refine x_iinc (w := (1 : Int32)) (L' := [some (.ref l0), some (.ref l1), none, some (.int l3), some (.int l4), some (.int (l5 + (1 : Int32))), none, none]) C dX12_goTable_70 rfl (by decide) (by decide) rfl rfl ?_
    refine q_goto (tgt := 55) C dX12_goTable_73 (by decide) ?_
    exact q_msk [true, true, false, true, true, true, false, false] (kC _ _ (Option.some.inj h).symm)
  · exact q_msk [true, true, false, true, true, false, false, false] (kE0 _ (Option.some.inj h).symm)
set_option maxRecDepth 100000 in
set_option maxHeartbeats 4000000 in
theorem lW_X12_goTable_55 {K : q_K} {Q : State → Prop} (C : q_C K yX12_goTable cX12_goTable 8 (Option.none : Option Jvm.ClassFile.FieldType) 4 0 0) (l0 : Nat) (l1 : Nat) (l3 : Int32) (l4 : Int32) (n : Nat) : ∀ (l5 : Int32) (M : q_Mem) (e : (q_Mem)), q_lp (fun s => B_X12_goTable_55 l0 l1 l3 l4 s.1 s.2) n (l5, M) = some e → (∀ (M : q_Mem), e = M → q_W K 8 Q 0 0 M 76 [some (.ref l0), some (.ref l1), none, some (.int l3), some (.int l4), none, none, none] []) → q_W K 8 Q 0 0 M 55 [some (.ref l0), some (.ref l1), none, some (.int l3), some (.int l4), some (.int l5), none, none] [] := by
  induction n with
  | zero => intro l5 M e h; cases h
  | succ n ih =>
    intro l5 M e h kE0
    obtain ⟨stp, e1, e2⟩ := q_bind h
    refine bW_X12_goTable_55 C l0 l1 l3 l4 l5 M e1 (fun a0 a1 hs => ?_) (fun b0 hs => ?_)
    · subst hs; exact ih _ _ _ e2 kE0
    · subst hs; exact kE0 _ (Option.some.inj e2).symm
noncomputable def J_X12_goTable_138_94 (l0 : Nat) (l1 : Nat) (l3 : Int32) (l4 : Int32) (l5 : Int32) (l6 : Int32) (l7 : Int32) (M : q_Mem) : Option ((Int32 × Int32) ⊕ (Int32)) := some (.inl (l6, (l7 + (1 : Int32))))
set_option maxRecDepth 100000 in
set_option maxHeartbeats 4000000 in
theorem jW_X12_goTable_138_94 {K : q_K} {Q : State → Prop} (C : q_C K yX12_goTable cX12_goTable 8 (Option.none : Option Jvm.ClassFile.FieldType) 4 0 0) (l0 : Nat) (l1 : Nat) (l3 : Int32) (l4 : Int32) (l5 : Int32) (l6 : Int32) (l7 : Int32) (M : q_Mem) {stp : (Int32 × Int32) ⊕ (Int32)} (h : J_X12_goTable_138_94 l0 l1 l3 l4 l5 l6 l7 M = some stp) (kC : ∀ (l6 : Int32) (l7 : Int32), stp = .inl (l6, l7) → q_W K 8 Q 0 0 M 94 [some (.ref l0), some (.ref l1), none, some (.int l3), some (.int l4), some (.int l5), some (.int l6), some (.int l7)] []) (kE0 : ∀ (l6 : Int32), stp = .inr l6 → q_W K 8 Q 0 0 M 144 [some (.ref l0), some (.ref l1), none, some (.int l3), some (.int l4), some (.int l5), some (.int l6), none] []) : q_W K 8 Q 0 0 M 138 [some (.ref l0), some (.ref l1), none, some (.int l3), some (.int l4), some (.int l5), some (.int l6), some (.int l7)] [] := by
  unfold J_X12_goTable_138_94 at h
  refine x_iinc (w := (1 : Int32)) (L' := [some (.ref l0), some (.ref l1), none, some (.int l3), some (.int l4), some (.int l5), some (.int l6), some (.int (l7 + (1 : Int32)))]) C dX12_goTable_138 rfl (by decide) (by decide) rfl rfl ?_
  refine q_goto (tgt := 94) C dX12_goTable_141 (by decide) ?_
  exact q_msk [true, true, false, true, true, true, true, true] (kC _ _ (Option.some.inj h).symm)
noncomputable def J_X12_goTable_134_94 (l0 : Nat) (l1 : Nat) (l3 : Int32) (l4 : Int32) (l5 : Int32) (l7 : Int32) (M : q_Mem) : Option ((Int32 × Int32) ⊕ (Int32)) := J_X12_goTable_138_94 l0 l1 l3 l4 l5 l7 l7 M
set_option maxRecDepth 100000 in
set_option maxHeartbeats 4000000 in
theorem jW_X12_goTable_134_94 {K : q_K} {Q : State → Prop} (C : q_C K yX12_goTable cX12_goTable 8 (Option.none : Option Jvm.ClassFile.FieldType) 4 0 0) (l0 : Nat) (l1 : Nat) (l3 : Int32) (l4 : Int32) (l5 : Int32) (l7 : Int32) (M : q_Mem) {stp : (Int32 × Int32) ⊕ (Int32)} (h : J_X12_goTable_134_94 l0 l1 l3 l4 l5 l7 M = some stp) (kC : ∀ (l6 : Int32) (l7 : Int32), stp = .inl (l6, l7) → q_W K 8 Q 0 0 M 94 [some (.ref l0), some (.ref l1), none, some (.int l3), some (.int l4), some (.int l5), some (.int l6), some (.int l7)] []) (kE0 : ∀ (l6 : Int32), stp = .inr l6 → q_W K 8 Q 0 0 M 144 [some (.ref l0), some (.ref l1), none, some (.int l3), some (.int l4), some (.int l5), some (.int l6), none] []) : q_W K 8 Q 0 0 M 134 [some (.ref l0), some (.ref l1), none, some (.int l3), some (.int l4), some (.int l5), none, some (.int l7)] [] := by
  unfold J_X12_goTable_134_94 at h
  refine q_iload C dX12_goTable_134 rfl ?_
  refine q_istore (L' := [some (.ref l0), some (.ref l1), none, some (.int l3), some (.int l4), some (.int l5), some (.int l7), some (.int l7)]) C dX12_goTable_136 (by decide) rfl rfl ?_
  exact q_msk [true, true, false, true, true, true, true, true] (jW_X12_goTable_138_94 C l0 l1 l3 l4 l5 l7 l7 M h kC kE0)
noncomputable def B_X12_goTable_94 (l0 : Nat) (l1 : Nat) (l3 : Int32) (l4 : Int32) (l5 : Int32) (l6 : Int32) (l7 : Int32) (M : q_Mem) : Option ((Int32 × Int32) ⊕ (Int32)) := (q_gI M l0 12 27 (fun v18 => (if l7 < v18 then ((F_X12_has l4 l7 M).bind (fun u19 => (if u19 = 0 then (if l6 = (-1 : Int32) then J_X12_goTable_134_94 l0 l1 l3 l4 l5 l7 M else (q_ob M l0 12 ((F_X12_comes l0 l7 M).bind (fun u20 => (q_ob M l0 12 ((F_X12_comes l0 l6 M).bind (fun u21 => (if u20 < u21 then J_X12_goTable_134_94 l0 l1 l3 l4 l5 l7 M else J_X12_goTable_138_94 l0 l1 l3 l4 l5 l6 l7 M)))))))) else J_X12_goTable_138_94 l0 l1 l3 l4 l5 l6 l7 M))) else some (.inr l6))))
set_option maxRecDepth 100000 in
set_option maxHeartbeats 4000000 in
theorem bW_X12_goTable_94 {K : q_K} {Q : State → Prop} (C : q_C K yX12_goTable cX12_goTable 8 (Option.none : Option Jvm.ClassFile.FieldType) 4 0 0) (l0 : Nat) (l1 : Nat) (l3 : Int32) (l4 : Int32) (l5 : Int32) (l6 : Int32) (l7 : Int32) (M : q_Mem) {stp : (Int32 × Int32) ⊕ (Int32)} (h : B_X12_goTable_94 l0 l1 l3 l4 l5 l6 l7 M = some stp) (kC : ∀ (l6 : Int32) (l7 : Int32), stp = .inl (l6, l7) → q_W K 8 Q 0 0 M 94 [some (.ref l0), some (.ref l1), none, some (.int l3), some (.int l4), some (.int l5), some (.int l6), some (.int l7)] []) (kE0 : ∀ (l6 : Int32), stp = .inr l6 → q_W K 8 Q 0 0 M 144 [some (.ref l0), some (.ref l1), none, some (.int l3), some (.int l4), some (.int l5), some (.int l6), none] []) : q_W K 8 Q 0 0 M 94 [some (.ref l0), some (.ref l1), none, some (.int l3), some (.int l4), some (.int l5), some (.int l6), some (.int l7)] [] := by
  unfold B_X12_goTable_94 at h
  refine q_iload C dX12_goTable_94 rfl ?_
  refine q_aload_n C dX12_goTable_96 rfl ?_
  refine x_getI (ci := 12) (j := 27) C dX12_goTable_97 lkF_X12_287 rfl h (fun v18 h => ?_)
  refine q_icmp_ge (tgt := 144) C dX12_goTable_100 (by decide) h (fun _ h => ?_) (fun _ h => ?_)
  · refine q_iload C dX12_goTable_103 rfl ?_
    refine q_iload C dX12_goTable_105 rfl ?_
    obtain ⟨u19, e1, h⟩ := q_bind h
    refine x_callS0 C dX12_goTable_107 lkM_X12_225 mS_X12_has (c_X12_has _ _ _ _ _ e1) rfl rfl (Nat.le_of_ble_eq_true rfl) (by decide) (by decide) ?_
    refine q_if_ne (tgt := 138) C dX12_goTable_110 (by decide) h (fun _ h => ?_) (fun _ h => ?_)
    · refine q_iload C dX12_goTable_113 rfl ?_
      refine x_iconst (v := (-1 : Int32)) C dX12_goTable_115 (by decide) ?_
      refine q_icmp_eq (tgt := 134) C dX12_goTable_116 (by decide) h (fun _ h => ?_) (fun _ h => ?_)
      · exact q_msk [true, true, false, true, true, true, false, true] (jW_X12_goTable_134_94 C l0 l1 l3 l4 l5 l7 M h kC kE0)
      · refine q_aload_n C dX12_goTable_119 rfl ?_
        refine q_iload C dX12_goTable_120 rfl ?_
        obtain ⟨hk, h⟩ := q_obE h
        obtain ⟨u20, e1, h⟩ := q_bind h
        refine x_callV0 C dX12_goTable_122 lkM_X12_299 mV_X12_comes ⟨_, rfl, rfl⟩ hk (c_X12_comes _ _ _ _ _ e1) rfl rfl (Nat.le_of_ble_eq_true rfl) (by decide) (by decide) ?_
        refine q_aload_n C dX12_goTable_125 rfl ?_
        refine q_iload C dX12_goTable_126 rfl ?_
        obtain ⟨hk, h⟩ := q_obE h
        obtain ⟨u21, e1, h⟩ := q_bind h
        refine x_callV0 C dX12_goTable_128 lkM_X12_299 mV_X12_comes ⟨_, rfl, rfl⟩ hk (c_X12_comes _ _ _ _ _ e1) rfl rfl (Nat.le_of_ble_eq_true rfl) (by decide) (by decide) ?_
        refine q_icmp_ge (tgt := 138) C dX12_goTable_131 (by decide) h (fun _ h => ?_) (fun _ h => ?_)
        · exact q_msk [true, true, false, true, true, true, false, true] (jW_X12_goTable_134_94 C l0 l1 l3 l4 l5 l7 M h kC kE0)
        · exact q_msk [true, true, false, true, true, true, true, true] (jW_X12_goTable_138_94 C l0 l1 l3 l4 l5 l6 l7 M h kC kE0)
    · exact q_msk [true, true, false, true, true, true, true, true] (jW_X12_goTable_138_94 C l0 l1 l3 l4 l5 l6 l7 M h kC kE0)
  · exact q_msk [true, true, false, true, true, true, true, false] (kE0 _ (Option.some.inj h).symm)
set_option maxRecDepth 100000 in
set_option maxHeartbeats 4000000 in
theorem lW_X12_goTable_94 {K : q_K} {Q : State → Prop} (C : q_C K yX12_goTable cX12_goTable 8 (Option.none : Option Jvm.ClassFile.FieldType) 4 0 0) (l0 : Nat) (l1 : Nat) (l3 : Int32) (l4 : Int32) (l5 : Int32) (M : q_Mem) (n : Nat) : ∀ (l6 : Int32) (l7 : Int32) (e : (Int32)), q_lp (fun s => B_X12_goTable_94 l0 l1 l3 l4 l5 s.1 s.2 M) n (l6, l7) = some e → (∀ (l6 : Int32), e = l6 → q_W K 8 Q 0 0 M 144 [some (.ref l0), some (.ref l1), none, some (.int l3), some (.int l4), some (.int l5), some (.int l6), none] []) → q_W K 8 Q 0 0 M 94 [some (.ref l0), some (.ref l1), none, some (.int l3), some (.int l4), some (.int l5), some (.int l6), some (.int l7)] [] := by
  induction n with
  | zero => intro l6 l7 e h; cases h
  | succ n ih =>
    intro l6 l7 e h kE0
    obtain ⟨stp, e1, e2⟩ := q_bind h
    refine bW_X12_goTable_94 C l0 l1 l3 l4 l5 l6 l7 M e1 (fun a0 a1 hs => ?_) (fun b0 hs => ?_)
    · subst hs; exact ih _ _ _ e2 kE0
    · subst hs; exact kE0 _ (Option.some.inj e2).symm
noncomputable def B_X12_goTable_79 (l0 : Nat) (l1 : Nat) (l3 : Int32) (l4 : Int32) (l5 : Int32) (M : q_Mem) : Option ((Int32 × Int32 × Int32 × q_Mem) ⊕ ((Int32 × q_Mem) ⊕ (Int32 × q_Mem))) := (q_gI M l0 12 27 (fun v17 => (if l5 < v17 then (q_lp (fun s => B_X12_goTable_94 l0 l1 l3 l4 l5 s.1 s.2 M) q_fu ((-1 : Int32), (0 : Int32))).bind (fun e22 => match e22 with | w23 => (if w23 = (-1 : Int32) then some (.inr (.inr (l3, M))) else (if l3 = 0 then some (.inr (.inl (l3, M))) else (q_gR M l0 12 36 (fun c24 => q_nn c24 (fun r25 => (q_tI M r25 w23 (1 : Int32) (fun M26 => some (.inl ((l3 + (-1 : Int32)), (l4 ||| ((1 : Int32) <<< (w23 &&& 31))), (l5 + (1 : Int32)), M26)))))))))) else some (.inr (.inr (l3, M))))))
set_option maxRecDepth 100000 in
set_option maxHeartbeats 4000000 in
theorem bW_X12_goTable_79 {K : q_K} {Q : State → Prop} (C : q_C K yX12_goTable cX12_goTable 8 (Option.none : Option Jvm.ClassFile.FieldType) 4 0 0) (l0 : Nat) (l1 : Nat) (l3 : Int32) (l4 : Int32) (l5 : Int32) (M : q_Mem) {stp : (Int32 × Int32 × Int32 × q_Mem) ⊕ ((Int32 × q_Mem) ⊕ (Int32 × q_Mem))} (h : B_X12_goTable_79 l0 l1 l3 l4 l5 M = some stp) (kC : ∀ (l3 : Int32) (l4 : Int32) (l5 : Int32) (M : q_Mem), stp = .inl (l3, l4, l5, M) → q_W K 8 Q 0 0 M 79 [some (.ref l0), some (.ref l1), none, some (.int l3), some (.int l4), some (.int l5), none, none] []) (kE0 : ∀ (l3 : Int32) (M : q_Mem), stp = .inr (.inl (l3, M)) → q_W K 8 Q 0 0 M 154 [some (.ref l0), some (.ref l1), none, some (.int l3), none, none, none, none] []) (kE1 : ∀ (l3 : Int32) (M : q_Mem), stp = .inr (.inr (l3, M)) → q_W K 8 Q 0 0 M 183 [some (.ref l0), some (.ref l1), none, some (.int l3), none, none, none, none] []) : q_W K 8 Q 0 0 M 79 [some (.ref l0), some (.ref l1), none, some (.int l3), some (.int l4), some (.int l5), none, none] [] := by
  unfold B_X12_goTable_79 at h
  refine q_iload C dX12_goTable_79 rfl ?_
  refine q_aload_n C dX12_goTable_81 rfl ?_
  refine x_getI (ci := 12) (j := 27) C dX12_goTable_82 lkF_X12_287 rfl h (fun v17 h => ?_)
  refine q_icmp_ge (tgt := 183) C dX12_goTable_85 (by decide) h (fun _ h => ?_) (fun _ h => ?_)
  · refine x_iconst (v := (-1 : Int32)) C dX12_goTable_88 (by decide) ?_
    refine q_istore (L' := [some (.ref l0), some (.ref l1), none, some (.int l3), some (.int l4), some (.int l5), some (.int (-1 : Int32)), none]) C dX12_goTable_89 (by decide) rfl rfl ?_
    refine x_iconst (v := (0 : Int32)) C dX12_goTable_91 (by decide) ?_
    refine q_istore (L' := [some (.ref l0), some (.ref l1), none, some (.int l3), some (.int l4), some (.int l5), some (.int (-1 : Int32)), some (.int (0 : Int32))]) C dX12_goTable_92 (by decide) rfl rfl ?_
    obtain ⟨e22, he, h⟩ := q_bind h
    refine q_msk [true, true, false, true, true, true, true, true] (lW_X12_goTable_94 C l0 l1 l3 l4 l5 M q_fu _ _ _ he (fun w23 hs => ?_))
    · have hs := hs.symm
      subst hs
      refine q_iload C dX12_goTable_144 rfl ?_
      refine x_iconst (v := (-1 : Int32)) C dX12_goTable_146 (by decide) ?_
      refine q_icmp_eq (tgt := 183) C dX12_goTable_147 (by decide) h (fun _ h => ?_) (fun _ h => ?_)
      · exact q_msk [true, true, false, true, false, false, false, false] (kE1 _ _ (Option.some.inj h).symm)
      · refine q_iload_n C dX12_goTable_150 rfl ?_
        refine q_if_ne (tgt := 157) C dX12_goTable_151 (by decide) h (fun _ h => ?_) (fun _ h => ?_)
        · exact q_msk [true, true, false, true, false, false, false, false] (kE0 _ _ (Option.some.inj h).symm)
        · refine q_iload C dX12_goTable_157 rfl ?_
          refine x_iconst (v := (1 : Int32)) C dX12_goTable_159 (by decide) ?_
          refine q_iload C dX12_goTable_160 rfl ?_
          refine q_ishl C dX12_goTable_162 ?_
          refine q_ior C dX12_goTable_163 ?_
          refine q_istore (L' := [some (.ref l0), some (.ref l1), none, some (.int l3), some (.int (l4 ||| ((1 : Int32) <<< (w23 &&& 31)))), some (.int l5), some (.int w23), none]) C dX12_goTable_164 (by decide) rfl rfl ?_
          refine q_aload_n C dX12_goTable_166 rfl ?_
          refine x_getR (ci := 12) (j := 36) C dX12_goTable_167 lkF_X12_74 rfl h (fun c24 h => ?_)
          refine x_nn h (fun r25 h => ?_)
          refine q_iload C dX12_goTable_170 rfl ?_
          refine x_iconst (v := (1 : Int32)) C dX12_goTable_172 (by decide) ?_
          refine x_iast C dX12_goTable_173 h (fun M26 h => ?_)
          refine x_iinc (w := (-1 : Int32)) (L' := [some (.ref l0), some (.ref l1), none, some (.int (l3 + (-1 : Int32))), some (.int (l4 ||| ((1 : Int32) <<< (w23 &&& 31)))), some (.int l5), some (.int w23), none]) C dX12_goTable_174 rfl (by decide) (by decide) rfl rfl ?_
          refine x_iinc (w := (1 : Int32)) (L' := [some (.ref l0), some (.ref l1), none, some (.int (l3 + (-1 : Int32))), some (.int (l4 ||| ((1 : Int32) <<< (w23 &&& 31)))), some (.int (l5 + (1 : Int32))), some (.int w23), none]) C dX12_goTable_177 rfl (by decide) (by decide) rfl rfl ?_
          refine q_goto (tgt := 79) C dX12_goTable_180 (by decide) ?_
          exact q_msk [true, true, false, true, true, true, false, false] (kC _ _ _ _ (Option.some.inj h).symm)
  · exact q_msk [true, true, false, true, false, false, false, false] (kE1 _ _ (Option.some.inj h).symm)
set_option maxRecDepth 100000 in
set_option maxHeartbeats 4000000 in
theorem lW_X12_goTable_79 {K : q_K} {Q : State → Prop} (C : q_C K yX12_goTable cX12_goTable 8 (Option.none : Option Jvm.ClassFile.FieldType) 4 0 0) (l0 : Nat) (l1 : Nat) (n : Nat) : ∀ (l3 : Int32) (l4 : Int32) (l5 : Int32) (M : q_Mem) (e : ((Int32 × q_Mem) ⊕ (Int32 × q_Mem))), q_lp (fun s => B_X12_goTable_79 l0 l1 s.1 s.2.1 s.2.2.1 s.2.2.2) n (l3, l4, l5, M) = some e → (∀ (l3 : Int32) (M : q_Mem), e = (.inl (l3, M)) → q_W K 8 Q 0 0 M 154 [some (.ref l0), some (.ref l1), none, some (.int l3), none, none, none, none] []) → (∀ (l3 : Int32) (M : q_Mem), e = (.inr (l3, M)) → q_W K 8 Q 0 0 M 183 [some (.ref l0), some (.ref l1), none, some (.int l3), none, none, none, none] []) → q_W K 8 Q 0 0 M 79 [some (.ref l0), some (.ref l1), none, some (.int l3), some (.int l4), some (.int l5), none, none] [] := by
  induction n with
  | zero => intro l3 l4 l5 M e h; cases h
  | succ n ih =>
    intro l3 l4 l5 M e h kE0 kE1
    obtain ⟨stp, e1, e2⟩ := q_bind h
    refine bW_X12_goTable_79 C l0 l1 l3 l4 l5 M e1 (fun a0 a1 a2 a3 hs => ?_) (fun b0 b1 hs => ?_) (fun b0 b1 hs => ?_)
    · subst hs; exact ih _ _ _ _ _ e2 kE0 kE1
    · subst hs; exact kE0 _ _ (Option.some.inj e2).symm
    · subst hs; exact kE1 _ _ (Option.some.inj e2).symm
noncomputable def J_X12_goTable_250_186 (l0 : Nat) (l1 : Nat) (l3 : Int32) (l5 : Int32) (M : q_Mem) : Option ((Int32 × Int32 × q_Mem) ⊕ (Int32 × q_Mem)) := some (.inl (l3, (l5 + (1 : Int32)), M))
set_option maxRecDepth 100000 in
set_option maxHeartbeats 4000000 in
theorem jW_X12_goTable_250_186 {K : q_K} {Q : State → Prop} (C : q_C K yX12_goTable cX12_goTable 8 (Option.none : Option Jvm.ClassFile.FieldType) 4 0 0) (l0 : Nat) (l1 : Nat) (l3 : Int32) (l5 : Int32) (M : q_Mem) {stp : (Int32 × Int32 × q_Mem) ⊕ (Int32 × q_Mem)} (h : J_X12_goTable_250_186 l0 l1 l3 l5 M = some stp) (kC : ∀ (l3 : Int32) (l5 : Int32) (M : q_Mem), stp = .inl (l3, l5, M) → q_W K 8 Q 0 0 M 186 [some (.ref l0), some (.ref l1), none, some (.int l3), none, some (.int l5), none, none] []) (kE0 : ∀ (l3 : Int32) (M : q_Mem), stp = .inr (l3, M) → q_W K 8 Q 0 0 M 256 [some (.ref l0), none, none, some (.int l3), none, none, none, none] []) : q_W K 8 Q 0 0 M 250 [some (.ref l0), some (.ref l1), none, some (.int l3), none, some (.int l5), none, none] [] := by
  unfold J_X12_goTable_250_186 at h
  refine x_iinc (w := (1 : Int32)) (L' := [some (.ref l0), some (.ref l1), none, some (.int l3), none, some (.int (l5 + (1 : Int32))), none, none]) C dX12_goTable_250 rfl (by decide) (by decide) rfl rfl ?_
  refine q_goto (tgt := 186) C dX12_goTable_253 (by decide) ?_
  exact q_msk [true, true, false, true, false, true, false, false] (kC _ _ _ (Option.some.inj h).symm)
noncomputable def B_X12_goTable_186 (l0 : Nat) (l1 : Nat) (l3 : Int32) (l5 : Int32) (M : q_Mem) : Option ((Int32 × Int32 × q_Mem) ⊕ (Int32 × q_Mem)) := (q_gI M l0 12 27 (fun v30 => (if l5 < v30 then (if 0 < l3 then (q_ob M l0 12 ((F_X12_isThere l0 l1 l5 M).bind (fun u31 => (if u31 = 0 then J_X12_goTable_250_186 l0 l1 l3 l5 M else (q_lI M 0 l1 (35 : Int32) (fun v32 => (q_ob M l0 12 ((F_X12_comes l0 l5 M).bind (fun u33 => (q_lI M 0 l1 (((4 : Int32) * l5) + (0 : Int32)) (fun v34 => (if v32 = ((u33 + v34) - (1 : Int32)) then (q_gR M l0 12 36 (fun c35 => q_nn c35 (fun r36 => (q_lI M 0 r36 l5 (fun v37 => (q_tI M r36 l5 (v37 + (1 : Int32)) (fun M38 => J_X12_goTable_250_186 l0 l1 (l3 + (-1 : Int32)) l5 M38))))))) else J_X12_goTable_250_186 l0 l1 l3 l5 M)))))))))))) else some (.inr (l3, M))) else some (.inr (l3, M)))))
set_option maxRecDepth 100000 in
set_option maxHeartbeats 4000000 in
theorem bW_X12_goTable_186 {K : q_K} {Q : State → Prop} (C : q_C K yX12_goTable cX12_goTable 8 (Option.none : Option Jvm.ClassFile.FieldType) 4 0 0) (l0 : Nat) (l1 : Nat) (l3 : Int32) (l5 : Int32) (M : q_Mem) {stp : (Int32 × Int32 × q_Mem) ⊕ (Int32 × q_Mem)} (h : B_X12_goTable_186 l0 l1 l3 l5 M = some stp) (kC : ∀ (l3 : Int32) (l5 : Int32) (M : q_Mem), stp = .inl (l3, l5, M) → q_W K 8 Q 0 0 M 186 [some (.ref l0), some (.ref l1), none, some (.int l3), none, some (.int l5), none, none] []) (kE0 : ∀ (l3 : Int32) (M : q_Mem), stp = .inr (l3, M) → q_W K 8 Q 0 0 M 256 [some (.ref l0), none, none, some (.int l3), none, none, none, none] []) : q_W K 8 Q 0 0 M 186 [some (.ref l0), some (.ref l1), none, some (.int l3), none, some (.int l5), none, none] [] := by
  unfold B_X12_goTable_186 at h
  refine q_iload C dX12_goTable_186 rfl ?_
  refine q_aload_n C dX12_goTable_188 rfl ?_
  refine x_getI (ci := 12) (j := 27) C dX12_goTable_189 lkF_X12_287 rfl h (fun v30 h => ?_)
  refine q_icmp_ge (tgt := 256) C dX12_goTable_192 (by decide) h (fun _ h => ?_) (fun _ h => ?_)
  · refine q_iload_n C dX12_goTable_195 rfl ?_
    refine q_if_le (tgt := 256) C dX12_goTable_196 (by decide) h (fun _ h => ?_) (fun _ h => ?_)
    · refine q_aload_n C dX12_goTable_199 rfl ?_
      refine q_aload_n C dX12_goTable_200 rfl ?_
      refine q_iload C dX12_goTable_201 rfl ?_
      obtain ⟨hk, h⟩ := q_obE h
      obtain ⟨u31, e1, h⟩ := q_bind h
      refine x_callV0 C dX12_goTable_203 lkM_X12_302 mV_X12_isThere ⟨_, rfl, rfl⟩ hk (c_X12_isThere _ _ _ _ _ _ e1) rfl rfl (Nat.le_of_ble_eq_true rfl) (by decide) (by decide) ?_
      refine q_if_eq (tgt := 250) C dX12_goTable_206 (by decide) h (fun _ h => ?_) (fun _ h => ?_)
      · exact q_msk [true, true, false, true, false, true, false, false] (jW_X12_goTable_250_186 C l0 l1 l3 l5 M h kC kE0)
      · refine q_aload_n C dX12_goTable_209 rfl ?_
        refine x_bipush (v := (35 : Int32)) C dX12_goTable_210 (by decide) ?_
        refine x_iald C dX12_goTable_212 h (fun v32 h => ?_)
        refine q_aload_n C dX12_goTable_213 rfl ?_
        refine q_iload C dX12_goTable_214 rfl ?_
        obtain ⟨hk, h⟩ := q_obE h
        obtain ⟨u33, e1, h⟩ := q_bind h
        refine x_callV0 C dX12_goTable_216 lkM_X12_299 mV_X12_comes ⟨_, rfl, rfl⟩ hk (c_X12_comes _ _ _ _ _ e1) rfl rfl (Nat.le_of_ble_eq_true rfl) (by decide) (by decide) ?_
        refine q_aload_n C dX12_goTable_219 rfl ?_
        refine x_iconst (v := (4 : Int32)) C dX12_goTable_220 (by decide) ?_
        refine q_iload C dX12_goTable_221 rfl ?_
        refine q_imul C dX12_goTable_223 ?_
        refine x_iconst (v := (0 : Int32)) C dX12_goTable_224 (by decide) ?_
        refine q_iadd C dX12_goTable_225 ?_
        refine x_iald C dX12_goTable_226 h (fun v34 h => ?_)
        refine q_iadd C dX12_goTable_227 ?_
        refine x_iconst (v := (1 : Int32)) C dX12_goTable_228 (by decide) ?_
        refine q_isub C dX12_goTable_229 ?_
        refine q_icmp_eq (tgt := 236) C dX12_goTable_230 (by decide) h (fun _ h => ?_) (fun _ h => ?_)
        · refine q_aload_n C dX12_goTable_236 rfl ?_
          refine x_getR (ci := 12) (j := 36) C dX12_goTable_237 lkF_X12_74 rfl h (fun c35 h => ?_)
          refine x_nn h (fun r36 h => ?_)
          refine q_iload C dX12_goTable_240 rfl ?_
          refine q_dup2 C dX12_goTable_242 rfl rfl ?_
          refine x_iald C dX12_goTable_243 h (fun v37 h => ?_)
          refine x_iconst (v := (1 : Int32)) C dX12_goTable_244 (by decide) ?_
          refine q_iadd C dX12_goTable_245 ?_
          refine x_iast C dX12_goTable_246 h (fun M38 h => ?_)
          refine x_iinc (w := (-1 : Int32)) (L' := [some (.ref l0), some (.ref l1), none, some (.int (l3 + (-1 : Int32))), none, some (.int l5), none, none]) C dX12_goTable_247 rfl (by decide) (by decide) rfl rfl ?_
          exact q_msk [true, true, false, true, false, true, false, false] (jW_X12_goTable_250_186 C l0 l1 (l3 + (-1 : Int32)) l5 M38 h kC kE0)
        · refine q_goto (tgt := 250) C dX12_goTable_233 (by decide) ?_
          exact q_msk [true, true, false, true, false, true, false, false] (jW_X12_goTable_250_186 C l0 l1 l3 l5 M h kC kE0)
    · exact q_msk [true, false, false, true, false, false, false, false] (kE0 _ _ (Option.some.inj h).symm)
  · exact q_msk [true, false, false, true, false, false, false, false] (kE0 _ _ (Option.some.inj h).symm)
set_option maxRecDepth 100000 in
set_option maxHeartbeats 4000000 in
theorem lW_X12_goTable_186 {K : q_K} {Q : State → Prop} (C : q_C K yX12_goTable cX12_goTable 8 (Option.none : Option Jvm.ClassFile.FieldType) 4 0 0) (l0 : Nat) (l1 : Nat) (n : Nat) : ∀ (l3 : Int32) (l5 : Int32) (M : q_Mem) (e : (Int32 × q_Mem)), q_lp (fun s => B_X12_goTable_186 l0 l1 s.1 s.2.1 s.2.2) n (l3, l5, M) = some e → (∀ (l3 : Int32) (M : q_Mem), e = (l3, M) → q_W K 8 Q 0 0 M 256 [some (.ref l0), none, none, some (.int l3), none, none, none, none] []) → q_W K 8 Q 0 0 M 186 [some (.ref l0), some (.ref l1), none, some (.int l3), none, some (.int l5), none, none] [] := by
  induction n with
  | zero => intro l3 l5 M e h; cases h
  | succ n ih =>
    intro l3 l5 M e h kE0
    obtain ⟨stp, e1, e2⟩ := q_bind h
    refine bW_X12_goTable_186 C l0 l1 l3 l5 M e1 (fun a0 a1 a2 hs => ?_) (fun b0 b1 hs => ?_)
    · subst hs; exact ih _ _ _ _ e2 kE0
    · subst hs; exact kE0 _ _ (Option.some.inj e2).symm
noncomputable def J_X12_goTable_183 (l0 : Nat) (l1 : Nat) (l3 : Int32) (M : q_Mem) : Option (Unit × q_Mem) := (q_lp (fun s => B_X12_goTable_186 l0 l1 s.1 s.2.1 s.2.2) q_fu (l3, (0 : Int32), M)).bind (fun e39 => match e39 with | (w40, M41) => (q_pI M41 l0 12 40 w40 (fun M42 => some ((), M42))))
set_option maxRecDepth 100000 in
set_option maxHeartbeats 4000000 in
theorem jW_X12_goTable_183 {K : q_K} (C : q_C K yX12_goTable cX12_goTable 8 (Option.none : Option Jvm.ClassFile.FieldType) 4 0 0) (l0 : Nat) (l1 : Nat) (l3 : Int32) (M : q_Mem) {r : Unit} {M' : q_Mem} (h : J_X12_goTable_183 l0 l1 l3 M = some (r, M')) : q_W K 8 (q_Q K none M' 0 0) 0 0 M 183 [some (.ref l0), some (.ref l1), none, some (.int l3), none, none, none, none] [] := by
  unfold J_X12_goTable_183 at h
  refine x_iconst (v := (0 : Int32)) C dX12_goTable_183 (by decide) ?_
  refine q_istore (L' := [some (.ref l0), some (.ref l1), none, some (.int l3), none, some (.int (0 : Int32)), none, none]) C dX12_goTable_184 (by decide) rfl rfl ?_
  obtain ⟨e39, he, h⟩ := q_bind h
  refine q_msk [true, true, false, true, false, true, false, false] (lW_X12_goTable_186 C l0 l1 q_fu _ _ _ _ he (fun w40 M41 hs => ?_))
  · have hs := hs.symm
    subst hs
    refine q_aload_n C dX12_goTable_256 rfl ?_
    refine q_iload_n C dX12_goTable_257 rfl ?_
    refine x_putI (ci := 12) (j := 40) C dX12_goTable_258 lkF_X12_338 (fun r hr => by cases hr; rfl) rfl h (fun M42 h => ?_)
    exact q_vret C dX12_goTable_261 rfl (by decide) (by decide) (Option.some.inj h)
noncomputable def F_X12_goTable (l0 : Nat) (l1 : Nat) (M : q_Mem) : Option (Unit × q_Mem) := (q_lI M 0 l1 (35 : Int32) (fun v1 => (q_rmi v1 (4 : Int32) (fun v2 => (q_ob M l0 12 ((F_X12_cooks l0 l1 M).bind (fun u3 => (q_tI M l1 ((24 : Int32) + ((2 : Int32) * v2)) u3 (fun M4 => (q_ob M4 l0 12 ((F_X12_thereBits l0 l1 M4).bind (fun u5 => ((F_J6_bitCount_0f7a4 u5 M4).bind (fun u6 => (q_tI M4 l1 (((24 : Int32) + ((2 : Int32) * v2)) + (1 : Int32)) u6 (fun M7 => (q_ob M7 l0 12 ((F_X12_serves l0 l1 M7).bind (fun x => match x with | (_, M9) => (q_gI M9 l0 12 39 (fun v10 => (q_ob M9 l0 12 ((F_X12_thereBits l0 l1 M9).bind (fun u11 => (q_lp (fun s => B_X12_goTable_55 l0 l1 v10 (u11 ^^^ (-1 : Int32)) s.1 s.2) q_fu ((0 : Int32), M9)).bind (fun e15 => match e15 with | M16 => (q_lp (fun s => B_X12_goTable_79 l0 l1 s.1 s.2.1 s.2.2.1 s.2.2.2) q_fu (v10, (u11 ^^^ (-1 : Int32)), (0 : Int32), M16)).bind (fun e27 => match e27 with | .inl (w28, M29) => J_X12_goTable_183 l0 l1 w28 M29 | .inr (w43, M44) => J_X12_goTable_183 l0 l1 w43 M44))))))))))))))))))))))))))
set_option maxRecDepth 100000 in
set_option maxHeartbeats 4000000 in
theorem c_X12_goTable (l : Launch) (G : q_G) (l0 : Nat) (l1 : Nat) (M : q_Mem) {r : Unit} {M' : q_Mem} (h : F_X12_goTable l0 l1 M = some (r, M')) : q_Met l G yX12_goTable cX12_goTable 8 (Option.none : Option Jvm.ClassFile.FieldType) 4 0 0 [.ref l0, .ref l1] M none M' := by
  unfold F_X12_goTable at h
  refine q_enter [some (.ref l0), some (.ref l1), none, none, none, none, none, none] (by decide) (Nat.le_of_ble_eq_true rfl) rfl (fun K C => ?_)
  refine x_bipush (v := (24 : Int32)) C dX12_goTable_0 (by decide) ?_
  refine x_iconst (v := (2 : Int32)) C dX12_goTable_2 (by decide) ?_
  refine q_aload_n C dX12_goTable_3 rfl ?_
  refine x_bipush (v := (35 : Int32)) C dX12_goTable_4 (by decide) ?_
  refine x_iald C dX12_goTable_6 h (fun v1 h => ?_)
  refine x_iconst (v := (4 : Int32)) C dX12_goTable_7 (by decide) ?_
  refine q_irem C dX12_goTable_8 h (fun v2 h => ?_)
  refine q_imul C dX12_goTable_9 ?_
  refine q_iadd C dX12_goTable_10 ?_
  refine q_istore_n (L' := [some (.ref l0), some (.ref l1), some (.int ((24 : Int32) + ((2 : Int32) * v2))), none, none, none, none, none]) C dX12_goTable_11 (by decide) rfl rfl ?_
  refine q_aload_n C dX12_goTable_12 rfl ?_
  refine q_iload_n C dX12_goTable_13 rfl ?_
  refine q_aload_n C dX12_goTable_14 rfl ?_
  refine q_aload_n C dX12_goTable_15 rfl ?_
  obtain ⟨hk, h⟩ := q_obE h
  obtain ⟨u3, e1, h⟩ := q_bind h
  refine x_callV0 C dX12_goTable_16 lkM_X12_322 mV_X12_cooks ⟨_, rfl, rfl⟩ hk (c_X12_cooks _ _ _ _ _ e1) rfl rfl (Nat.le_of_ble_eq_true rfl) (by decide) (by decide) ?_
  refine x_iast C dX12_goTable_19 h (fun M4 h => ?_)
  refine q_aload_n C dX12_goTable_20 rfl ?_
  refine q_iload_n C dX12_goTable_21 rfl ?_
  refine x_iconst (v := (1 : Int32)) C dX12_goTable_22 (by decide) ?_
  refine q_iadd C dX12_goTable_23 ?_
  refine q_aload_n C dX12_goTable_24 rfl ?_
  refine q_aload_n C dX12_goTable_25 rfl ?_
  obtain ⟨hk, h⟩ := q_obE h
  obtain ⟨u5, e1, h⟩ := q_bind h
  refine x_callV0 C dX12_goTable_26 lkM_X12_326 mV_X12_thereBits ⟨_, rfl, rfl⟩ hk (c_X12_thereBits _ _ _ _ _ e1) rfl rfl (Nat.le_of_ble_eq_true rfl) (by decide) (by decide) ?_
  obtain ⟨u6, e1, h⟩ := q_bind h
  refine x_callS0 C dX12_goTable_29 lkM_X12_329 mS_J6_bitCount_0f7a4 (c_J6_bitCount_0f7a4 _ _ _ _ e1) rfl rfl (Nat.le_of_ble_eq_true rfl) (by decide) (by decide) ?_
  refine x_iast C dX12_goTable_32 h (fun M7 h => ?_)
  refine q_aload_n C dX12_goTable_33 rfl ?_
  refine q_aload_n C dX12_goTable_34 rfl ?_
  obtain ⟨hk, h⟩ := q_obE h
  obtain ⟨⟨_, M9⟩, e1, h⟩ := q_bind h
  refine x_callVv0 C dX12_goTable_35 lkM_X12_334 mV_X12_serves ⟨_, rfl, rfl⟩ hk (c_X12_serves _ _ _ _ _ e1) rfl rfl (Nat.le_of_ble_eq_true rfl) (by decide) (by decide) ?_
  refine q_aload_n C dX12_goTable_38 rfl ?_
  refine x_getI (ci := 12) (j := 39) C dX12_goTable_39 lkF_X12_316 rfl h (fun v10 h => ?_)
  refine q_istore_n (L' := [some (.ref l0), some (.ref l1), some (.int ((24 : Int32) + ((2 : Int32) * v2))), some (.int v10), none, none, none, none]) C dX12_goTable_42 (by decide) rfl rfl ?_
  refine q_aload_n C dX12_goTable_43 rfl ?_
  refine q_aload_n C dX12_goTable_44 rfl ?_
  obtain ⟨hk, h⟩ := q_obE h
  obtain ⟨u11, e1, h⟩ := q_bind h
  refine x_callV0 C dX12_goTable_45 lkM_X12_326 mV_X12_thereBits ⟨_, rfl, rfl⟩ hk (c_X12_thereBits _ _ _ _ _ e1) rfl rfl (Nat.le_of_ble_eq_true rfl) (by decide) (by decide) ?_
  refine x_iconst (v := (-1 : Int32)) C dX12_goTable_48 (by decide) ?_
  refine q_ixor C dX12_goTable_49 ?_
  refine q_istore (L' := [some (.ref l0), some (.ref l1), some (.int ((24 : Int32) + ((2 : Int32) * v2))), some (.int v10), some (.int (u11 ^^^ (-1 : Int32))), none, none, none]) C dX12_goTable_50 (by decide) rfl rfl ?_
  refine x_iconst (v := (0 : Int32)) C dX12_goTable_52 (by decide) ?_
  refine q_istore (L' := [some (.ref l0), some (.ref l1), some (.int ((24 : Int32) + ((2 : Int32) * v2))), some (.int v10), some (.int (u11 ^^^ (-1 : Int32))), some (.int (0 : Int32)), none, none]) C dX12_goTable_53 (by decide) rfl rfl ?_
  obtain ⟨e15, he, h⟩ := q_bind h
  refine q_msk [true, true, false, true, true, true, false, false] (lW_X12_goTable_55 C l0 l1 v10 (u11 ^^^ (-1 : Int32)) q_fu _ _ _ he (fun M16 hs => ?_))
  · have hs := hs.symm
    subst hs
    refine x_iconst (v := (0 : Int32)) C dX12_goTable_76 (by decide) ?_
    refine q_istore (L' := [some (.ref l0), some (.ref l1), none, some (.int v10), some (.int (u11 ^^^ (-1 : Int32))), some (.int (0 : Int32)), none, none]) C dX12_goTable_77 (by decide) rfl rfl ?_
    obtain ⟨e27, he, h⟩ := q_bind h
    refine q_msk [true, true, false, true, true, true, false, false] (lW_X12_goTable_79 C l0 l1 q_fu _ _ _ _ _ he (fun w28 M29 hs => ?_) (fun w43 M44 hs => ?_))
    · have hs := hs.symm
      subst hs
      refine q_goto (tgt := 183) C dX12_goTable_154 (by decide) ?_
      exact q_msk [true, true, false, true, false, false, false, false] (jW_X12_goTable_183 C l0 l1 w28 M29 h)
    · have hs := hs.symm
      subst hs
      exact q_msk [true, true, false, true, false, false, false, false] (jW_X12_goTable_183 C l0 l1 w43 M44 h)
