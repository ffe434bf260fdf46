noncomputable def F_X0_init (l0 : Nat) (l1 : Nat) (l2 : Nat) (M : q_Mem) : Option (Unit × q_Mem) := (q_pR M l0 0 0 (l1 + 1) (fun M1 => (q_pR M1 l0 0 1 (l2 + 1) (fun M2 => some ((), M2)))))
set_option maxRecDepth 100000 in
set_option maxHeartbeats 4000000 in
theorem c_X0_init (l : Launch) (G : q_G) (l0 : Nat) (l1 : Nat) (l2 : Nat) (M : q_Mem) {r : Unit} {M' : q_Mem} (h : F_X0_init l0 l1 l2 M = some (r, M')) : q_Met l G yX0_init cX0_init 3 (Option.none : Option Jvm.ClassFile.FieldType) 2 0 0 [.ref l0, .ref l1, .ref l2] M none M' := by
  unfold F_X0_init at h
  refine q_enter [some (.ref l0), some (.ref l1), some (.ref l2)] (by decide) (Nat.le_of_ble_eq_true rfl) rfl (fun K C => ?_)
  refine q_aload_n C dX0_init_0 rfl ?_
  refine q_objI C dX0_init_1 wd_234 wd_33 wd_34 (by decide) (Nat.le_of_ble_eq_true rfl) ?_
  refine q_aload_n C dX0_init_4 rfl ?_
  refine q_aload_n C dX0_init_5 rfl ?_
  refine x_putR (ci := 0) (j := 0) (l1 + 1) C dX0_init_6 lkF_X0_9 (fun r hr => by cases hr; exact Or.inr ⟨rfl, rfl, wd_235⟩) (Or.inl ⟨_, rfl⟩) rfl h (fun M1 h => ?_)
  refine q_aload_n C dX0_init_9 rfl ?_
  refine q_aload_n C dX0_init_10 rfl ?_
  refine x_putR (ci := 0) (j := 1) (l2 + 1) C dX0_init_11 lkF_X0_15 (fun r hr => by cases hr; exact Or.inr ⟨rfl, rfl, wd_236⟩) (Or.inl ⟨_, rfl⟩) rfl h (fun M2 h => ?_)
  exact q_vret C dX0_init_14 rfl (by decide) (by decide) (Option.some.inj h)
noncomputable def F_X3_ofGuest (l0 : Nat) (l1 : Int32) (l2 : Int32) (M : q_Mem) : Option (Int32) := (if ((l1 * (4 : Int32)) + l2) < 0 then some (0 : Int32) else (q_gR M l0 3 2 (fun c1 => q_nn c1 (fun r2 => (q_al M r2 (fun v3 => (if ((l1 * (4 : Int32)) + l2) < v3 then (q_gR M l0 3 2 (fun c4 => q_nn c4 (fun r5 => (q_lI M 0 r5 ((l1 * (4 : Int32)) + l2) (fun v6 => some v6))))) else some (0 : Int32))))))))
set_option maxRecDepth 100000 in
set_option maxHeartbeats 4000000 in
theorem c_X3_ofGuest (l : Launch) (G : q_G) (l0 : Nat) (l1 : Int32) (l2 : Int32) (M : q_Mem) {r : Int32} (h : F_X3_ofGuest l0 l1 l2 M = some r) : q_Met l G yX3_ofGuest cX3_ofGuest 4 (Option.some Jvm.ClassFile.FieldType.int) 1 0 0 [.ref l0, .int l1, .int l2] M (some (.int r)) M := by
  unfold F_X3_ofGuest at h
  refine q_enter [some (.ref l0), some (.int l1), some (.int l2), none] (by decide) (Nat.le_of_ble_eq_true rfl) rfl (fun K C => ?_)
  refine q_iload_n C dX3_ofGuest_0 rfl ?_
  refine x_iconst (v := (4 : Int32)) C dX3_ofGuest_1 (by decide) ?_
  refine q_imul C dX3_ofGuest_2 ?_
  refine q_iload_n C dX3_ofGuest_3 rfl ?_
  refine q_iadd C dX3_ofGuest_4 ?_
  refine q_istore_n (L' := [some (.ref l0), some (.int l1), some (.int l2), some (.int ((l1 * (4 : Int32)) + l2))]) C dX3_ofGuest_5 (by decide) rfl rfl ?_
  refine q_iload_n C dX3_ofGuest_6 rfl ?_
  refine q_if_lt (tgt := 28) C dX3_ofGuest_7 (by decide) h (fun _ h => ?_) (fun _ h => ?_)
  · refine x_iconst (v := (0 : Int32)) C dX3_ofGuest_28 (by decide) ?_
    exact q_iret (res := (r, M)) C dX3_ofGuest_29 rfl (by decide) (by decide) (congrArg (fun z => (z, M)) (Option.some.inj h))
  · refine q_iload_n C dX3_ofGuest_10 rfl ?_
    refine q_aload_n C dX3_ofGuest_11 rfl ?_
    refine x_getR (ci := 3) (j := 2) C dX3_ofGuest_12 lkF_X3_18 rfl h (fun c1 h => ?_)
    refine x_nn h (fun r2 h => ?_)
    refine x_alen C dX3_ofGuest_15 h (fun v3 h => ?_)
    refine q_icmp_ge (tgt := 28) C dX3_ofGuest_16 (by decide) h (fun _ h => ?_) (fun _ h => ?_)
    · refine q_aload_n C dX3_ofGuest_19 rfl ?_
      refine x_getR (ci := 3) (j := 2) C dX3_ofGuest_20 lkF_X3_18 rfl h (fun c4 h => ?_)
      refine x_nn h (fun r5 h => ?_)
      refine q_iload_n C dX3_ofGuest_23 rfl ?_
      refine x_iald C dX3_ofGuest_24 h (fun v6 h => ?_)
      refine q_goto (tgt := 29) C dX3_ofGuest_25 (by decide) ?_
      exact q_iret (res := (r, M)) C dX3_ofGuest_29 rfl (by decide) (by decide) (congrArg (fun z => (z, M)) (Option.some.inj h))
    · refine x_iconst (v := (0 : Int32)) C dX3_ofGuest_28 (by decide) ?_
      exact q_iret (res := (r, M)) C dX3_ofGuest_29 rfl (by decide) (by decide) (congrArg (fun z => (z, M)) (Option.some.inj h))
noncomputable def F_X8_hasLeft (l0 : Nat) (l1 : Int32) (M : q_Mem) : Option (Int32) := (q_gR M l0 8 0 (fun c1 => q_nn c1 (fun r2 => (q_lI M 0 r2 (4 : Int32) (fun v3 => (if ((v3 >>> (l1 &&& 31)) &&& (1 : Int32)) = 0 then q_rq (0 : Int32) else q_rq (1 : Int32)))))))
set_option maxRecDepth 100000 in
set_option maxHeartbeats 4000000 in
theorem c_X8_hasLeft (l : Launch) (G : q_G) (l0 : Nat) (l1 : Int32) (M : q_Mem) {r : Int32} (h : F_X8_hasLeft l0 l1 M = some r) : q_Met l G yX8_hasLeft cX8_hasLeft 2 (Option.some Jvm.ClassFile.FieldType.boolean) 1 0 0 [.ref l0, .int l1] M (some (.int r)) M := by
  unfold F_X8_hasLeft at h
  refine q_enter [some (.ref l0), some (.int l1)] (by decide) (Nat.le_of_ble_eq_true rfl) rfl (fun K C => ?_)
  refine q_aload_n C dX8_hasLeft_0 rfl ?_
  refine x_getR (ci := 8) (j := 0) C dX8_hasLeft_1 lkF_X8_9 rfl h (fun c1 h => ?_)
  refine x_nn h (fun r2 h => ?_)
  refine x_iconst (v := (4 : Int32)) C dX8_hasLeft_4 (by decide) ?_
  refine x_iald C dX8_hasLeft_5 h (fun v3 h => ?_)
  refine q_iload_n C dX8_hasLeft_6 rfl ?_
  refine q_ishr C dX8_hasLeft_7 ?_
  refine x_iconst (v := (1 : Int32)) C dX8_hasLeft_8 (by decide) ?_
  refine q_iand C dX8_hasLeft_9 ?_
  refine q_if_eq (tgt := 17) C dX8_hasLeft_10 (by decide) h (fun _ h => ?_) (fun _ h => ?_)
  · refine x_iconst (v := (0 : Int32)) C dX8_hasLeft_17 (by decide) ?_
    exact q_zret (res := (r, M)) C dX8_hasLeft_18 rfl (by decide) (by decide) (q_rqE h).1 (congrArg (fun z => (z, M)) (q_rqE h).2)
  · refine x_iconst (v := (1 : Int32)) C dX8_hasLeft_13 (by decide) ?_
    refine q_goto (tgt := 18) C dX8_hasLeft_14 (by decide) ?_
    exact q_zret (res := (r, M)) C dX8_hasLeft_18 rfl (by decide) (by decide) (q_rqE h).1 (congrArg (fun z => (z, M)) (q_rqE h).2)
noncomputable def F_X1_isThere (l0 : Nat) (l1 : Nat) (l2 : Int32) (M : q_Mem) : Option (Int32) := (q_gR M l1 8 0 (fun c1 => q_nn c1 (fun r2 => (q_lI M 0 r2 (0 : Int32) (fun v3 => (q_gR M l0 1 0 (fun c4 => q_nn c4 (fun r5 => (q_ob M r5 3 ((F_X3_ofGuest r5 l2 (0 : Int32) M).bind (fun u6 => (if (v3 - u6) < 0 then q_rq (0 : Int32) else (q_gR M l1 8 0 (fun c7 => q_nn c7 (fun r8 => (q_lI M 0 r8 ((13 : Int32) + l2) (fun v9 => (if (v3 - u6) < v9 then (q_ob M l1 8 ((F_X8_hasLeft l1 l2 M).bind (fun u10 => (if u10 = 0 then q_rq (1 : Int32) else q_rq (0 : Int32))))) else q_rq (0 : Int32)))))))))))))))))))
set_option maxRecDepth 100000 in
set_option maxHeartbeats 4000000 in
theorem c_X1_isThere (l : Launch) (G : q_G) (l0 : Nat) (l1 : Nat) (l2 : Int32) (M : q_Mem) {r : Int32} (h : F_X1_isThere l0 l1 l2 M = some r) : q_Met l G yX1_isThere cX1_isThere 4 (Option.some Jvm.ClassFile.FieldType.boolean) 2 0 0 [.ref l0, .ref l1, .int l2] M (some (.int r)) M := by
  unfold F_X1_isThere at h
  refine q_enter [some (.ref l0), some (.ref l1), some (.int l2), none] (by decide) (Nat.le_of_ble_eq_true rfl) rfl (fun K C => ?_)
  refine q_aload_n C dX1_isThere_0 rfl ?_
  refine x_getR (ci := 8) (j := 0) C dX1_isThere_1 lkF_X1_51 rfl h (fun c1 h => ?_)
  refine x_nn h (fun r2 h => ?_)
  refine x_iconst (v := (0 : Int32)) C dX1_isThere_4 (by decide) ?_
  refine x_iald C dX1_isThere_5 h (fun v3 h => ?_)
  refine q_aload_n C dX1_isThere_6 rfl ?_
  refine x_getR (ci := 1) (j := 0) C dX1_isThere_7 lkF_X1_47 rfl h (fun c4 h => ?_)
  refine x_nn h (fun r5 h => ?_)
  refine q_iload_n C dX1_isThere_10 rfl ?_
  refine x_iconst (v := (0 : Int32)) C dX1_isThere_11 (by decide) ?_
  obtain ⟨hk, h⟩ := q_obE h
  obtain ⟨u6, e1, h⟩ := q_bind h
  refine x_callV0 C dX1_isThere_12 lkM_X1_56 mV_X3_ofGuest ⟨_, rfl, rfl⟩ hk (c_X3_ofGuest _ _ _ _ _ _ e1) rfl rfl (Nat.le_of_ble_eq_true rfl) (by decide) (by decide) ?_
  refine q_isub C dX1_isThere_15 ?_
  refine q_istore_n (L' := [some (.ref l0), some (.ref l1), some (.int l2), some (.int (v3 - u6))]) C dX1_isThere_16 (by decide) rfl rfl ?_
  refine q_iload_n C dX1_isThere_17 rfl ?_
  refine q_if_lt (tgt := 46) C dX1_isThere_18 (by decide) h (fun _ h => ?_) (fun _ h => ?_)
  · refine x_iconst (v := (0 : Int32)) C dX1_isThere_46 (by decide) ?_
    exact q_zret (res := (r, M)) C dX1_isThere_47 rfl (by decide) (by decide) (q_rqE h).1 (congrArg (fun z => (z, M)) (q_rqE h).2)
  · refine q_iload_n C dX1_isThere_21 rfl ?_
    refine q_aload_n C dX1_isThere_22 rfl ?_
    refine x_getR (ci := 8) (j := 0) C dX1_isThere_23 lkF_X1_51 rfl h (fun c7 h => ?_)
    refine x_nn h (fun r8 h => ?_)
    refine x_bipush (v := (13 : Int32)) C dX1_isThere_26 (by decide) ?_
    refine q_iload_n C dX1_isThere_28 rfl ?_
    refine q_iadd C dX1_isThere_29 ?_
    refine x_iald C dX1_isThere_30 h (fun v9 h => ?_)
    refine q_icmp_ge (tgt := 46) C dX1_isThere_31 (by decide) h (fun _ h => ?_) (fun _ h => ?_)
    · refine q_aload_n C dX1_isThere_34 rfl ?_
      refine q_iload_n C dX1_isThere_35 rfl ?_
      obtain ⟨hk, h⟩ := q_obE h
      obtain ⟨u10, e1, h⟩ := q_bind h
      refine x_callV0 C dX1_isThere_36 lkM_X1_62 mV_X8_hasLeft ⟨_, rfl, rfl⟩ hk (c_X8_hasLeft _ _ _ _ _ e1) rfl rfl (Nat.le_of_ble_eq_true rfl) (by decide) (by decide) ?_
      refine q_if_ne (tgt := 46) C dX1_isThere_39 (by decide) h (fun _ h => ?_) (fun _ h => ?_)
      · refine x_iconst (v := (1 : Int32)) C dX1_isThere_42 (by decide) ?_
        refine q_goto (tgt := 47) C dX1_isThere_43 (by decide) ?_
        exact q_zret (res := (r, M)) C dX1_isThere_47 rfl (by decide) (by decide) (q_rqE h).1 (congrArg (fun z => (z, M)) (q_rqE h).2)
      · refine x_iconst (v := (0 : Int32)) C dX1_isThere_46 (by decide) ?_
        exact q_zret (res := (r, M)) C dX1_isThere_47 rfl (by decide) (by decide) (q_rqE h).1 (congrArg (fun z => (z, M)) (q_rqE h).2)
    · refine x_iconst (v := (0 : Int32)) C dX1_isThere_46 (by decide) ?_
      exact q_zret (res := (r, M)) C dX1_isThere_47 rfl (by decide) (by decide) (q_rqE h).1 (congrArg (fun z => (z, M)) (q_rqE h).2)
noncomputable def F_X3_dishByDay (l0 : Nat) (l1 : Int32) (M : q_Mem) : Option (Int32) := (q_gI M l0 3 4 (fun v1 => (if 0 < v1 then (q_gI M l0 3 4 (fun v2 => (q_rmi l1 v2 (fun v3 => some v3)))) else some (-1 : Int32))))
set_option maxRecDepth 100000 in
set_option maxHeartbeats 4000000 in
theorem c_X3_dishByDay (l : Launch) (G : q_G) (l0 : Nat) (l1 : Int32) (M : q_Mem) {r : Int32} (h : F_X3_dishByDay l0 l1 M = some r) : q_Met l G yX3_dishByDay cX3_dishByDay 2 (Option.some Jvm.ClassFile.FieldType.int) 1 0 0 [.ref l0, .int l1] M (some (.int r)) M := by
  unfold F_X3_dishByDay at h
  refine q_enter [some (.ref l0), some (.int l1)] (by decide) (Nat.le_of_ble_eq_true rfl) rfl (fun K C => ?_)
  refine q_aload_n C dX3_dishByDay_0 rfl ?_
  refine x_getI (ci := 3) (j := 4) C dX3_dishByDay_1 lkF_X3_24 rfl h (fun v1 h => ?_)
  refine q_if_le (tgt := 16) C dX3_dishByDay_4 (by decide) h (fun _ h => ?_) (fun _ h => ?_)
  · refine q_iload_n C dX3_dishByDay_7 rfl ?_
    refine q_aload_n C dX3_dishByDay_8 rfl ?_
    refine x_getI (ci := 3) (j := 4) C dX3_dishByDay_9 lkF_X3_24 rfl h (fun v2 h => ?_)
    refine q_irem C dX3_dishByDay_12 h (fun v3 h => ?_)
    refine q_goto (tgt := 17) C dX3_dishByDay_13 (by decide) ?_
    exact q_iret (res := (r, M)) C dX3_dishByDay_17 rfl (by decide) (by decide) (congrArg (fun z => (z, M)) (Option.some.inj h))
  · refine x_iconst (v := (-1 : Int32)) C dX3_dishByDay_16 (by decide) ?_
    exact q_iret (res := (r, M)) C dX3_dishByDay_17 rfl (by decide) (by decide) (congrArg (fun z => (z, M)) (Option.some.inj h))
noncomputable def F_J6_bitCount_0f7a4 (l0 : Int32) (M : q_Mem) : Option (Int32) := some ((((((((l0 - ((l0.toUInt32 >>> ((1 : Int32).toUInt32 &&& Int32.toUInt32 31)).toInt32 &&& (1431655765 : Int32))) &&& (858993459 : Int32)) + (((l0 - ((l0.toUInt32 >>> ((1 : Int32).toUInt32 &&& Int32.toUInt32 31)).toInt32 &&& (1431655765 : Int32))).toUInt32 >>> ((2 : Int32).toUInt32 &&& Int32.toUInt32 31)).toInt32 &&& (858993459 : Int32))) + ((((l0 - ((l0.toUInt32 >>> ((1 : Int32).toUInt32 &&& Int32.toUInt32 31)).toInt32 &&& (1431655765 : Int32))) &&& (858993459 : Int32)) + (((l0 - ((l0.toUInt32 >>> ((1 : Int32).toUInt32 &&& Int32.toUInt32 31)).toInt32 &&& (1431655765 : Int32))).toUInt32 >>> ((2 : Int32).toUInt32 &&& Int32.toUInt32 31)).toInt32 &&& (858993459 : Int32))).toUInt32 >>> ((4 : Int32).toUInt32 &&& Int32.toUInt32 31)).toInt32) &&& (252645135 : Int32)) + ((((((l0 - ((l0.toUInt32 >>> ((1 : Int32).toUInt32 &&& Int32.toUInt32 31)).toInt32 &&& (1431655765 : Int32))) &&& (858993459 : Int32)) + (((l0 - ((l0.toUInt32 >>> ((1 : Int32).toUInt32 &&& Int32.toUInt32 31)).toInt32 &&& (1431655765 : Int32))).toUInt32 >>> ((2 : Int32).toUInt32 &&& Int32.toUInt32 31)).toInt32 &&& (858993459 : Int32))) + ((((l0 - ((l0.toUInt32 >>> ((1 : Int32).toUInt32 &&& Int32.toUInt32 31)).toInt32 &&& (1431655765 : Int32))) &&& (858993459 : Int32)) + (((l0 - ((l0.toUInt32 >>> ((1 : Int32).toUInt32 &&& Int32.toUInt32 31)).toInt32 &&& (1431655765 : Int32))).toUInt32 >>> ((2 : Int32).toUInt32 &&& Int32.toUInt32 31)).toInt32 &&& (858993459 : Int32))).toUInt32 >>> ((4 : Int32).toUInt32 &&& Int32.toUInt32 31)).toInt32) &&& (252645135 : Int32)).toUInt32 >>> ((8 : Int32).toUInt32 &&& Int32.toUInt32 31)).toInt32) + (((((((l0 - ((l0.toUInt32 >>> ((1 : Int32).toUInt32 &&& Int32.toUInt32 31)).toInt32 &&& (1431655765 : Int32))) &&& (858993459 : Int32)) + (((l0 - ((l0.toUInt32 >>> ((1 : Int32).toUInt32 &&& Int32.toUInt32 31)).toInt32 &&& (1431655765 : Int32))).toUInt32 >>> ((2 : Int32).toUInt32 &&& Int32.toUInt32 31)).toInt32 &&& (858993459 : Int32))) + ((((l0 - ((l0.toUInt32 >>> ((1 : Int32).toUInt32 &&& Int32.toUInt32 31)).toInt32 &&& (1431655765 : Int32))) &&& (858993459 : Int32)) + (((l0 - ((l0.toUInt32 >>> ((1 : Int32).toUInt32 &&& Int32.toUInt32 31)).toInt32 &&& (1431655765 : Int32))).toUInt32 >>> ((2 : Int32).toUInt32 &&& Int32.toUInt32 31)).toInt32 &&& (858993459 : Int32))).toUInt32 >>> ((4 : Int32).toUInt32 &&& Int32.toUInt32 31)).toInt32) &&& (252645135 : Int32)) + ((((((l0 - ((l0.toUInt32 >>> ((1 : Int32).toUInt32 &&& Int32.toUInt32 31)).toInt32 &&& (1431655765 : Int32))) &&& (858993459 : Int32)) + (((l0 - ((l0.toUInt32 >>> ((1 : Int32).toUInt32 &&& Int32.toUInt32 31)).toInt32 &&& (1431655765 : Int32))).toUInt32 >>> ((2 : Int32).toUInt32 &&& Int32.toUInt32 31)).toInt32 &&& (858993459 : Int32))) + ((((l0 - ((l0.toUInt32 >>> ((1 : Int32).toUInt32 &&& Int32.toUInt32 31)).toInt32 &&& (1431655765 : Int32))) &&& (858993459 : Int32)) + (((l0 - ((l0.toUInt32 >>> ((1 : Int32).toUInt32 &&& Int32.toUInt32 31)).toInt32 &&& (1431655765 : Int32))).toUInt32 >>> ((2 : Int32).toUInt32 &&& Int32.toUInt32 31)).toInt32 &&& (858993459 : Int32))).toUInt32 >>> ((4 : Int32).toUInt32 &&& Int32.toUInt32 31)).toInt32) &&& (252645135 : Int32)).toUInt32 >>> ((8 : Int32).toUInt32 &&& Int32.toUInt32 31)).toInt32).toUInt32 >>> ((16 : Int32).toUInt32 &&& Int32.toUInt32 31)).toInt32) &&& (63 : Int32))
set_option maxRecDepth 100000 in
set_option maxHeartbeats 4000000 in
theorem c_J6_bitCount_0f7a4 (l : Launch) (G : q_G) (l0 : Int32) (M : q_Mem) {r : Int32} (h : F_J6_bitCount_0f7a4 l0 M = some r) : q_Met l G yJ6_bitCount_0f7a4 cJ6_bitCount_0f7a4 1 (Option.some Jvm.ClassFile.FieldType.int) 1 0 0 [.int l0] M (some (.int r)) M := by
  unfold F_J6_bitCount_0f7a4 at h
  refine q_enter [some (.int l0)] (by decide) (Nat.le_of_ble_eq_true rfl) rfl (fun K C => ?_)
  refine q_iload_n C dJ6_bitCount_0f7a4_0 rfl ?_
  refine q_iload_n C dJ6_bitCount_0f7a4_1 rfl ?_
  refine x_iconst (v := (1 : Int32)) C dJ6_bitCount_0f7a4_2 (by decide) ?_
  refine q_iushr C dJ6_bitCount_0f7a4_3 ?_
  refine q_ldcw (v := (1431655765 : Int32)) C dJ6_bitCount_0f7a4_4 wd_740 ?_
  refine q_iand C dJ6_bitCount_0f7a4_7 ?_
  refine q_isub C dJ6_bitCount_0f7a4_8 ?_
  refine q_istore_n (L' := [some (.int (l0 - ((l0.toUInt32 >>> ((1 : Int32).toUInt32 &&& Int32.toUInt32 31)).toInt32 &&& (1431655765 : Int32))))]) C dJ6_bitCount_0f7a4_9 (by decide) rfl rfl ?_
  refine q_iload_n C dJ6_bitCount_0f7a4_10 rfl ?_
  refine q_ldcw (v := (858993459 : Int32)) C dJ6_bitCount_0f7a4_11 wd_741 ?_
  refine q_iand C dJ6_bitCount_0f7a4_14 ?_
  refine q_iload_n C dJ6_bitCount_0f7a4_15 rfl ?_
  refine x_iconst (v := (2 : Int32)) C dJ6_bitCount_0f7a4_16 (by decide) ?_
  refine q_iushr C dJ6_bitCount_0f7a4_17 ?_
  refine q_ldcw (v := (858993459 : Int32)) C dJ6_bitCount_0f7a4_18 wd_741 ?_
  refine q_iand C dJ6_bitCount_0f7a4_21 ?_
  refine q_iadd C dJ6_bitCount_0f7a4_22 ?_
  refine q_istore_n (L' := [some (.int (((l0 - ((l0.toUInt32 >>> ((1 : Int32).toUInt32 &&& Int32.toUInt32 31)).toInt32 &&& (1431655765 : Int32))) &&& (858993459 : Int32)) + (((l0 - ((l0.toUInt32 >>> ((1 : Int32).toUInt32 &&& Int32.toUInt32 31)).toInt32 &&& (1431655765 : Int32))).toUInt32 >>> ((2 : Int32).toUInt32 &&& Int32.toUInt32 31)).toInt32 &&& (858993459 : Int32))))]) C dJ6_bitCount_0f7a4_23 (by decide) rfl rfl ?_
  refine q_iload_n C dJ6_bitCount_0f7a4_24 rfl ?_
  refine q_iload_n C dJ6_bitCount_0f7a4_25 rfl ?_
  refine x_iconst (v := (4 : Int32)) C dJ6_bitCount_0f7a4_26 (by decide) ?_
  refine q_iushr C dJ6_bitCount_0f7a4_27 ?_
  refine q_iadd C dJ6_bitCount_0f7a4_28 ?_
  refine q_ldcw (v := (252645135 : Int32)) C dJ6_bitCount_0f7a4_29 wd_742 ?_
  refine q_iand C dJ6_bitCount_0f7a4_32 ?_
  refine q_istore_n (L' := [some (.int (((((l0 - ((l0.toUInt32 >>> ((1 : Int32).toUInt32 &&& Int32.toUInt32 31)).toInt32 &&& (1431655765 : Int32))) &&& (858993459 : Int32)) + (((l0 - ((l0.toUInt32 >>> ((1 : Int32).toUInt32 &&& Int32.toUInt32 31)).toInt32 &&& (1431655765 : Int32))).toUInt32 >>> ((2 : Int32).toUInt32 &&& Int32.toUInt32 31)).toInt32 &&& (858993459 : Int32))) + ((((l0 - ((l0.toUInt32 >>> ((1 : Int32).toUInt32 &&& Int32.toUInt32 31)).toInt32 &&& (1431655765 : Int32))) &&& (858993459 : Int32)) + (((l0 - ((l0.toUInt32 >>> ((1 : Int32).toUInt32 &&& Int32.toUInt32 31)).toInt32 &&& (1431655765 : Int32))).toUInt32 >>> ((2 : Int32).toUInt32 &&& Int32.toUInt32 31)).toInt32 &&& (858993459 : Int32))).toUInt32 >>> ((4 : Int32).toUInt32 &&& Int32.toUInt32 31)).toInt32) &&& (252645135 : Int32)))]) C dJ6_bitCount_0f7a4_33 (by decide) rfl rfl ?_
  refine q_iload_n C dJ6_bitCount_0f7a4_34 rfl ?_
  refine q_iload_n C dJ6_bitCount_0f7a4_35 rfl ?_
  refine x_bipush (v := (8 : Int32)) C dJ6_bitCount_0f7a4_36 (by decide) ?_
  refine q_iushr C dJ6_bitCount_0f7a4_38 ?_
  refine q_iadd C dJ6_bitCount_0f7a4_39 ?_
  refine q_istore_n (L' := [some (.int ((((((l0 - ((l0.toUInt32 >>> ((1 : Int32).toUInt32 &&& Int32.toUInt32 31)).toInt32 &&& (1431655765 : Int32))) &&& (858993459 : Int32)) + (((l0 - ((l0.toUInt32 >>> ((1 : Int32).toUInt32 &&& Int32.toUInt32 31)).toInt32 &&& (1431655765 : Int32))).toUInt32 >>> ((2 : Int32).toUInt32 &&& Int32.toUInt32 31)).toInt32 &&& (858993459 : Int32))) + ((((l0 - ((l0.toUInt32 >>> ((1 : Int32).toUInt32 &&& Int32.toUInt32 31)).toInt32 &&& (1431655765 : Int32))) &&& (858993459 : Int32)) + (((l0 - ((l0.toUInt32 >>> ((1 : Int32).toUInt32 &&& Int32.toUInt32 31)).toInt32 &&& (1431655765 : Int32))).toUInt32 >>> ((2 : Int32).toUInt32 &&& Int32.toUInt32 31)).toInt32 &&& (858993459 : Int32))).toUInt32 >>> ((4 : Int32).toUInt32 &&& Int32.toUInt32 31)).toInt32) &&& (252645135 : Int32)) + ((((((l0 - ((l0.toUInt32 >>> ((1 : Int32).toUInt32 &&& Int32.toUInt32 31)).toInt32 &&& (1431655765 : Int32))) &&& (858993459 : Int32)) + (((l0 - ((l0.toUInt32 >>> ((1 : Int32).toUInt32 &&& Int32.toUInt32 31)).toInt32 &&& (1431655765 : Int32))).toUInt32 >>> ((2 : Int32).toUInt32 &&& Int32.toUInt32 31)).toInt32 &&& (858993459 : Int32))) + ((((l0 - ((l0.toUInt32 >>> ((1 : Int32).toUInt32 &&& Int32.toUInt32 31)).toInt32 &&& (1431655765 : Int32))) &&& (858993459 : Int32)) + (((l0 - ((l0.toUInt32 >>> ((1 : Int32).toUInt32 &&& Int32.toUInt32 31)).toInt32 &&& (1431655765 : Int32))).toUInt32 >>> ((2 : Int32).toUInt32 &&& Int32.toUInt32 31)).toInt32 &&& (858993459 : Int32))).toUInt32 >>> ((4 : Int32).toUInt32 &&& Int32.toUInt32 31)).toInt32) &&& (252645135 : Int32)).toUInt32 >>> ((8 : Int32).toUInt32 &&& Int32.toUInt32 31)).toInt32))]) C dJ6_bitCount_0f7a4_40 (by decide) rfl rfl ?_
  refine q_iload_n C dJ6_bitCount_0f7a4_41 rfl ?_
  refine q_iload_n C dJ6_bitCount_0f7a4_42 rfl ?_
  refine x_bipush (v := (16 : Int32)) C dJ6_bitCount_0f7a4_43 (by decide) ?_
  refine q_iushr C dJ6_bitCount_0f7a4_45 ?_
  refine q_iadd C dJ6_bitCount_0f7a4_46 ?_
  refine q_istore_n (L' := [some (.int (((((((l0 - ((l0.toUInt32 >>> ((1 : Int32).toUInt32 &&& Int32.toUInt32 31)).toInt32 &&& (1431655765 : Int32))) &&& (858993459 : Int32)) + (((l0 - ((l0.toUInt32 >>> ((1 : Int32).toUInt32 &&& Int32.toUInt32 31)).toInt32 &&& (1431655765 : Int32))).toUInt32 >>> ((2 : Int32).toUInt32 &&& Int32.toUInt32 31)).toInt32 &&& (858993459 : Int32))) + ((((l0 - ((l0.toUInt32 >>> ((1 : Int32).toUInt32 &&& Int32.toUInt32 31)).toInt32 &&& (1431655765 : Int32))) &&& (858993459 : Int32)) + (((l0 - ((l0.toUInt32 >>> ((1 : Int32).toUInt32 &&& Int32.toUInt32 31)).toInt32 &&& (1431655765 : Int32))).toUInt32 >>> ((2 : Int32).toUInt32 &&& Int32.toUInt32 31)).toInt32 &&& (858993459 : Int32))).toUInt32 >>> ((4 : Int32).toUInt32 &&& Int32.toUInt32 31)).toInt32) &&& (252645135 : Int32)) + ((((((l0 - ((l0.toUInt32 >>> ((1 : Int32).toUInt32 &&& Int32.toUInt32 31)).toInt32 &&& (1431655765 : Int32))) &&& (858993459 : Int32)) + (((l0 - ((l0.toUInt32 >>> ((1 : Int32).toUInt32 &&& Int32.toUInt32 31)).toInt32 &&& (1431655765 : Int32))).toUInt32 >>> ((2 : Int32).toUInt32 &&& Int32.toUInt32 31)).toInt32 &&& (858993459 : Int32))) + ((((l0 - ((l0.toUInt32 >>> ((1 : Int32).toUInt32 &&& Int32.toUInt32 31)).toInt32 &&& (1431655765 : Int32))) &&& (858993459 : Int32)) + (((l0 - ((l0.toUInt32 >>> ((1 : Int32).toUInt32 &&& Int32.toUInt32 31)).toInt32 &&& (1431655765 : Int32))).toUInt32 >>> ((2 : Int32).toUInt32 &&& Int32.toUInt32 31)).toInt32 &&& (858993459 : Int32))).toUInt32 >>> ((4 : Int32).toUInt32 &&& Int32.toUInt32 31)).toInt32) &&& (252645135 : Int32)).toUInt32 >>> ((8 : Int32).toUInt32 &&& Int32.toUInt32 31)).toInt32) + (((((((l0 - ((l0.toUInt32 >>> ((1 : Int32).toUInt32 &&& Int32.toUInt32 31)).toInt32 &&& (1431655765 : Int32))) &&& (858993459 : Int32)) + (((l0 - ((l0.toUInt32 >>> ((1 : Int32).toUInt32 &&& Int32.toUInt32 31)).toInt32 &&& (1431655765 : Int32))).toUInt32 >>> ((2 : Int32).toUInt32 &&& Int32.toUInt32 31)).toInt32 &&& (858993459 : Int32))) + ((((l0 - ((l0.toUInt32 >>> ((1 : Int32).toUInt32 &&& Int32.toUInt32 31)).toInt32 &&& (1431655765 : Int32))) &&& (858993459 : Int32)) + (((l0 - ((l0.toUInt32 >>> ((1 : Int32).toUInt32 &&& Int32.toUInt32 31)).toInt32 &&& (1431655765 : Int32))).toUInt32 >>> ((2 : Int32).toUInt32 &&& Int32.toUInt32 31)).toInt32 &&& (858993459 : Int32))).toUInt32 >>> ((4 : Int32).toUInt32 &&& Int32.toUInt32 31)).toInt32) &&& (252645135 : Int32)) + ((((((l0 - ((l0.toUInt32 >>> ((1 : Int32).toUInt32 &&& Int32.toUInt32 31)).toInt32 &&& (1431655765 : Int32))) &&& (858993459 : Int32)) + (((l0 - ((l0.toUInt32 >>> ((1 : Int32).toUInt32 &&& Int32.toUInt32 31)).toInt32 &&& (1431655765 : Int32))).toUInt32 >>> ((2 : Int32).toUInt32 &&& Int32.toUInt32 31)).toInt32 &&& (858993459 : Int32))) + ((((l0 - ((l0.toUInt32 >>> ((1 : Int32).toUInt32 &&& Int32.toUInt32 31)).toInt32 &&& (1431655765 : Int32))) &&& (858993459 : Int32)) + (((l0 - ((l0.toUInt32 >>> ((1 : Int32).toUInt32 &&& Int32.toUInt32 31)).toInt32 &&& (1431655765 : Int32))).toUInt32 >>> ((2 : Int32).toUInt32 &&& Int32.toUInt32 31)).toInt32 &&& (858993459 : Int32))).toUInt32 >>> ((4 : Int32).toUInt32 &&& Int32.toUInt32 31)).toInt32) &&& (252645135 : Int32)).toUInt32 >>> ((8 : Int32).toUInt32 &&& Int32.toUInt32 31)).toInt32).toUInt32 >>> ((16 : Int32).toUInt32 &&& Int32.toUInt32 31)).toInt32))]) C dJ6_bitCount_0f7a4_47 (by decide) rfl rfl ?_
  refine q_iload_n C dJ6_bitCount_0f7a4_48 rfl ?_
  refine x_bipush (v := (63 : Int32)) C dJ6_bitCount_0f7a4_49 (by decide) ?_
  refine q_iand C dJ6_bitCount_0f7a4_51 ?_
  exact q_iret (res := (r, M)) C dJ6_bitCount_0f7a4_52 rfl (by decide) (by decide) (congrArg (fun z => (z, M)) (Option.some.inj h))
noncomputable def F_X3_ofDish (l0 : Nat) (l1 : Int32) (l2 : Int32) (M : q_Mem) : Option (Int32) := (if ((l1 * (3 : Int32)) + l2) < 0 then some (0 : Int32) else (q_gR M l0 3 1 (fun c1 => q_nn c1 (fun r2 => (q_al M r2 (fun v3 => (if ((l1 * (3 : Int32)) + l2) < v3 then (q_gR M l0 3 1 (fun c4 => q_nn c4 (fun r5 => (q_lI M 0 r5 ((l1 * (3 : Int32)) + l2) (fun v6 => some v6))))) else some (0 : Int32))))))))
set_option maxRecDepth 100000 in
set_option maxHeartbeats 4000000 in
theorem c_X3_ofDish (l : Launch) (G : q_G) (l0 : Nat) (l1 : Int32) (l2 : Int32) (M : q_Mem) {r : Int32} (h : F_X3_ofDish l0 l1 l2 M = some r) : q_Met l G yX3_ofDish cX3_ofDish 4 (Option.some Jvm.ClassFile.FieldType.int) 1 0 0 [.ref l0, .int l1, .int l2] M (some (.int r)) M := by
  unfold F_X3_ofDish at h
  refine q_enter [some (.ref l0), some (.int l1), some (.int l2), none] (by decide) (Nat.le_of_ble_eq_true rfl) rfl (fun K C => ?_)
  refine q_iload_n C dX3_ofDish_0 rfl ?_
  refine x_iconst (v := (3 : Int32)) C dX3_ofDish_1 (by decide) ?_
  refine q_imul C dX3_ofDish_2 ?_
  refine q_iload_n C dX3_ofDish_3 rfl ?_
  refine q_iadd C dX3_ofDish_4 ?_
  refine q_istore_n (L' := [some (.ref l0), some (.int l1), some (.int l2), some (.int ((l1 * (3 : Int32)) + l2))]) C dX3_ofDish_5 (by decide) rfl rfl ?_
  refine q_iload_n C dX3_ofDish_6 rfl ?_
  refine q_if_lt (tgt := 28) C dX3_ofDish_7 (by decide) h (fun _ h => ?_) (fun _ h => ?_)
  · refine x_iconst (v := (0 : Int32)) C dX3_ofDish_28 (by decide) ?_
    exact q_iret (res := (r, M)) C dX3_ofDish_29 rfl (by decide) (by decide) (congrArg (fun z => (z, M)) (Option.some.inj h))
  · refine q_iload_n C dX3_ofDish_10 rfl ?_
    refine q_aload_n C dX3_ofDish_11 rfl ?_
    refine x_getR (ci := 3) (j := 1) C dX3_ofDish_12 lkF_X3_15 rfl h (fun c1 h => ?_)
    refine x_nn h (fun r2 h => ?_)
    refine x_alen C dX3_ofDish_15 h (fun v3 h => ?_)
    refine q_icmp_ge (tgt := 28) C dX3_ofDish_16 (by decide) h (fun _ h => ?_) (fun _ h => ?_)
    · refine q_aload_n C dX3_ofDish_19 rfl ?_
      refine x_getR (ci := 3) (j := 1) C dX3_ofDish_20 lkF_X3_15 rfl h (fun c4 h => ?_)
      refine x_nn h (fun r5 h => ?_)
      refine q_iload_n C dX3_ofDish_23 rfl ?_
      refine x_iald C dX3_ofDish_24 h (fun v6 h => ?_)
      refine q_goto (tgt := 29) C dX3_ofDish_25 (by decide) ?_
      exact q_iret (res := (r, M)) C dX3_ofDish_29 rfl (by decide) (by decide) (congrArg (fun z => (z, M)) (Option.some.inj h))
    · refine x_iconst (v := (0 : Int32)) C dX3_ofDish_28 (by decide) ?_
      exact q_iret (res := (r, M)) C dX3_ofDish_29 rfl (by decide) (by decide) (congrArg (fun z => (z, M)) (Option.some.inj h))
noncomputable def J_X1_serve_123 (s0 : Nat) (s1 : Int32) (M : q_Mem) : Option (Unit × q_Mem) := (q_pI M s0 1 8 s1 (fun M14 => some ((), M14)))
set_option maxRecDepth 100000 in
set_option maxHeartbeats 4000000 in
theorem jW_X1_serve_123 {K : q_K} (C : q_C K yX1_serve cX1_serve 4 (Option.none : Option Jvm.ClassFile.FieldType) 2 0 0) (s0 : Nat) (s1 : Int32) (M : q_Mem) {r : Unit} {M' : q_Mem} (h : J_X1_serve_123 s0 s1 M = some (r, M')) : q_W K 4 (q_Q K none M' 0 0) 0 0 M 123 [none, none, none, none] [.int s1, .ref s0] := by
  unfold J_X1_serve_123 at h
  refine x_putI (ci := 1) (j := 8) C dX1_serve_123 lkF_X1_35 (fun r hr => by cases hr; rfl) rfl h (fun M14 h => ?_)
  exact q_vret C dX1_serve_126 rfl (by decide) (by decide) (Option.some.inj h)
noncomputable def J_X1_serve_82 (l0 : Nat) (l2 : Int32) (M : q_Mem) : Option (Unit × q_Mem) := (q_gI M l0 1 7 (fun v13 => (if v13 = (-1 : Int32) then J_X1_serve_123 l0 (0 : Int32) M else (q_gR M l0 1 0 (fun c15 => q_nn c15 (fun r16 => (q_gI M l0 1 7 (fun v17 => (q_ob M r16 3 ((F_X3_ofDish r16 v17 (0 : Int32) M).bind (fun u18 => (q_gR M l0 1 0 (fun c19 => q_nn c19 (fun r20 => (q_gR M r20 3 0 (fun c21 => q_nn c21 (fun r22 => (q_lI M 0 r22 (1 : Int32) (fun v23 => J_X1_serve_123 l0 (q_mx (0 : Int32) (u18 - (v23 * l2))) M)))))))))))))))))))
set_option maxRecDepth 100000 in
set_option maxHeartbeats 4000000 in
theorem jW_X1_serve_82 {K : q_K} (C : q_C K yX1_serve cX1_serve 4 (Option.none : Option Jvm.ClassFile.FieldType) 2 0 0) (l0 : Nat) (l2 : Int32) (M : q_Mem) {r : Unit} {M' : q_Mem} (h : J_X1_serve_82 l0 l2 M = some (r, M')) : q_W K 4 (q_Q K none M' 0 0) 0 0 M 82 [some (.ref l0), none, some (.int l2), none] [] := by
  unfold J_X1_serve_82 at h
  refine q_aload_n C dX1_serve_82 rfl ?_
  refine q_aload_n C dX1_serve_83 rfl ?_
  refine x_getI (ci := 1) (j := 7) C dX1_serve_84 lkF_X1_32 rfl h (fun v13 h => ?_)
  refine x_iconst (v := (-1 : Int32)) C dX1_serve_87 (by decide) ?_
  refine q_icmp_ne (tgt := 95) C dX1_serve_88 (by decide) h (fun _ h => ?_) (fun _ h => ?_)
  · refine x_iconst (v := (0 : Int32)) C dX1_serve_91 (by decide) ?_
    refine q_goto (tgt := 123) C dX1_serve_92 (by decide) ?_
    exact q_msk [false, false, false, false] (jW_X1_serve_123 C l0 (0 : Int32) M h)
  · refine x_iconst (v := (0 : Int32)) C dX1_serve_95 (by decide) ?_
    refine q_aload_n C dX1_serve_96 rfl ?_
    refine x_getR (ci := 1) (j := 0) C dX1_serve_97 lkF_X1_47 rfl h (fun c15 h => ?_)
    refine x_nn h (fun r16 h => ?_)
    refine q_aload_n C dX1_serve_100 rfl ?_
    refine x_getI (ci := 1) (j := 7) C dX1_serve_101 lkF_X1_32 rfl h (fun v17 h => ?_)
    refine x_iconst (v := (0 : Int32)) C dX1_serve_104 (by decide) ?_
    obtain ⟨hk, h⟩ := q_obE h
    obtain ⟨u18, e1, h⟩ := q_bind h
    refine x_callV0 C dX1_serve_105 lkM_X1_89 mV_X3_ofDish ⟨_, rfl, rfl⟩ hk (c_X3_ofDish _ _ _ _ _ _ e1) rfl rfl (Nat.le_of_ble_eq_true rfl) (by decide) (by decide) ?_
    refine q_aload_n C dX1_serve_108 rfl ?_
    refine x_getR (ci := 1) (j := 0) C dX1_serve_109 lkF_X1_47 rfl h (fun c19 h => ?_)
    refine x_nn h (fun r20 h => ?_)
    refine x_getR (ci := 3) (j := 0) C dX1_serve_112 lkF_X1_92 rfl h (fun c21 h => ?_)
    refine x_nn h (fun r22 h => ?_)
    refine x_iconst (v := (1 : Int32)) C dX1_serve_115 (by decide) ?_
    refine x_iald C dX1_serve_116 h (fun v23 h => ?_)
    refine q_iload_n C dX1_serve_117 rfl ?_
    refine q_imul C dX1_serve_118 ?_
    refine q_isub C dX1_serve_119 ?_
    refine q_max C dX1_serve_120 wd_748 wd_470 wd_15 wd_471 (by decide) (Nat.le_of_ble_eq_true rfl) (by decide) ?_
    exact q_msk [false, false, false, false] (jW_X1_serve_123 C l0 (q_mx (0 : Int32) (u18 - (v23 * l2))) M h)
noncomputable def F_X1_serve (l0 : Nat) (l1 : Nat) (M : q_Mem) : Option (Unit × q_Mem) := (q_gR M l1 8 0 (fun c1 => q_nn c1 (fun r2 => (q_lI M 0 r2 (1 : Int32) (fun v3 => (q_gR M l1 8 0 (fun c4 => q_nn c4 (fun r5 => (q_lI M 0 r5 (0 : Int32) (fun v6 => (q_pI M l0 1 7 (-1 : Int32) (fun M7 => (q_pI M7 l0 1 9 (0 : Int32) (fun M8 => (if v3 = 0 then (q_gI M8 l0 1 5 (fun v9 => (q_pI M8 l0 1 7 v9 (fun M10 => (q_gI M10 l0 1 6 (fun v11 => (q_pI M10 l0 1 9 v11 (fun M12 => J_X1_serve_82 l0 v3 M12)))))))) else (if (v6 - v3) < 0 then J_X1_serve_82 l0 v3 M8 else (q_gR M8 l1 8 0 (fun c24 => q_nn c24 (fun r25 => (q_lI M8 0 r25 ((5 : Int32) + ((v6 - v3) &&& (3 : Int32))) (fun v26 => (q_pI M8 l0 1 7 v26 (fun M27 => (q_gR M27 l1 8 0 (fun c28 => q_nn c28 (fun r29 => (q_lI M27 0 r29 ((9 : Int32) + ((v6 - v3) &&& (3 : Int32))) (fun v30 => (q_pI M27 l0 1 9 v30 (fun M31 => J_X1_serve_82 l0 v3 M31))))))))))))))))))))))))))))))
set_option maxRecDepth 100000 in
set_option maxHeartbeats 4000000 in
theorem c_X1_serve (l : Launch) (G : q_G) (l0 : Nat) (l1 : Nat) (M : q_Mem) {r : Unit} {M' : q_Mem} (h : F_X1_serve l0 l1 M = some (r, M')) : q_Met l G yX1_serve cX1_serve 4 (Option.none : Option Jvm.ClassFile.FieldType) 2 0 0 [.ref l0, .ref l1] M none M' := by
  unfold F_X1_serve at h
  refine q_enter [some (.ref l0), some (.ref l1), none, none] (by decide) (Nat.le_of_ble_eq_true rfl) rfl (fun K C => ?_)
  refine q_aload_n C dX1_serve_0 rfl ?_
  refine x_getR (ci := 8) (j := 0) C dX1_serve_1 lkF_X1_51 rfl h (fun c1 h => ?_)
  refine x_nn h (fun r2 h => ?_)
  refine x_iconst (v := (1 : Int32)) C dX1_serve_4 (by decide) ?_
  refine x_iald C dX1_serve_5 h (fun v3 h => ?_)
  refine q_istore_n (L' := [some (.ref l0), some (.ref l1), some (.int v3), none]) C dX1_serve_6 (by decide) rfl rfl ?_
  refine q_aload_n C dX1_serve_7 rfl ?_
  refine x_getR (ci := 8) (j := 0) C dX1_serve_8 lkF_X1_51 rfl h (fun c4 h => ?_)
  refine x_nn h (fun r5 h => ?_)
  refine x_iconst (v := (0 : Int32)) C dX1_serve_11 (by decide) ?_
  refine x_iald C dX1_serve_12 h (fun v6 h => ?_)
  refine q_iload_n C dX1_serve_13 rfl ?_
  refine q_isub C dX1_serve_14 ?_
  refine q_istore_n (L' := [some (.ref l0), some (.ref l1), some (.int v3), some (.int (v6 - v3))]) C dX1_serve_15 (by decide) rfl rfl ?_
  refine q_aload_n C dX1_serve_16 rfl ?_
  refine x_iconst (v := (-1 : Int32)) C dX1_serve_17 (by decide) ?_
  refine x_putI (ci := 1) (j := 7) C dX1_serve_18 lkF_X1_32 (fun r hr => by cases hr; rfl) rfl h (fun M7 h => ?_)
  refine q_aload_n C dX1_serve_21 rfl ?_
  refine x_iconst (v := (0 : Int32)) C dX1_serve_22 (by decide) ?_
  refine x_putI (ci := 1) (j := 9) C dX1_serve_23 lkF_X1_38 (fun r hr => by cases hr; rfl) rfl h (fun M8 h => ?_)
  refine q_iload_n C dX1_serve_26 rfl ?_
  refine q_if_ne (tgt := 49) C dX1_serve_27 (by decide) h (fun _ h => ?_) (fun _ h => ?_)
  · refine q_aload_n C dX1_serve_30 rfl ?_
    refine q_aload_n C dX1_serve_31 rfl ?_
    refine x_getI (ci := 1) (j := 5) C dX1_serve_32 lkF_X1_26 rfl h (fun v9 h => ?_)
    refine x_putI (ci := 1) (j := 7) C dX1_serve_35 lkF_X1_32 (fun r hr => by cases hr; rfl) rfl h (fun M10 h => ?_)
    refine q_aload_n C dX1_serve_38 rfl ?_
    refine q_aload_n C dX1_serve_39 rfl ?_
    refine x_getI (ci := 1) (j := 6) C dX1_serve_40 lkF_X1_29 rfl h (fun v11 h => ?_)
    refine x_putI (ci := 1) (j := 9) C dX1_serve_43 lkF_X1_38 (fun r hr => by cases hr; rfl) rfl h (fun M12 h => ?_)
    refine q_goto (tgt := 82) C dX1_serve_46 (by decide) ?_
    exact q_msk [true, false, true, false] (jW_X1_serve_82 C l0 v3 M12 h)
  · refine q_iload_n C dX1_serve_49 rfl ?_
    refine q_if_lt (tgt := 82) C dX1_serve_50 (by decide) h (fun _ h => ?_) (fun _ h => ?_)
    · exact q_msk [true, false, true, false] (jW_X1_serve_82 C l0 v3 M8 h)
    · refine q_aload_n C dX1_serve_53 rfl ?_
      refine q_aload_n C dX1_serve_54 rfl ?_
      refine x_getR (ci := 8) (j := 0) C dX1_serve_55 lkF_X1_51 rfl h (fun c24 h => ?_)
      refine x_nn h (fun r25 h => ?_)
      refine x_iconst (v := (5 : Int32)) C dX1_serve_58 (by decide) ?_
      refine q_iload_n C dX1_serve_59 rfl ?_
      refine x_iconst (v := (3 : Int32)) C dX1_serve_60 (by decide) ?_
      refine q_iand C dX1_serve_61 ?_
      refine q_iadd C dX1_serve_62 ?_
      refine x_iald C dX1_serve_63 h (fun v26 h => ?_)
      refine x_putI (ci := 1) (j := 7) C dX1_serve_64 lkF_X1_32 (fun r hr => by cases hr; rfl) rfl h (fun M27 h => ?_)
      refine q_aload_n C dX1_serve_67 rfl ?_
      refine q_aload_n C dX1_serve_68 rfl ?_
      refine x_getR (ci := 8) (j := 0) C dX1_serve_69 lkF_X1_51 rfl h (fun c28 h => ?_)
      refine x_nn h (fun r29 h => ?_)
      refine x_bipush (v := (9 : Int32)) C dX1_serve_72 (by decide) ?_
      refine q_iload_n C dX1_serve_74 rfl ?_
      refine x_iconst (v := (3 : Int32)) C dX1_serve_75 (by decide) ?_
      refine q_iand C dX1_serve_76 ?_
      refine q_iadd C dX1_serve_77 ?_
      refine x_iald C dX1_serve_78 h (fun v30 h => ?_)
      refine x_putI (ci := 1) (j := 9) C dX1_serve_79 lkF_X1_38 (fun r hr => by cases hr; rfl) rfl h (fun M31 h => ?_)
      exact q_msk [true, false, true, false] (jW_X1_serve_82 C l0 v3 M31 h)
noncomputable def J_X1_feedThose_95_12 (l0 : Nat) (l1 : Nat) (l2 : Int32) (l3 : Int32) (M : q_Mem) : Option ((Int32 × Int32 × q_Mem) ⊕ (Int32 × q_Mem)) := some (.inl (l2, (l3 + (1 : Int32)), M))
set_option maxRecDepth 100000 in
set_option maxHeartbeats 4000000 in
theorem jW_X1_feedThose_95_12 {K : q_K} {Q : State → Prop} (C : q_C K yX1_feedThose cX1_feedThose 6 (Option.none : Option Jvm.ClassFile.FieldType) 2 0 0) (l0 : Nat) (l1 : Nat) (l2 : Int32) (l3 : Int32) (M : q_Mem) {stp : (Int32 × Int32 × q_Mem) ⊕ (Int32 × q_Mem)} (h : J_X1_feedThose_95_12 l0 l1 l2 l3 M = some stp) (kC : ∀ (l2 : Int32) (l3 : Int32) (M : q_Mem), stp = .inl (l2, l3, M) → q_W K 6 Q 0 0 M 12 [some (.ref l0), some (.ref l1), some (.int l2), some (.int l3), none, none] []) (kE0 : ∀ (l2 : Int32) (M : q_Mem), stp = .inr (l2, M) → q_W K 6 Q 0 0 M 101 [some (.ref l0), some (.ref l1), some (.int l2), none, none, none] []) : q_W K 6 Q 0 0 M 95 [some (.ref l0), some (.ref l1), some (.int l2), some (.int l3), none, none] [] := by
  unfold J_X1_feedThose_95_12 at h
  refine x_iinc (w := (1 : Int32)) (L' := [some (.ref l0), some (.ref l1), some (.int l2), some (.int (l3 + (1 : Int32))), none, none]) C dX1_feedThose_95 rfl (by decide) (by decide) rfl rfl ?_
  refine q_goto (tgt := 12) C dX1_feedThose_98 (by decide) ?_
  exact q_msk [true, true, true, true, false, false] (kC _ _ _ (Option.some.inj h).symm)
noncomputable def J_X1_feedThose_73_12 (l0 : Nat) (l1 : Nat) (l2 : Int32) (l3 : Int32) (l4 : Int32) (l5 : Int32) (s0 : Nat) (s1 : Int32) (s2 : Int32) (M : q_Mem) : Option ((Int32 × Int32 × q_Mem) ⊕ (Int32 × q_Mem)) := (q_tI M s0 s1 s2 (fun M14 => (if l5 = 0 then J_X1_feedThose_95_12 l0 l1 l2 l3 M14 else (q_gI M14 l0 1 10 (fun v15 => (q_pI M14 l0 1 10 (v15 ||| ((1 : Int32) <<< (l4 &&& 31))) (fun M16 => J_X1_feedThose_95_12 l0 l1 (l2 + (-1 : Int32)) l3 M16)))))))
set_option maxRecDepth 100000 in
set_option maxHeartbeats 4000000 in
theorem jW_X1_feedThose_73_12 {K : q_K} {Q : State → Prop} (C : q_C K yX1_feedThose cX1_feedThose 6 (Option.none : Option Jvm.ClassFile.FieldType) 2 0 0) (l0 : Nat) (l1 : Nat) (l2 : Int32) (l3 : Int32) (l4 : Int32) (l5 : Int32) (s0 : Nat) (s1 : Int32) (s2 : Int32) (M : q_Mem) {stp : (Int32 × Int32 × q_Mem) ⊕ (Int32 × q_Mem)} (h : J_X1_feedThose_73_12 l0 l1 l2 l3 l4 l5 s0 s1 s2 M = some stp) (kC : ∀ (l2 : Int32) (l3 : Int32) (M : q_Mem), stp = .inl (l2, l3, M) → q_W K 6 Q 0 0 M 12 [some (.ref l0), some (.ref l1), some (.int l2), some (.int l3), none, none] []) (kE0 : ∀ (l2 : Int32) (M : q_Mem), stp = .inr (l2, M) → q_W K 6 Q 0 0 M 101 [some (.ref l0), some (.ref l1), some (.int l2), none, none, none] []) : q_W K 6 Q 0 0 M 73 [some (.ref l0), some (.ref l1), some (.int l2), some (.int l3), some (.int l4), some (.int l5)] [.int s2, .int s1, .ref s0] := by
  unfold J_X1_feedThose_73_12 at h
  refine x_iast C dX1_feedThose_73 h (fun M14 h => ?_)
  refine q_iload C dX1_feedThose_74 rfl ?_
  refine q_if_eq (tgt := 95) C dX1_feedThose_76 (by decide) h (fun _ h => ?_) (fun _ h => ?_)
  · exact q_msk [true, true, true, true, false, false] (jW_X1_feedThose_95_12 C l0 l1 l2 l3 M14 h kC kE0)
  · refine q_aload_n C dX1_feedThose_79 rfl ?_
    refine q_dup C dX1_feedThose_80 rfl ?_
    refine x_getI (ci := 1) (j := 10) C dX1_feedThose_81 lkF_X1_41 rfl h (fun v15 h => ?_)
    refine x_iconst (v := (1 : Int32)) C dX1_feedThose_84 (by decide) ?_
    refine q_iload C dX1_feedThose_85 rfl ?_
    refine q_ishl C dX1_feedThose_87 ?_
    refine q_ior C dX1_feedThose_88 ?_
    refine x_putI (ci := 1) (j := 10) C dX1_feedThose_89 lkF_X1_41 (fun r hr => by cases hr; rfl) rfl h (fun M16 h => ?_)
    refine x_iinc (w := (-1 : Int32)) (L' := [some (.ref l0), some (.ref l1), some (.int (l2 + (-1 : Int32))), some (.int l3), some (.int l4), some (.int l5)]) C dX1_feedThose_92 rfl (by decide) (by decide) rfl rfl ?_
    exact q_msk [true, true, true, true, false, false] (jW_X1_feedThose_95_12 C l0 l1 (l2 + (-1 : Int32)) l3 M16 h kC kE0)
noncomputable def J_X1_feedThose_55_12 (l0 : Nat) (l1 : Nat) (l2 : Int32) (l3 : Int32) (l4 : Int32) (s0 : Int32) (M : q_Mem) : Option ((Int32 × Int32 × q_Mem) ⊕ (Int32 × q_Mem)) := (q_gR M l0 1 1 (fun c12 => q_nn c12 (fun r13 => (if s0 = 0 then J_X1_feedThose_73_12 l0 l1 l2 l3 l4 s0 r13 l4 (0 : Int32) M else J_X1_feedThose_73_12 l0 l1 l2 l3 l4 s0 r13 l4 (1 : Int32) M))))
set_option maxRecDepth 100000 in
set_option maxHeartbeats 4000000 in
theorem jW_X1_feedThose_55_12 {K : q_K} {Q : State → Prop} (C : q_C K yX1_feedThose cX1_feedThose 6 (Option.none : Option Jvm.ClassFile.FieldType) 2 0 0) (l0 : Nat) (l1 : Nat) (l2 : Int32) (l3 : Int32) (l4 : Int32) (s0 : Int32) (M : q_Mem) {stp : (Int32 × Int32 × q_Mem) ⊕ (Int32 × q_Mem)} (h : J_X1_feedThose_55_12 l0 l1 l2 l3 l4 s0 M = some stp) (kC : ∀ (l2 : Int32) (l3 : Int32) (M : q_Mem), stp = .inl (l2, l3, M) → q_W K 6 Q 0 0 M 12 [some (.ref l0), some (.ref l1), some (.int l2), some (.int l3), none, none] []) (kE0 : ∀ (l2 : Int32) (M : q_Mem), stp = .inr (l2, M) → q_W K 6 Q 0 0 M 101 [some (.ref l0), some (.ref l1), some (.int l2), none, none, none] []) : q_W K 6 Q 0 0 M 55 [some (.ref l0), some (.ref l1), some (.int l2), some (.int l3), some (.int l4), none] [.int s0] := by
  unfold J_X1_feedThose_55_12 at h
  refine q_istore (L' := [some (.ref l0), some (.ref l1), some (.int l2), some (.int l3), some (.int l4), some (.int s0)]) C dX1_feedThose_55 (by decide) rfl rfl ?_
  refine q_aload_n C dX1_feedThose_57 rfl ?_
  refine x_getR (ci := 1) (j := 1) C dX1_feedThose_58 lkF_X1_9 rfl h (fun c12 h => ?_)
  refine x_nn h (fun r13 h => ?_)
  refine q_iload C dX1_feedThose_61 rfl ?_
  refine q_iload C dX1_feedThose_63 rfl ?_
  refine q_if_eq (tgt := 72) C dX1_feedThose_65 (by decide) h (fun _ h => ?_) (fun _ h => ?_)
  · refine x_iconst (v := (0 : Int32)) C dX1_feedThose_72 (by decide) ?_
    exact q_msk [true, true, true, true, true, true] (jW_X1_feedThose_73_12 C l0 l1 l2 l3 l4 s0 r13 l4 (0 : Int32) M h kC kE0)
  · refine x_iconst (v := (1 : Int32)) C dX1_feedThose_68 (by decide) ?_
    refine q_goto (tgt := 73) C dX1_feedThose_69 (by decide) ?_
    exact q_msk [true, true, true, true, true, true] (jW_X1_feedThose_73_12 C l0 l1 l2 l3 l4 s0 r13 l4 (1 : Int32) M h kC kE0)
noncomputable def J_X1_feedThose_54_12 (l0 : Nat) (l1 : Nat) (l2 : Int32) (l3 : Int32) (l4 : Int32) (M : q_Mem) : Option ((Int32 × Int32 × q_Mem) ⊕ (Int32 × q_Mem)) := J_X1_feedThose_55_12 l0 l1 l2 l3 l4 (0 : Int32) M
set_option maxRecDepth 100000 in
set_option maxHeartbeats 4000000 in
theorem jW_X1_feedThose_54_12 {K : q_K} {Q : State → Prop} (C : q_C K yX1_feedThose cX1_feedThose 6 (Option.none : Option Jvm.ClassFile.FieldType) 2 0 0) (l0 : Nat) (l1 : Nat) (l2 : Int32) (l3 : Int32) (l4 : Int32) (M : q_Mem) {stp : (Int32 × Int32 × q_Mem) ⊕ (Int32 × q_Mem)} (h : J_X1_feedThose_54_12 l0 l1 l2 l3 l4 M = some stp) (kC : ∀ (l2 : Int32) (l3 : Int32) (M : q_Mem), stp = .inl (l2, l3, M) → q_W K 6 Q 0 0 M 12 [some (.ref l0), some (.ref l1), some (.int l2), some (.int l3), none, none] []) (kE0 : ∀ (l2 : Int32) (M : q_Mem), stp = .inr (l2, M) → q_W K 6 Q 0 0 M 101 [some (.ref l0), some (.ref l1), some (.int l2), none, none, none] []) : q_W K 6 Q 0 0 M 54 [some (.ref l0), some (.ref l1), some (.int l2), some (.int l3), some (.int l4), none] [] := by
  unfold J_X1_feedThose_54_12 at h
  refine x_iconst (v := (0 : Int32)) C dX1_feedThose_54 (by decide) ?_
  exact q_msk [true, true, true, true, true, false] (jW_X1_feedThose_55_12 C l0 l1 l2 l3 l4 (0 : Int32) M h kC kE0)
noncomputable def B_X1_feedThose_12 (l0 : Nat) (l1 : Nat) (l2 : Int32) (l3 : Int32) (M : q_Mem) : Option ((Int32 × Int32 × q_Mem) ⊕ (Int32 × q_Mem)) := (q_gR M l0 1 0 (fun c3 => q_nn c3 (fun r4 => (q_gI M r4 3 5 (fun v5 => (if l3 < v5 then (q_gR M l0 1 0 (fun c6 => q_nn c6 (fun r7 => (q_gR M r7 3 3 (fun c8 => q_nn c8 (fun r9 => (q_lI M 0 r9 l3 (fun v10 => (if 0 < l2 then (q_gI M l0 1 4 (fun v11 => (if ((v11 >>> (v10 &&& 31)) &&& (1 : Int32)) = 0 then J_X1_feedThose_54_12 l0 l1 l2 l3 v10 M else J_X1_feedThose_55_12 l0 l1 l2 l3 v10 (1 : Int32) M))) else J_X1_feedThose_54_12 l0 l1 l2 l3 v10 M))))))))) else some (.inr (l2, M))))))))
set_option maxRecDepth 100000 in
set_option maxHeartbeats 4000000 in
theorem bW_X1_feedThose_12 {K : q_K} {Q : State → Prop} (C : q_C K yX1_feedThose cX1_feedThose 6 (Option.none : Option Jvm.ClassFile.FieldType) 2 0 0) (l0 : Nat) (l1 : Nat) (l2 : Int32) (l3 : Int32) (M : q_Mem) {stp : (Int32 × Int32 × q_Mem) ⊕ (Int32 × q_Mem)} (h : B_X1_feedThose_12 l0 l1 l2 l3 M = some stp) (kC : ∀ (l2 : Int32) (l3 : Int32) (M : q_Mem), stp = .inl (l2, l3, M) → q_W K 6 Q 0 0 M 12 [some (.ref l0), some (.ref l1), some (.int l2), some (.int l3), none, none] []) (kE0 : ∀ (l2 : Int32) (M : q_Mem), stp = .inr (l2, M) → q_W K 6 Q 0 0 M 101 [some (.ref l0), some (.ref l1), some (.int l2), none, none, none] []) : q_W K 6 Q 0 0 M 12 [some (.ref l0), some (.ref l1), some (.int l2), some (.int l3), none, none] [] := by
  unfold B_X1_feedThose_12 at h
  refine q_iload_n C dX1_feedThose_12 rfl ?_
  refine q_aload_n C dX1_feedThose_13 rfl ?_
  refine x_getR (ci := 1) (j := 0) C dX1_feedThose_14 lkF_X1_47 rfl h (fun c3 h => ?_)
  refine x_nn h (fun r4 h => ?_)
  refine x_getI (ci := 3) (j := 5) C dX1_feedThose_17 lkF_X1_66 rfl h (fun v5 h => ?_)
  refine q_icmp_ge (tgt := 101) C dX1_feedThose_20 (by decide) h (fun _ h => ?_) (fun _ h => ?_)
  · refine q_aload_n C dX1_feedThose_23 rfl ?_
    refine x_getR (ci := 1) (j := 0) C dX1_feedThose_24 lkF_X1_47 rfl h (fun c6 h => ?_)
    refine x_nn h (fun r7 h => ?_)
    refine x_getR (ci := 3) (j := 3) C dX1_feedThose_27 lkF_X1_100 rfl h (fun c8 h => ?_)
    refine x_nn h (fun r9 h => ?_)
    refine q_iload_n C dX1_feedThose_30 rfl ?_
    refine x_iald C dX1_feedThose_31 h (fun v10 h => ?_)
    refine q_istore (L' := [some (.ref l0), some (.ref l1), some (.int l2), some (.int l3), some (.int v10), none]) C dX1_feedThose_32 (by decide) rfl rfl ?_
    refine q_iload_n C dX1_feedThose_34 rfl ?_
    refine q_if_le (tgt := 54) C dX1_feedThose_35 (by decide) h (fun _ h => ?_) (fun _ h => ?_)
    · refine q_aload_n C dX1_feedThose_38 rfl ?_
      refine x_getI (ci := 1) (j := 4) C dX1_feedThose_39 lkF_X1_22 rfl h (fun v11 h => ?_)
      refine q_iload C dX1_feedThose_42 rfl ?_
      refine q_ishr C dX1_feedThose_44 ?_
      refine x_iconst (v := (1 : Int32)) C dX1_feedThose_45 (by decide) ?_
      refine q_iand C dX1_feedThose_46 ?_
      refine q_if_eq (tgt := 54) C dX1_feedThose_47 (by decide) h (fun _ h => ?_) (fun _ h => ?_)
      · exact q_msk [true, true, true, true, true, false] (jW_X1_feedThose_54_12 C l0 l1 l2 l3 v10 M h kC kE0)
      · refine x_iconst (v := (1 : Int32)) C dX1_feedThose_50 (by decide) ?_
        refine q_goto (tgt := 55) C dX1_feedThose_51 (by decide) ?_
        exact q_msk [true, true, true, true, true, false] (jW_X1_feedThose_55_12 C l0 l1 l2 l3 v10 (1 : Int32) M h kC kE0)
    · exact q_msk [true, true, true, true, true, false] (jW_X1_feedThose_54_12 C l0 l1 l2 l3 v10 M h kC kE0)
  · exact q_msk [true, true, true, false, false, false] (kE0 _ _ (Option.some.inj h).symm)
set_option maxRecDepth 100000 in
set_option maxHeartbeats 4000000 in
theorem lW_X1_feedThose_12 {K : q_K} {Q : State → Prop} (C : q_C K yX1_feedThose cX1_feedThose 6 (Option.none : Option Jvm.ClassFile.FieldType) 2 0 0) (l0 : Nat) (l1 : Nat) (n : Nat) : ∀ (l2 : Int32) (l3 : Int32) (M : q_Mem) (e : (Int32 × q_Mem)), q_lp (fun s => B_X1_feedThose_12 l0 l1 s.1 s.2.1 s.2.2) n (l2, l3, M) = some e → (∀ (l2 : Int32) (M : q_Mem), e = (l2, M) → q_W K 6 Q 0 0 M 101 [some (.ref l0), some (.ref l1), some (.int l2), none, none, none] []) → q_W K 6 Q 0 0 M 12 [some (.ref l0), some (.ref l1), some (.int l2), some (.int l3), none, none] [] := by
  induction n with
  | zero => intro l2 l3 M e h; cases h
  | succ n ih =>
    intro l2 l3 M e h kE0
    obtain ⟨stp, e1, e2⟩ := q_bind h
    refine bW_X1_feedThose_12 C l0 l1 l2 l3 M e1 (fun a0 a1 a2 hs => ?_) (fun b0 b1 hs => ?_)
    · subst hs; exact ih _ _ _ _ e2 kE0
    · subst hs; exact kE0 _ _ (Option.some.inj e2).symm
noncomputable def J_X1_feedThose_176_103 (l0 : Nat) (l1 : Nat) (l2 : Int32) (l3 : Int32) (M : q_Mem) : Option ((Int32 × Int32 × q_Mem) ⊕ (Int32 × q_Mem)) := some (.inl (l2, (l3 + (1 : Int32)), M))
set_option maxRecDepth 100000 in
set_option maxHeartbeats 4000000 in
theorem jW_X1_feedThose_176_103 {K : q_K} {Q : State → Prop} (C : q_C K yX1_feedThose cX1_feedThose 6 (Option.none : Option Jvm.ClassFile.FieldType) 2 0 0) (l0 : Nat) (l1 : Nat) (l2 : Int32) (l3 : Int32) (M : q_Mem) {stp : (Int32 × Int32 × q_Mem) ⊕ (Int32 × q_Mem)} (h : J_X1_feedThose_176_103 l0 l1 l2 l3 M = some stp) (kC : ∀ (l2 : Int32) (l3 : Int32) (M : q_Mem), stp = .inl (l2, l3, M) → q_W K 6 Q 0 0 M 103 [some (.ref l0), some (.ref l1), some (.int l2), some (.int l3), none, none] []) (kE0 : ∀ (l2 : Int32) (M : q_Mem), stp = .inr (l2, M) → q_W K 6 Q 0 0 M 182 [some (.ref l0), none, some (.int l2), none, none, none] []) : q_W K 6 Q 0 0 M 176 [some (.ref l0), some (.ref l1), some (.int l2), some (.int l3), none, none] [] := by
  unfold J_X1_feedThose_176_103 at h
  refine x_iinc (w := (1 : Int32)) (L' := [some (.ref l0), some (.ref l1), some (.int l2), some (.int (l3 + (1 : Int32))), none, none]) C dX1_feedThose_176 rfl (by decide) (by decide) rfl rfl ?_
  refine q_goto (tgt := 103) C dX1_feedThose_179 (by decide) ?_
  exact q_msk [true, true, true, true, false, false] (kC _ _ _ (Option.some.inj h).symm)
noncomputable def B_X1_feedThose_103 (l0 : Nat) (l1 : Nat) (l2 : Int32) (l3 : Int32) (M : q_Mem) : Option ((Int32 × Int32 × q_Mem) ⊕ (Int32 × q_Mem)) := (q_gR M l0 1 0 (fun c20 => q_nn c20 (fun r21 => (q_gI M r21 3 5 (fun v22 => (if l3 < v22 then (if 0 < l2 then (q_gR M l0 1 0 (fun c23 => q_nn c23 (fun r24 => (q_ob M r24 3 ((F_X3_ofGuest r24 l3 (0 : Int32) M).bind (fun u25 => (q_gR M l1 8 0 (fun c26 => q_nn c26 (fun r27 => (q_lI M 0 r27 ((13 : Int32) + l3) (fun v28 => (q_gI M l0 1 4 (fun v29 => (if ((v29 >>> (l3 &&& 31)) &&& (1 : Int32)) = 0 then J_X1_feedThose_176_103 l0 l1 l2 l3 M else (q_gR M l1 8 0 (fun c30 => q_nn c30 (fun r31 => (q_lI M 0 r31 (0 : Int32) (fun v32 => (if v32 = ((u25 + v28) - (1 : Int32)) then (q_gR M l0 1 1 (fun c33 => q_nn c33 (fun r34 => (q_lI M 0 r34 l3 (fun v35 => (q_tI M r34 l3 (v35 + (1 : Int32)) (fun M36 => J_X1_feedThose_176_103 l0 l1 (l2 + (-1 : Int32)) l3 M36))))))) else J_X1_feedThose_176_103 l0 l1 l2 l3 M)))))))))))))))))))) else some (.inr (l2, M))) else some (.inr (l2, M))))))))
set_option maxRecDepth 100000 in
set_option maxHeartbeats 4000000 in
theorem bW_X1_feedThose_103 {K : q_K} {Q : State → Prop} (C : q_C K yX1_feedThose cX1_feedThose 6 (Option.none : Option Jvm.ClassFile.FieldType) 2 0 0) (l0 : Nat) (l1 : Nat) (l2 : Int32) (l3 : Int32) (M : q_Mem) {stp : (Int32 × Int32 × q_Mem) ⊕ (Int32 × q_Mem)} (h : B_X1_feedThose_103 l0 l1 l2 l3 M = some stp) (kC : ∀ (l2 : Int32) (l3 : Int32) (M : q_Mem), stp = .inl (l2, l3, M) → q_W K 6 Q 0 0 M 103 [some (.ref l0), some (.ref l1), some (.int l2), some (.int l3), none, none] []) (kE0 : ∀ (l2 : Int32) (M : q_Mem), stp = .inr (l2, M) → q_W K 6 Q 0 0 M 182 [some (.ref l0), none, some (.int l2), none, none, none] []) : q_W K 6 Q 0 0 M 103 [some (.ref l0), some (.ref l1), some (.int l2), some (.int l3), none, none] [] := by
  unfold B_X1_feedThose_103 at h
  refine q_iload_n C dX1_feedThose_103 rfl ?_
  refine q_aload_n C dX1_feedThose_104 rfl ?_
  refine x_getR (ci := 1) (j := 0) C dX1_feedThose_105 lkF_X1_47 rfl h (fun c20 h => ?_)
  refine x_nn h (fun r21 h => ?_)
  refine x_getI (ci := 3) (j := 5) C dX1_feedThose_108 lkF_X1_66 rfl h (fun v22 h => ?_)
  refine q_icmp_ge (tgt := 182) C dX1_feedThose_111 (by decide) h (fun _ h => ?_) (fun _ h => ?_)
  · refine q_iload_n C dX1_feedThose_114 rfl ?_
    refine q_if_le (tgt := 182) C dX1_feedThose_115 (by decide) h (fun _ h => ?_) (fun _ h => ?_)
    · refine q_aload_n C dX1_feedThose_118 rfl ?_
      refine x_getR (ci := 1) (j := 0) C dX1_feedThose_119 lkF_X1_47 rfl h (fun c23 h => ?_)
      refine x_nn h (fun r24 h => ?_)
      refine q_iload_n C dX1_feedThose_122 rfl ?_
      refine x_iconst (v := (0 : Int32)) C dX1_feedThose_123 (by decide) ?_
      obtain ⟨hk, h⟩ := q_obE h
      obtain ⟨u25, e1, h⟩ := q_bind h
      refine x_callV0 C dX1_feedThose_124 lkM_X1_56 mV_X3_ofGuest ⟨_, rfl, rfl⟩ hk (c_X3_ofGuest _ _ _ _ _ _ e1) rfl rfl (Nat.le_of_ble_eq_true rfl) (by decide) (by decide) ?_
      refine q_aload_n C dX1_feedThose_127 rfl ?_
      refine x_getR (ci := 8) (j := 0) C dX1_feedThose_128 lkF_X1_51 rfl h (fun c26 h => ?_)
      refine x_nn h (fun r27 h => ?_)
      refine x_bipush (v := (13 : Int32)) C dX1_feedThose_131 (by decide) ?_
      refine q_iload_n C dX1_feedThose_133 rfl ?_
      refine q_iadd C dX1_feedThose_134 ?_
      refine x_iald C dX1_feedThose_135 h (fun v28 h => ?_)
      refine q_iadd C dX1_feedThose_136 ?_
      refine x_iconst (v := (1 : Int32)) C dX1_feedThose_137 (by decide) ?_
      refine q_isub C dX1_feedThose_138 ?_
      refine q_istore (L' := [some (.ref l0), some (.ref l1), some (.int l2), some (.int l3), some (.int ((u25 + v28) - (1 : Int32))), none]) C dX1_feedThose_139 (by decide) rfl rfl ?_
      refine q_aload_n C dX1_feedThose_141 rfl ?_
      refine x_getI (ci := 1) (j := 4) C dX1_feedThose_142 lkF_X1_22 rfl h (fun v29 h => ?_)
      refine q_iload_n C dX1_feedThose_145 rfl ?_
      refine q_ishr C dX1_feedThose_146 ?_
      refine x_iconst (v := (1 : Int32)) C dX1_feedThose_147 (by decide) ?_
      refine q_iand C dX1_feedThose_148 ?_
      refine q_if_eq (tgt := 176) C dX1_feedThose_149 (by decide) h (fun _ h => ?_) (fun _ h => ?_)
      · exact q_msk [true, true, true, true, false, false] (jW_X1_feedThose_176_103 C l0 l1 l2 l3 M h kC kE0)
      · refine q_aload_n C dX1_feedThose_152 rfl ?_
        refine x_getR (ci := 8) (j := 0) C dX1_feedThose_153 lkF_X1_51 rfl h (fun c30 h => ?_)
        refine x_nn h (fun r31 h => ?_)
        refine x_iconst (v := (0 : Int32)) C dX1_feedThose_156 (by decide) ?_
        refine x_iald C dX1_feedThose_157 h (fun v32 h => ?_)
        refine q_iload C dX1_feedThose_158 rfl ?_
        refine q_icmp_ne (tgt := 176) C dX1_feedThose_160 (by decide) h (fun _ h => ?_) (fun _ h => ?_)
        · refine q_aload_n C dX1_feedThose_163 rfl ?_
          refine x_getR (ci := 1) (j := 1) C dX1_feedThose_164 lkF_X1_9 rfl h (fun c33 h => ?_)
          refine x_nn h (fun r34 h => ?_)
          refine q_iload_n C dX1_feedThose_167 rfl ?_
          refine q_dup2 C dX1_feedThose_168 rfl rfl ?_
          refine x_iald C dX1_feedThose_169 h (fun v35 h => ?_)
          refine x_iconst (v := (1 : Int32)) C dX1_feedThose_170 (by decide) ?_
          refine q_iadd C dX1_feedThose_171 ?_
          refine x_iast C dX1_feedThose_172 h (fun M36 h => ?_)
          refine x_iinc (w := (-1 : Int32)) (L' := [some (.ref l0), some (.ref l1), some (.int (l2 + (-1 : Int32))), some (.int l3), some (.int ((u25 + v28) - (1 : Int32))), none]) C dX1_feedThose_173 rfl (by decide) (by decide) rfl rfl ?_
          exact q_msk [true, true, true, true, false, false] (jW_X1_feedThose_176_103 C l0 l1 (l2 + (-1 : Int32)) l3 M36 h kC kE0)
        · exact q_msk [true, true, true, true, false, false] (jW_X1_feedThose_176_103 C l0 l1 l2 l3 M h kC kE0)
    · exact q_msk [true, false, true, false, false, false] (kE0 _ _ (Option.some.inj h).symm)
  · exact q_msk [true, false, true, false, false, false] (kE0 _ _ (Option.some.inj h).symm)
set_option maxRecDepth 100000 in
set_option maxHeartbeats 4000000 in
theorem lW_X1_feedThose_103 {K : q_K} {Q : State → Prop} (C : q_C K yX1_feedThose cX1_feedThose 6 (Option.none : Option Jvm.ClassFile.FieldType) 2 0 0) (l0 : Nat) (l1 : Nat) (n : Nat) : ∀ (l2 : Int32) (l3 : Int32) (M : q_Mem) (e : (Int32 × q_Mem)), q_lp (fun s => B_X1_feedThose_103 l0 l1 s.1 s.2.1 s.2.2) n (l2, l3, M) = some e → (∀ (l2 : Int32) (M : q_Mem), e = (l2, M) → q_W K 6 Q 0 0 M 182 [some (.ref l0), none, some (.int l2), none, none, none] []) → q_W K 6 Q 0 0 M 103 [some (.ref l0), some (.ref l1), some (.int l2), some (.int l3), none, none] [] := by
  induction n with
  | zero => intro l2 l3 M e h; cases h
  | succ n ih =>
    intro l2 l3 M e h kE0
    obtain ⟨stp, e1, e2⟩ := q_bind h
    refine bW_X1_feedThose_103 C l0 l1 l2 l3 M e1 (fun a0 a1 a2 hs => ?_) (fun b0 b1 hs => ?_)
    · subst hs; exact ih _ _ _ _ e2 kE0
    · subst hs; exact kE0 _ _ (Option.some.inj e2).symm
noncomputable def F_X1_feedThose (l0 : Nat) (l1 : Nat) (M : q_Mem) : Option (Unit × q_Mem) := (q_gI M l0 1 9 (fun v1 => (q_pI M l0 1 10 (0 : Int32) (fun M2 => (q_lp (fun s => B_X1_feedThose_12 l0 l1 s.1 s.2.1 s.2.2) q_fu (v1, (0 : Int32), M2)).bind (fun e17 => match e17 with | (w18, M19) => (q_lp (fun s => B_X1_feedThose_103 l0 l1 s.1 s.2.1 s.2.2) q_fu (w18, (0 : Int32), M19)).bind (fun e37 => match e37 with | (w38, M39) => (q_pI M39 l0 1 11 w38 (fun M40 => some ((), M40)))))))))
set_option maxRecDepth 100000 in
set_option maxHeartbeats 4000000 in
theorem c_X1_feedThose (l : Launch) (G : q_G) (l0 : Nat) (l1 : Nat) (M : q_Mem) {r : Unit} {M' : q_Mem} (h : F_X1_feedThose l0 l1 M = some (r, M')) : q_Met l G yX1_feedThose cX1_feedThose 6 (Option.none : Option Jvm.ClassFile.FieldType) 2 0 0 [.ref l0, .ref l1] M none M' := by
  unfold F_X1_feedThose at h
  refine q_enter [some (.ref l0), some (.ref l1), none, none, none, none] (by decide) (Nat.le_of_ble_eq_true rfl) rfl (fun K C => ?_)
  refine q_aload_n C dX1_feedThose_0 rfl ?_
  refine x_getI (ci := 1) (j := 9) C dX1_feedThose_1 lkF_X1_38 rfl h (fun v1 h => ?_)
  refine q_istore_n (L' := [some (.ref l0), some (.ref l1), some (.int v1), none, none, none]) C dX1_feedThose_4 (by decide) rfl rfl ?_
  refine q_aload_n C dX1_feedThose_5 rfl ?_
  refine x_iconst (v := (0 : Int32)) C dX1_feedThose_6 (by decide) ?_
  refine x_putI (ci := 1) (j := 10) C dX1_feedThose_7 lkF_X1_41 (fun r hr => by cases hr; rfl) rfl h (fun M2 h => ?_)
  refine x_iconst (v := (0 : Int32)) C dX1_feedThose_10 (by decide) ?_
  refine q_istore_n (L' := [some (.ref l0), some (.ref l1), some (.int v1), some (.int (0 : Int32)), none, none]) C dX1_feedThose_11 (by decide) rfl rfl ?_
  obtain ⟨e17, he, h⟩ := q_bind h
  refine q_msk [true, true, true, true, false, false] (lW_X1_feedThose_12 C l0 l1 q_fu _ _ _ _ he (fun w18 M19 hs => ?_))
  · have hs := hs.symm
    subst hs
    refine x_iconst (v := (0 : Int32)) C dX1_feedThose_101 (by decide) ?_
    refine q_istore_n (L' := [some (.ref l0), some (.ref l1), some (.int w18), some (.int (0 : Int32)), none, none]) C dX1_feedThose_102 (by decide) rfl rfl ?_
    obtain ⟨e37, he, h⟩ := q_bind h
    refine q_msk [true, true, true, true, false, false] (lW_X1_feedThose_103 C l0 l1 q_fu _ _ _ _ he (fun w38 M39 hs => ?_))
    · have hs := hs.symm
      subst hs
      refine q_aload_n C dX1_feedThose_182 rfl ?_
      refine q_iload_n C dX1_feedThose_183 rfl ?_
      refine x_putI (ci := 1) (j := 11) C dX1_feedThose_184 lkF_X1_44 (fun r hr => by cases hr; rfl) rfl h (fun M40 h => ?_)
      exact q_vret C dX1_feedThose_187 rfl (by decide) (by decide) (Option.some.inj h)
noncomputable def J_X1_lay_39_7 (l0 : Nat) (l1 : Nat) (l2 : Int32) (M : q_Mem) : Option ((Int32 × q_Mem) ⊕ (q_Mem)) := some (.inl ((l2 + (1 : Int32)), M))
set_option maxRecDepth 100000 in
set_option maxHeartbeats 4000000 in
theorem jW_X1_lay_39_7 {K : q_K} {Q : State → Prop} (C : q_C K yX1_lay cX1_lay 3 (Option.none : Option Jvm.ClassFile.FieldType) 3 0 0) (l0 : Nat) (l1 : Nat) (l2 : Int32) (M : q_Mem) {stp : (Int32 × q_Mem) ⊕ (q_Mem)} (h : J_X1_lay_39_7 l0 l1 l2 M = some stp) (kC : ∀ (l2 : Int32) (M : q_Mem), stp = .inl (l2, M) → q_W K 3 Q 0 0 M 7 [some (.ref l0), some (.ref l1), some (.int l2)] []) (kE0 : ∀ (M : q_Mem), stp = .inr M → q_W K 3 Q 0 0 M 45 [some (.ref l0), some (.ref l1), none] []) : q_W K 3 Q 0 0 M 39 [some (.ref l0), some (.ref l1), some (.int l2)] [] := by
  unfold J_X1_lay_39_7 at h
  refine x_iinc (w := (1 : Int32)) (L' := [some (.ref l0), some (.ref l1), some (.int (l2 + (1 : Int32)))]) C dX1_lay_39 rfl (by decide) (by decide) rfl rfl ?_
  refine q_goto (tgt := 7) C dX1_lay_42 (by decide) ?_
  exact q_msk [true, true, true] (kC _ _ (Option.some.inj h).symm)
noncomputable def B_X1_lay_7 (l0 : Nat) (l1 : Nat) (l2 : Int32) (M : q_Mem) : Option ((Int32 × q_Mem) ⊕ (q_Mem)) := (q_gR M l0 1 0 (fun c2 => q_nn c2 (fun r3 => (q_gI M r3 3 5 (fun v4 => (if l2 < v4 then (q_ob M l0 1 ((F_X1_isThere l0 l1 l2 M).bind (fun u5 => (if u5 = 0 then J_X1_lay_39_7 l0 l1 l2 M else (q_gI M l0 1 4 (fun v6 => (q_pI M l0 1 4 (v6 ||| ((1 : Int32) <<< (l2 &&& 31))) (fun M7 => J_X1_lay_39_7 l0 l1 l2 M7)))))))) else some (.inr M)))))))
set_option maxRecDepth 100000 in
set_option maxHeartbeats 4000000 in
theorem bW_X1_lay_7 {K : q_K} {Q : State → Prop} (C : q_C K yX1_lay cX1_lay 3 (Option.none : Option Jvm.ClassFile.FieldType) 3 0 0) (l0 : Nat) (l1 : Nat) (l2 : Int32) (M : q_Mem) {stp : (Int32 × q_Mem) ⊕ (q_Mem)} (h : B_X1_lay_7 l0 l1 l2 M = some stp) (kC : ∀ (l2 : Int32) (M : q_Mem), stp = .inl (l2, M) → q_W K 3 Q 0 0 M 7 [some (.ref l0), some (.ref l1), some (.int l2)] []) (kE0 : ∀ (M : q_Mem), stp = .inr M → q_W K 3 Q 0 0 M 45 [some (.ref l0), some (.ref l1), none] []) : q_W K 3 Q 0 0 M 7 [some (.ref l0), some (.ref l1), some (.int l2)] [] := by
  unfold B_X1_lay_7 at h
  refine q_iload_n C dX1_lay_7 rfl ?_
  refine q_aload_n C dX1_lay_8 rfl ?_
  refine x_getR (ci := 1) (j := 0) C dX1_lay_9 lkF_X1_47 rfl h (fun c2 h => ?_)
  refine x_nn h (fun r3 h => ?_)
  refine x_getI (ci := 3) (j := 5) C dX1_lay_12 lkF_X1_66 rfl h (fun v4 h => ?_)
  refine q_icmp_ge (tgt := 45) C dX1_lay_15 (by decide) h (fun _ h => ?_) (fun _ h => ?_)
  · refine q_aload_n C dX1_lay_18 rfl ?_
    refine q_aload_n C dX1_lay_19 rfl ?_
    refine q_iload_n C dX1_lay_20 rfl ?_
    obtain ⟨hk, h⟩ := q_obE h
    obtain ⟨u5, e1, h⟩ := q_bind h
    refine x_callV0 C dX1_lay_21 lkM_X1_69 mV_X1_isThere ⟨_, rfl, rfl⟩ hk (c_X1_isThere _ _ _ _ _ _ e1) rfl rfl (Nat.le_of_ble_eq_true rfl) (by decide) (by decide) ?_
    refine q_if_eq (tgt := 39) C dX1_lay_24 (by decide) h (fun _ h => ?_) (fun _ h => ?_)
    · exact q_msk [true, true, true] (jW_X1_lay_39_7 C l0 l1 l2 M h kC kE0)
    · refine q_aload_n C dX1_lay_27 rfl ?_
      refine q_dup C dX1_lay_28 rfl ?_
      refine x_getI (ci := 1) (j := 4) C dX1_lay_29 lkF_X1_22 rfl h (fun v6 h => ?_)
      refine x_iconst (v := (1 : Int32)) C dX1_lay_32 (by decide) ?_
      refine q_iload_n C dX1_lay_33 rfl ?_
      refine q_ishl C dX1_lay_34 ?_
      refine q_ior C dX1_lay_35 ?_
      refine x_putI (ci := 1) (j := 4) C dX1_lay_36 lkF_X1_22 (fun r hr => by cases hr; rfl) rfl h (fun M7 h => ?_)
      exact q_msk [true, true, true] (jW_X1_lay_39_7 C l0 l1 l2 M7 h kC kE0)
  · exact q_msk [true, true, false] (kE0 _ (Option.some.inj h).symm)
set_option maxRecDepth 100000 in
set_option maxHeartbeats 4000000 in
theorem lW_X1_lay_7 {K : q_K} {Q : State → Prop} (C : q_C K yX1_lay cX1_lay 3 (Option.none : Option Jvm.ClassFile.FieldType) 3 0 0) (l0 : Nat) (l1 : Nat) (n : Nat) : ∀ (l2 : Int32) (M : q_Mem) (e : (q_Mem)), q_lp (fun s => B_X1_lay_7 l0 l1 s.1 s.2) n (l2, M) = some e → (∀ (M : q_Mem), e = M → q_W K 3 Q 0 0 M 45 [some (.ref l0), some (.ref l1), none] []) → q_W K 3 Q 0 0 M 7 [some (.ref l0), some (.ref l1), some (.int l2)] [] := by
  induction n with
  | zero => intro l2 M e h; cases h
  | succ n ih =>
    intro l2 M e h kE0
    obtain ⟨stp, e1, e2⟩ := q_bind h
    refine bW_X1_lay_7 C l0 l1 l2 M e1 (fun a0 a1 hs => ?_) (fun b0 hs => ?_)
    · subst hs; exact ih _ _ _ e2 kE0
    · subst hs; exact kE0 _ (Option.some.inj e2).symm
noncomputable def J_X1_lay_78 (l0 : Nat) (l1 : Nat) (s0 : Nat) (s1 : Int32) (M : q_Mem) : Option (Unit × q_Mem) := (q_pI M s0 1 5 s1 (fun M19 => (q_gI M19 l0 1 4 (fun v20 => ((F_J6_bitCount_0f7a4 v20 M19).bind (fun u21 => (q_pI M19 l0 1 6 u21 (fun M22 => (q_ob M22 l0 1 ((F_X1_serve l0 l1 M22).bind (fun x => match x with | (_, M24) => (q_ob M24 l0 1 ((F_X1_feedThose l0 l1 M24).bind (fun x => match x with | (_, M26) => some ((), M26)))))))))))))))
set_option maxRecDepth 100000 in
set_option maxHeartbeats 4000000 in
theorem jW_X1_lay_78 {K : q_K} (C : q_C K yX1_lay cX1_lay 3 (Option.none : Option Jvm.ClassFile.FieldType) 3 0 0) (l0 : Nat) (l1 : Nat) (s0 : Nat) (s1 : Int32) (M : q_Mem) {r : Unit} {M' : q_Mem} (h : J_X1_lay_78 l0 l1 s0 s1 M = some (r, M')) : q_W K 3 (q_Q K none M' 0 0) 0 0 M 78 [some (.ref l0), some (.ref l1), none] [.int s1, .ref s0] := by
  unfold J_X1_lay_78 at h
  refine x_putI (ci := 1) (j := 5) C dX1_lay_78 lkF_X1_26 (fun r hr => by cases hr; rfl) rfl h (fun M19 h => ?_)
  refine q_aload_n C dX1_lay_81 rfl ?_
  refine q_aload_n C dX1_lay_82 rfl ?_
  refine x_getI (ci := 1) (j := 4) C dX1_lay_83 lkF_X1_22 rfl h (fun v20 h => ?_)
  obtain ⟨u21, e1, h⟩ := q_bind h
  refine x_callS0 C dX1_lay_86 lkM_X1_77 mS_J6_bitCount_0f7a4 (c_J6_bitCount_0f7a4 _ _ _ _ e1) rfl rfl (Nat.le_of_ble_eq_true rfl) (by decide) (by decide) ?_
  refine x_putI (ci := 1) (j := 6) C dX1_lay_89 lkF_X1_29 (fun r hr => by cases hr; rfl) rfl h (fun M22 h => ?_)
  refine q_aload_n C dX1_lay_92 rfl ?_
  refine q_aload_n C dX1_lay_93 rfl ?_
  obtain ⟨hk, h⟩ := q_obE h
  obtain ⟨⟨_, M24⟩, e1, h⟩ := q_bind h
  refine x_callVv0 C dX1_lay_94 lkM_X1_82 mV_X1_serve ⟨_, rfl, rfl⟩ hk (c_X1_serve _ _ _ _ _ e1) rfl rfl (Nat.le_of_ble_eq_true rfl) (by decide) (by decide) ?_
  refine q_aload_n C dX1_lay_97 rfl ?_
  refine q_aload_n C dX1_lay_98 rfl ?_
  obtain ⟨hk, h⟩ := q_obE h
  obtain ⟨⟨_, M26⟩, e1, h⟩ := q_bind h
  refine x_callVv0 C dX1_lay_99 lkM_X1_86 mV_X1_feedThose ⟨_, rfl, rfl⟩ hk (c_X1_feedThose _ _ _ _ _ e1) rfl rfl (Nat.le_of_ble_eq_true rfl) (by decide) (by decide) ?_
  exact q_vret C dX1_lay_102 rfl (by decide) (by decide) (Option.some.inj h)
noncomputable def F_X1_lay (l0 : Nat) (l1 : Nat) (M : q_Mem) : Option (Unit × q_Mem) := (q_pI M l0 1 4 (0 : Int32) (fun M1 => (q_lp (fun s => B_X1_lay_7 l0 l1 s.1 s.2) q_fu ((0 : Int32), M1)).bind (fun e8 => match e8 with | M9 => (q_gR M9 l1 8 0 (fun c10 => q_nn c10 (fun r11 => (q_lI M9 0 r11 (3 : Int32) (fun v12 => (if v12 = (-1 : Int32) then (q_gR M9 l0 1 0 (fun c13 => q_nn c13 (fun r14 => (q_gR M9 l1 8 0 (fun c15 => q_nn c15 (fun r16 => (q_lI M9 0 r16 (0 : Int32) (fun v17 => (q_ob M9 r14 3 ((F_X3_dishByDay r14 v17 M9).bind (fun u18 => J_X1_lay_78 l0 l1 l0 u18 M9))))))))))) else (q_gR M9 l1 8 0 (fun c27 => q_nn c27 (fun r28 => (q_lI M9 0 r28 (3 : Int32) (fun v29 => J_X1_lay_78 l0 l1 l0 v29 M9))))))))))))))
set_option maxRecDepth 100000 in
set_option maxHeartbeats 4000000 in
theorem c_X1_lay (l : Launch) (G : q_G) (l0 : Nat) (l1 : Nat) (M : q_Mem) {r : Unit} {M' : q_Mem} (h : F_X1_lay l0 l1 M = some (r, M')) : q_Met l G yX1_lay cX1_lay 3 (Option.none : Option Jvm.ClassFile.FieldType) 3 0 0 [.ref l0, .ref l1] M none M' := by
  unfold F_X1_lay at h
  refine q_enter [some (.ref l0), some (.ref l1), none] (by decide) (Nat.le_of_ble_eq_true rfl) rfl (fun K C => ?_)
  refine q_aload_n C dX1_lay_0 rfl ?_
  refine x_iconst (v := (0 : Int32)) C dX1_lay_1 (by decide) ?_
  refine x_putI (ci := 1) (j := 4) C dX1_lay_2 lkF_X1_22 (fun r hr => by cases hr; rfl) rfl h (fun M1 h => ?_)
  refine x_iconst (v := (0 : Int32)) C dX1_lay_5 (by decide) ?_
  refine q_istore_n (L' := [some (.ref l0), some (.ref l1), some (.int (0 : Int32))]) C dX1_lay_6 (by decide) rfl rfl ?_
  obtain ⟨e8, he, h⟩ := q_bind h
  refine q_msk [true, true, true] (lW_X1_lay_7 C l0 l1 q_fu _ _ _ he (fun M9 hs => ?_))
  · have hs := hs.symm
    subst hs
    refine q_aload_n C dX1_lay_45 rfl ?_
    refine q_aload_n C dX1_lay_46 rfl ?_
    refine x_getR (ci := 8) (j := 0) C dX1_lay_47 lkF_X1_51 rfl h (fun c10 h => ?_)
    refine x_nn h (fun r11 h => ?_)
    refine x_iconst (v := (3 : Int32)) C dX1_lay_50 (by decide) ?_
    refine x_iald C dX1_lay_51 h (fun v12 h => ?_)
    refine x_iconst (v := (-1 : Int32)) C dX1_lay_52 (by decide) ?_
    refine q_icmp_ne (tgt := 72) C dX1_lay_53 (by decide) h (fun _ h => ?_) (fun _ h => ?_)
    · refine q_aload_n C dX1_lay_56 rfl ?_
      refine x_getR (ci := 1) (j := 0) C dX1_lay_57 lkF_X1_47 rfl h (fun c13 h => ?_)
      refine x_nn h (fun r14 h => ?_)
      refine q_aload_n C dX1_lay_60 rfl ?_
      refine x_getR (ci := 8) (j := 0) C dX1_lay_61 lkF_X1_51 rfl h (fun c15 h => ?_)
      refine x_nn h (fun r16 h => ?_)
      refine x_iconst (v := (0 : Int32)) C dX1_lay_64 (by decide) ?_
      refine x_iald C dX1_lay_65 h (fun v17 h => ?_)
      obtain ⟨hk, h⟩ := q_obE h
      obtain ⟨u18, e1, h⟩ := q_bind h
      refine x_callV0 C dX1_lay_66 lkM_X1_73 mV_X3_dishByDay ⟨_, rfl, rfl⟩ hk (c_X3_dishByDay _ _ _ _ _ e1) rfl rfl (Nat.le_of_ble_eq_true rfl) (by decide) (by decide) ?_
      refine q_goto (tgt := 78) C dX1_lay_69 (by decide) ?_
      exact q_msk [true, true, false] (jW_X1_lay_78 C l0 l1 l0 u18 M9 h)
    · refine q_aload_n C dX1_lay_72 rfl ?_
      refine x_getR (ci := 8) (j := 0) C dX1_lay_73 lkF_X1_51 rfl h (fun c27 h => ?_)
      refine x_nn h (fun r28 h => ?_)
      refine x_iconst (v := (3 : Int32)) C dX1_lay_76 (by decide) ?_
      refine x_iald C dX1_lay_77 h (fun v29 h => ?_)
      exact q_msk [true, true, false] (jW_X1_lay_78 C l0 l1 l0 v29 M9 h)
noncomputable def J_X4_joined_151 (l3 : Int64) (M : q_Mem) : Option (Int32) := (if 0 < (lg_cmp l3 (1000000 : Int64)) then some ((1000000 : Int64).toInt32) else (if (lg_cmp l3 (-1000000 : Int64)) < 0 then some ((-1000000 : Int64).toInt32) else some l3.toInt32))
set_option maxRecDepth 100000 in
set_option maxHeartbeats 4000000 in
theorem jW_X4_joined_151 {K : q_K} (C : q_C K yX4_joined cX4_joined 5 (Option.some Jvm.ClassFile.FieldType.int) 1 0 0) (l3 : Int64) (M : q_Mem) {r : Int32} (h : J_X4_joined_151 l3 M = some r) : q_W K 5 (q_Q K (some (.int r)) M 0 0) 0 0 M 151 [none, none, none, some (.long l3), none] [] := by
  unfold J_X4_joined_151 at h
  refine q_lload_n C dX4_joined_151 rfl ?_
  refine q_ldc2 (v := (1000000 : Int64)) C dX4_joined_152 wd_769 ?_
  refine q_lcmp C dX4_joined_155 ?_
  refine q_if_le (tgt := 165) C dX4_joined_156 (by decide) h (fun _ h => ?_) (fun _ h => ?_)
  · refine q_ldc2 (v := (1000000 : Int64)) C dX4_joined_159 wd_769 ?_
    refine q_goto (tgt := 180) C dX4_joined_162 (by decide) ?_
    refine q_l2i C dX4_joined_180 ?_
    exact q_iret (res := (r, M)) C dX4_joined_181 rfl (by decide) (by decide) (congrArg (fun z => (z, M)) (Option.some.inj h))
  · refine q_lload_n C dX4_joined_165 rfl ?_
    refine q_ldc2 (v := (-1000000 : Int64)) C dX4_joined_166 wd_770 ?_
    refine q_lcmp C dX4_joined_169 ?_
    refine q_if_ge (tgt := 179) C dX4_joined_170 (by decide) h (fun _ h => ?_) (fun _ h => ?_)
    · refine q_ldc2 (v := (-1000000 : Int64)) C dX4_joined_173 wd_770 ?_
      refine q_goto (tgt := 180) C dX4_joined_176 (by decide) ?_
      refine q_l2i C dX4_joined_180 ?_
      exact q_iret (res := (r, M)) C dX4_joined_181 rfl (by decide) (by decide) (congrArg (fun z => (z, M)) (Option.some.inj h))
    · refine q_lload_n C dX4_joined_179 rfl ?_
      refine q_l2i C dX4_joined_180 ?_
      exact q_iret (res := (r, M)) C dX4_joined_181 rfl (by decide) (by decide) (congrArg (fun z => (z, M)) (Option.some.inj h))
noncomputable def J_X4_joined_131 (s0 : Int64) (M : q_Mem) : Option (Int32) := J_X4_joined_151 s0 M
set_option maxRecDepth 100000 in
set_option maxHeartbeats 4000000 in
theorem jW_X4_joined_131 {K : q_K} (C : q_C K yX4_joined cX4_joined 5 (Option.some Jvm.ClassFile.FieldType.int) 1 0 0) (s0 : Int64) (M : q_Mem) {r : Int32} (h : J_X4_joined_131 s0 M = some r) : q_W K 5 (q_Q K (some (.int r)) M 0 0) 0 0 M 131 [none, none, none, none, none] [.long s0] := by
  unfold J_X4_joined_131 at h
  refine q_lstore_n (L' := [none, none, none, some (.long s0), none]) C dX4_joined_131 (by decide) rfl rfl ?_
  refine q_goto (tgt := 151) C dX4_joined_132 (by decide) ?_
  exact q_msk [false, false, false, true, false] (jW_X4_joined_151 C s0 M h)
noncomputable def J_X4_joined_117 (s0 : Int64) (M : q_Mem) : Option (Int32) := J_X4_joined_151 s0 M
set_option maxRecDepth 100000 in
set_option maxHeartbeats 4000000 in
theorem jW_X4_joined_117 {K : q_K} (C : q_C K yX4_joined cX4_joined 5 (Option.some Jvm.ClassFile.FieldType.int) 1 0 0) (s0 : Int64) (M : q_Mem) {r : Int32} (h : J_X4_joined_117 s0 M = some r) : q_W K 5 (q_Q K (some (.int r)) M 0 0) 0 0 M 117 [none, none, none, none, none] [.long s0] := by
  unfold J_X4_joined_117 at h
  refine q_lstore_n (L' := [none, none, none, some (.long s0), none]) C dX4_joined_117 (by decide) rfl rfl ?_
  refine q_goto (tgt := 151) C dX4_joined_118 (by decide) ?_
  exact q_msk [false, false, false, true, false] (jW_X4_joined_151 C s0 M h)
noncomputable def J_X4_joined_103 (s0 : Int64) (M : q_Mem) : Option (Int32) := J_X4_joined_151 s0 M
set_option maxRecDepth 100000 in
set_option maxHeartbeats 4000000 in
theorem jW_X4_joined_103 {K : q_K} (C : q_C K yX4_joined cX4_joined 5 (Option.some Jvm.ClassFile.FieldType.int) 1 0 0) (s0 : Int64) (M : q_Mem) {r : Int32} (h : J_X4_joined_103 s0 M = some r) : q_W K 5 (q_Q K (some (.int r)) M 0 0) 0 0 M 103 [none, none, none, none, none] [.long s0] := by
  unfold J_X4_joined_103 at h
  refine q_lstore_n (L' := [none, none, none, some (.long s0), none]) C dX4_joined_103 (by decide) rfl rfl ?_
  refine q_goto (tgt := 151) C dX4_joined_104 (by decide) ?_
  exact q_msk [false, false, false, true, false] (jW_X4_joined_151 C s0 M h)
noncomputable def J_X4_joined_89 (s0 : Int64) (M : q_Mem) : Option (Int32) := J_X4_joined_151 s0 M
set_option maxRecDepth 100000 in
set_option maxHeartbeats 4000000 in
theorem jW_X4_joined_89 {K : q_K} (C : q_C K yX4_joined cX4_joined 5 (Option.some Jvm.ClassFile.FieldType.int) 1 0 0) (s0 : Int64) (M : q_Mem) {r : Int32} (h : J_X4_joined_89 s0 M = some r) : q_W K 5 (q_Q K (some (.int r)) M 0 0) 0 0 M 89 [none, none, none, none, none] [.long s0] := by
  unfold J_X4_joined_89 at h
  refine q_lstore_n (L' := [none, none, none, some (.long s0), none]) C dX4_joined_89 (by decide) rfl rfl ?_
  refine q_goto (tgt := 151) C dX4_joined_90 (by decide) ?_
  exact q_msk [false, false, false, true, false] (jW_X4_joined_151 C s0 M h)
noncomputable def F_X4_joined (l0 : Int32) (l1 : Int32) (l2 : Int32) (M : q_Mem) : Option (Int32) := (if l0 = (-15 : Int32) then J_X4_joined_151 ((l1 ||| l2).toInt64) M else (if l0 = (-14 : Int32) then J_X4_joined_151 ((l1 &&& l2).toInt64) M else (if l0 = (-13 : Int32) then (if l2 < l1 then J_X4_joined_131 (1 : Int64) M else J_X4_joined_131 (0 : Int64) M) else (if l0 = (-12 : Int32) then (if l1 < l2 then J_X4_joined_117 (1 : Int64) M else J_X4_joined_117 (0 : Int64) M) else (if l0 = (-11 : Int32) then (if l1 = l2 then J_X4_joined_103 (1 : Int64) M else J_X4_joined_103 (0 : Int64) M) else (if l0 = (-10 : Int32) then (if l2 = 0 then J_X4_joined_89 (0 : Int64) M else (q_dvi l1 l2 (fun v1 => J_X4_joined_89 v1.toInt64 M))) else (if l0 = (-9 : Int32) then J_X4_joined_151 (l1.toInt64 * l2.toInt64) M else (if l0 = (-8 : Int32) then J_X4_joined_151 ((l1 - l2).toInt64) M else (if l0 = (-7 : Int32) then J_X4_joined_151 ((l1 + l2).toInt64) M else J_X4_joined_151 (0 : Int64) M)))))))))
set_option maxRecDepth 100000 in
set_option maxHeartbeats 4000000 in
theorem c_X4_joined (l : Launch) (G : q_G) (l0 : Int32) (l1 : Int32) (l2 : Int32) (M : q_Mem) {r : Int32} (h : F_X4_joined l0 l1 l2 M = some r) : q_Met l G yX4_joined cX4_joined 5 (Option.some Jvm.ClassFile.FieldType.int) 1 0 0 [.int l0, .int l1, .int l2] M (some (.int r)) M := by
  unfold F_X4_joined at h
  refine q_enter [some (.int l0), some (.int l1), some (.int l2), none, none] (by decide) (Nat.le_of_ble_eq_true rfl) rfl (fun K C => ?_)
  refine x_lconst (v := (0 : Int64)) C dX4_joined_0 (by decide) ?_
  refine q_lstore_n (L' := [some (.int l0), some (.int l1), some (.int l2), some (.long (0 : Int64)), none]) C dX4_joined_1 (by decide) rfl rfl ?_
  refine q_iload_n C dX4_joined_2 rfl ?_
  by_cases hs3_0 : l0 = (-15 : Int32)
  · rw [if_pos hs3_0] at h
    refine q_tsIn (tgt := 143) C dX4_joined_3 hs3_0 (by decide) (by decide) rfl (by decide) ?_
    refine q_iload_n C dX4_joined_143 rfl ?_
    refine q_iload_n C dX4_joined_144 rfl ?_
    refine q_ior C dX4_joined_145 ?_
    refine q_i2l C dX4_joined_146 ?_
    refine q_lstore_n (L' := [some (.int l0), some (.int l1), some (.int l2), some (.long (l1 ||| l2).toInt64), none]) C dX4_joined_147 (by decide) rfl rfl ?_
    refine q_goto (tgt := 151) C dX4_joined_148 (by decide) ?_
    exact q_msk [false, false, false, true, false] (jW_X4_joined_151 C ((l1 ||| l2).toInt64) M h)
  rw [if_neg hs3_0] at h
  by_cases hs3_1 : l0 = (-14 : Int32)
  · rw [if_pos hs3_1] at h
    refine q_tsIn (tgt := 135) C dX4_joined_3 hs3_1 (by decide) (by decide) rfl (by decide) ?_
    refine q_iload_n C dX4_joined_135 rfl ?_
    refine q_iload_n C dX4_joined_136 rfl ?_
    refine q_iand C dX4_joined_137 ?_
    refine q_i2l C dX4_joined_138 ?_
    refine q_lstore_n (L' := [some (.int l0), some (.int l1), some (.int l2), some (.long (l1 &&& l2).toInt64), none]) C dX4_joined_139 (by decide) rfl rfl ?_
    refine q_goto (tgt := 151) C dX4_joined_140 (by decide) ?_
    exact q_msk [false, false, false, true, false] (jW_X4_joined_151 C ((l1 &&& l2).toInt64) M h)
  rw [if_neg hs3_1] at h
  by_cases hs3_2 : l0 = (-13 : Int32)
  · rw [if_pos hs3_2] at h
    refine q_tsIn (tgt := 121) C dX4_joined_3 hs3_2 (by decide) (by decide) rfl (by decide) ?_
    refine q_iload_n C dX4_joined_121 rfl ?_
    refine q_iload_n C dX4_joined_122 rfl ?_
    refine q_icmp_le (tgt := 130) C dX4_joined_123 (by decide) h (fun _ h => ?_) (fun _ h => ?_)
    · refine x_lconst (v := (1 : Int64)) C dX4_joined_126 (by decide) ?_
      refine q_goto (tgt := 131) C dX4_joined_127 (by decide) ?_
      exact q_msk [false, false, false, false, false] (jW_X4_joined_131 C (1 : Int64) M h)
    · refine x_lconst (v := (0 : Int64)) C dX4_joined_130 (by decide) ?_
      exact q_msk [false, false, false, false, false] (jW_X4_joined_131 C (0 : Int64) M h)
  rw [if_neg hs3_2] at h
  by_cases hs3_3 : l0 = (-12 : Int32)
  · rw [if_pos hs3_3] at h
    refine q_tsIn (tgt := 107) C dX4_joined_3 hs3_3 (by decide) (by decide) rfl (by decide) ?_
    refine q_iload_n C dX4_joined_107 rfl ?_
    refine q_iload_n C dX4_joined_108 rfl ?_
    refine q_icmp_ge (tgt := 116) C dX4_joined_109 (by decide) h (fun _ h => ?_) (fun _ h => ?_)
    · refine x_lconst (v := (1 : Int64)) C dX4_joined_112 (by decide) ?_
      refine q_goto (tgt := 117) C dX4_joined_113 (by decide) ?_
      exact q_msk [false, false, false, false, false] (jW_X4_joined_117 C (1 : Int64) M h)
    · refine x_lconst (v := (0 : Int64)) C dX4_joined_116 (by decide) ?_
      exact q_msk [false, false, false, false, false] (jW_X4_joined_117 C (0 : Int64) M h)
  rw [if_neg hs3_3] at h
  by_cases hs3_4 : l0 = (-11 : Int32)
  · rw [if_pos hs3_4] at h
    refine q_tsIn (tgt := 93) C dX4_joined_3 hs3_4 (by decide) (by decide) rfl (by decide) ?_
    refine q_iload_n C dX4_joined_93 rfl ?_
    refine q_iload_n C dX4_joined_94 rfl ?_
    refine q_icmp_ne (tgt := 102) C dX4_joined_95 (by decide) h (fun _ h => ?_) (fun _ h => ?_)
    · refine x_lconst (v := (1 : Int64)) C dX4_joined_98 (by decide) ?_
      refine q_goto (tgt := 103) C dX4_joined_99 (by decide) ?_
      exact q_msk [false, false, false, false, false] (jW_X4_joined_103 C (1 : Int64) M h)
    · refine x_lconst (v := (0 : Int64)) C dX4_joined_102 (by decide) ?_
      exact q_msk [false, false, false, false, false] (jW_X4_joined_103 C (0 : Int64) M h)
  rw [if_neg hs3_4] at h
  by_cases hs3_5 : l0 = (-10 : Int32)
  · rw [if_pos hs3_5] at h
    refine q_tsIn (tgt := 77) C dX4_joined_3 hs3_5 (by decide) (by decide) rfl (by decide) ?_
    refine q_iload_n C dX4_joined_77 rfl ?_
    refine q_if_ne (tgt := 85) C dX4_joined_78 (by decide) h (fun _ h => ?_) (fun _ h => ?_)
    · refine x_lconst (v := (0 : Int64)) C dX4_joined_81 (by decide) ?_
      refine q_goto (tgt := 89) C dX4_joined_82 (by decide) ?_
      exact q_msk [false, false, false, false, false] (jW_X4_joined_89 C (0 : Int64) M h)
    · refine q_iload_n C dX4_joined_85 rfl ?_
      refine q_iload_n C dX4_joined_86 rfl ?_
      refine q_idiv C dX4_joined_87 h (fun v1 h => ?_)
      refine q_i2l C dX4_joined_88 ?_
      exact q_msk [false, false, false, false, false] (jW_X4_joined_89 C v1.toInt64 M h)
  rw [if_neg hs3_5] at h
  by_cases hs3_6 : l0 = (-9 : Int32)
  · rw [if_pos hs3_6] at h
    refine q_tsIn (tgt := 68) C dX4_joined_3 hs3_6 (by decide) (by decide) rfl (by decide) ?_
    refine q_iload_n C dX4_joined_68 rfl ?_
    refine q_i2l C dX4_joined_69 ?_
    refine q_iload_n C dX4_joined_70 rfl ?_
    refine q_i2l C dX4_joined_71 ?_
    refine q_lmul C dX4_joined_72 ?_
    refine q_lstore_n (L' := [some (.int l0), some (.int l1), some (.int l2), some (.long (l1.toInt64 * l2.toInt64)), none]) C dX4_joined_73 (by decide) rfl rfl ?_
    refine q_goto (tgt := 151) C dX4_joined_74 (by decide) ?_
    exact q_msk [false, false, false, true, false] (jW_X4_joined_151 C (l1.toInt64 * l2.toInt64) M h)
  rw [if_neg hs3_6] at h
  by_cases hs3_7 : l0 = (-8 : Int32)
  · rw [if_pos hs3_7] at h
    refine q_tsIn (tgt := 60) C dX4_joined_3 hs3_7 (by decide) (by decide) rfl (by decide) ?_
    refine q_iload_n C dX4_joined_60 rfl ?_
    refine q_iload_n C dX4_joined_61 rfl ?_
    refine q_isub C dX4_joined_62 ?_
    refine q_i2l C dX4_joined_63 ?_
    refine q_lstore_n (L' := [some (.int l0), some (.int l1), some (.int l2), some (.long (l1 - l2).toInt64), none]) C dX4_joined_64 (by decide) rfl rfl ?_
    refine q_goto (tgt := 151) C dX4_joined_65 (by decide) ?_
    exact q_msk [false, false, false, true, false] (jW_X4_joined_151 C ((l1 - l2).toInt64) M h)
  rw [if_neg hs3_7] at h
  by_cases hs3_8 : l0 = (-7 : Int32)
  · rw [if_pos hs3_8] at h
    refine q_tsIn (tgt := 52) C dX4_joined_3 hs3_8 (by decide) (by decide) rfl (by decide) ?_
    refine q_iload_n C dX4_joined_52 rfl ?_
    refine q_iload_n C dX4_joined_53 rfl ?_
    refine q_iadd C dX4_joined_54 ?_
    refine q_i2l C dX4_joined_55 ?_
    refine q_lstore_n (L' := [some (.int l0), some (.int l1), some (.int l2), some (.long (l1 + l2).toInt64), none]) C dX4_joined_56 (by decide) rfl rfl ?_
    refine q_goto (tgt := 151) C dX4_joined_57 (by decide) ?_
    exact q_msk [false, false, false, true, false] (jW_X4_joined_151 C ((l1 + l2).toInt64) M h)
  rw [if_neg hs3_8] at h
  have ho3 : (l0 : Int32).toInt < -15 ∨ -7 < (l0 : Int32).toInt := by
    have z0 := lv_neT (a := -15) hs3_0 (by decide)
    have z1 := lv_neT (a := -14) hs3_1 (by decide)
    have z2 := lv_neT (a := -13) hs3_2 (by decide)
    have z3 := lv_neT (a := -12) hs3_3 (by decide)
    have z4 := lv_neT (a := -11) hs3_4 (by decide)
    have z5 := lv_neT (a := -10) hs3_5 (by decide)
    have z6 := lv_neT (a := -9) hs3_6 (by decide)
    have z7 := lv_neT (a := -8) hs3_7 (by decide)
    have z8 := lv_neT (a := -7) hs3_8 (by decide)
    omega
  refine q_tsOut (tgt := 151) C dX4_joined_3 ho3 (by decide) ?_
  exact q_msk [false, false, false, true, false] (jW_X4_joined_151 C (0 : Int64) M h)
noncomputable def J_X4_worth_208_4 (l0 : Nat) (l1 : Nat) (l2 : Int32) (l3 : Int32) (M : q_Mem) : Option ((Int32 × Int32 × q_Mem) ⊕ ((q_Mem) ⊕ ((Int32 × q_Mem) ⊕ ((q_Mem) ⊕ ((q_Mem) ⊕ (q_Mem)))))) := some (.inl (l2, (l3 + (1 : Int32)), M))
set_option maxRecDepth 100000 in
set_option maxHeartbeats 4000000 in
theorem jW_X4_worth_208_4 {K : q_K} {Q : State → Prop} (C : q_C K yX4_worth cX4_worth 5 (Option.some Jvm.ClassFile.FieldType.int) 2 0 0) (l0 : Nat) (l1 : Nat) (l2 : Int32) (l3 : Int32) (M : q_Mem) {stp : (Int32 × Int32 × q_Mem) ⊕ ((q_Mem) ⊕ ((Int32 × q_Mem) ⊕ ((q_Mem) ⊕ ((q_Mem) ⊕ (q_Mem)))))} (h : J_X4_worth_208_4 l0 l1 l2 l3 M = some stp) (kC : ∀ (l2 : Int32) (l3 : Int32) (M : q_Mem), stp = .inl (l2, l3, M) → q_W K 5 Q 0 0 M 4 [some (.ref l0), some (.ref l1), some (.int l2), some (.int l3), none] []) (kE0 : ∀ (M : q_Mem), stp = .inr (.inl M) → q_W K 5 Q 0 0 M 34 [none, none, none, none, none] []) (kE1 : ∀ (l2 : Int32) (M : q_Mem), stp = .inr (.inr (.inl (l2, M))) → q_W K 5 Q 0 0 M 72 [some (.ref l0), none, some (.int l2), none, none] []) (kE2 : ∀ (M : q_Mem), stp = .inr (.inr (.inr (.inl M))) → q_W K 5 Q 0 0 M 94 [none, none, none, none, none] []) (kE3 : ∀ (M : q_Mem), stp = .inr (.inr (.inr (.inr (.inl M)))) → q_W K 5 Q 0 0 M 176 [none, none, none, none, none] []) (kE4 : ∀ (M : q_Mem), stp = .inr (.inr (.inr (.inr (.inr M)))) → q_W K 5 Q 0 0 M 214 [none, none, none, none, none] []) : q_W K 5 Q 0 0 M 208 [some (.ref l0), some (.ref l1), some (.int l2), some (.int l3), none] [] := by
  unfold J_X4_worth_208_4 at h
  refine x_iinc (w := (1 : Int32)) (L' := [some (.ref l0), some (.ref l1), some (.int l2), some (.int (l3 + (1 : Int32))), none]) C dX4_worth_208 rfl (by decide) (by decide) rfl rfl ?_
  refine q_goto (tgt := 4) C dX4_worth_211 (by decide) ?_
  exact q_msk [true, true, true, true, false] (kC _ _ _ (Option.some.inj h).symm)
noncomputable def J_X4_worth_58_4 (l0 : Nat) (l1 : Nat) (l2 : Int32) (l3 : Int32) (s0 : Nat) (s1 : Int32) (s2 : Int32) (M : q_Mem) : Option ((Int32 × Int32 × q_Mem) ⊕ ((q_Mem) ⊕ ((Int32 × q_Mem) ⊕ ((q_Mem) ⊕ ((q_Mem) ⊕ (q_Mem)))))) := (q_tI M s0 s1 s2 (fun M35 => J_X4_worth_208_4 l0 l1 (l2 + (1 : Int32)) l3 M35))
set_option maxRecDepth 100000 in
set_option maxHeartbeats 4000000 in
theorem jW_X4_worth_58_4 {K : q_K} {Q : State → Prop} (C : q_C K yX4_worth cX4_worth 5 (Option.some Jvm.ClassFile.FieldType.int) 2 0 0) (l0 : Nat) (l1 : Nat) (l2 : Int32) (l3 : Int32) (s0 : Nat) (s1 : Int32) (s2 : Int32) (M : q_Mem) {stp : (Int32 × Int32 × q_Mem) ⊕ ((q_Mem) ⊕ ((Int32 × q_Mem) ⊕ ((q_Mem) ⊕ ((q_Mem) ⊕ (q_Mem)))))} (h : J_X4_worth_58_4 l0 l1 l2 l3 s0 s1 s2 M = some stp) (kC : ∀ (l2 : Int32) (l3 : Int32) (M : q_Mem), stp = .inl (l2, l3, M) → q_W K 5 Q 0 0 M 4 [some (.ref l0), some (.ref l1), some (.int l2), some (.int l3), none] []) (kE0 : ∀ (M : q_Mem), stp = .inr (.inl M) → q_W K 5 Q 0 0 M 34 [none, none, none, none, none] []) (kE1 : ∀ (l2 : Int32) (M : q_Mem), stp = .inr (.inr (.inl (l2, M))) → q_W K 5 Q 0 0 M 72 [some (.ref l0), none, some (.int l2), none, none] []) (kE2 : ∀ (M : q_Mem), stp = .inr (.inr (.inr (.inl M))) → q_W K 5 Q 0 0 M 94 [none, none, none, none, none] []) (kE3 : ∀ (M : q_Mem), stp = .inr (.inr (.inr (.inr (.inl M)))) → q_W K 5 Q 0 0 M 176 [none, none, none, none, none] []) (kE4 : ∀ (M : q_Mem), stp = .inr (.inr (.inr (.inr (.inr M)))) → q_W K 5 Q 0 0 M 214 [none, none, none, none, none] []) : q_W K 5 Q 0 0 M 58 [some (.ref l0), some (.ref l1), some (.int l2), some (.int l3), none] [.int s2, .int s1, .ref s0] := by
  unfold J_X4_worth_58_4 at h
  refine x_iast C dX4_worth_58 h (fun M35 h => ?_)
  refine x_iinc (w := (1 : Int32)) (L' := [some (.ref l0), some (.ref l1), some (.int (l2 + (1 : Int32))), some (.int l3), none]) C dX4_worth_59 rfl (by decide) (by decide) rfl rfl ?_
  refine q_goto (tgt := 208) C dX4_worth_62 (by decide) ?_
  exact q_msk [true, true, true, true, false] (jW_X4_worth_208_4 C l0 l1 (l2 + (1 : Int32)) l3 M35 h kC kE0 kE1 kE2 kE3 kE4)
noncomputable def B_X4_worth_4 (l0 : Nat) (l1 : Nat) (l2 : Int32) (l3 : Int32) (M : q_Mem) : Option ((Int32 × Int32 × q_Mem) ⊕ ((q_Mem) ⊕ ((Int32 × q_Mem) ⊕ ((q_Mem) ⊕ ((q_Mem) ⊕ (q_Mem)))))) := (q_gR M l0 4 0 (fun c1 => q_nn c1 (fun r2 => (q_al M r2 (fun v3 => (if l3 < v3 then (q_gR M l0 4 0 (fun c4 => q_nn c4 (fun r5 => (q_lI M 0 r5 l3 (fun v6 => (if v6 < (-6 : Int32) then (if v6 = (-18 : Int32) then some (.inr (.inr (.inl (l2, M)))) else (if l2 < (1 : Int32) then some (.inr (.inr (.inr (.inl M)))) else (if v6 = (-16 : Int32) then (q_gR M l0 4 1 (fun c7 => q_nn c7 (fun r8 => (q_gR M l0 4 1 (fun c9 => q_nn c9 (fun r10 => (q_lI M 0 r10 (l2 - (1 : Int32)) (fun v11 => (q_tI M r8 (l2 - (1 : Int32)) ((1 : Int32) - v11) (fun M12 => J_X4_worth_208_4 l0 l1 l2 l3 M12)))))))))) else (if v6 = (-17 : Int32) then (q_gR M l0 4 1 (fun c13 => q_nn c13 (fun r14 => (q_lI M 0 r14 (l2 + (-1 : Int32)) (fun v15 => (if v15 = 0 then (q_gR M l0 4 0 (fun c16 => q_nn c16 (fun r17 => (q_al M r17 (fun v18 => (if (l3 + (1 : Int32)) < v18 then (q_gR M l0 4 0 (fun c19 => q_nn c19 (fun r20 => (q_lI M 0 r20 (l3 + (1 : Int32)) (fun v21 => J_X4_worth_208_4 l0 l1 (l2 + (-1 : Int32)) (q_mx (l3 + (1 : Int32)) (v21 - (1 : Int32))) M))))) else J_X4_worth_208_4 l0 l1 (l2 + (-1 : Int32)) (l3 + (1 : Int32)) M)))))) else J_X4_worth_208_4 l0 l1 (l2 + (-1 : Int32)) (l3 + (1 : Int32)) M)))))) else (if l2 < (2 : Int32) then some (.inr (.inr (.inr (.inr (.inl M))))) else (q_gR M l0 4 1 (fun c22 => q_nn c22 (fun r23 => (q_gR M l0 4 1 (fun c24 => q_nn c24 (fun r25 => (q_lI M 0 r25 ((l2 + (-1 : Int32)) - (1 : Int32)) (fun v26 => (q_gR M l0 4 1 (fun c27 => q_nn c27 (fun r28 => (q_lI M 0 r28 (l2 + (-1 : Int32)) (fun v29 => ((F_X4_joined v6 v26 v29 M).bind (fun u30 => (q_tI M r23 ((l2 + (-1 : Int32)) - (1 : Int32)) u30 (fun M31 => J_X4_worth_208_4 l0 l1 (l2 + (-1 : Int32)) l3 M31)))))))))))))))))))))) else (if l2 < (32 : Int32) then (q_gR M l0 4 1 (fun c32 => q_nn c32 (fun r33 => (if v6 < 0 then (q_lI M 0 l1 (v6 - (-6 : Int32)) (fun v34 => J_X4_worth_58_4 l0 l1 l2 l3 r33 l2 v34 M)) else J_X4_worth_58_4 l0 l1 l2 l3 r33 l2 v6 M)))) else some (.inr (.inl M))))))))) else some (.inr (.inr (.inr (.inr (.inr M)))))))))))
set_option maxRecDepth 100000 in
set_option maxHeartbeats 4000000 in
theorem bW_X4_worth_4 {K : q_K} {Q : State → Prop} (C : q_C K yX4_worth cX4_worth 5 (Option.some Jvm.ClassFile.FieldType.int) 2 0 0) (l0 : Nat) (l1 : Nat) (l2 : Int32) (l3 : Int32) (M : q_Mem) {stp : (Int32 × Int32 × q_Mem) ⊕ ((q_Mem) ⊕ ((Int32 × q_Mem) ⊕ ((q_Mem) ⊕ ((q_Mem) ⊕ (q_Mem)))))} (h : B_X4_worth_4 l0 l1 l2 l3 M = some stp) (kC : ∀ (l2 : Int32) (l3 : Int32) (M : q_Mem), stp = .inl (l2, l3, M) → q_W K 5 Q 0 0 M 4 [some (.ref l0), some (.ref l1), some (.int l2), some (.int l3), none] []) (kE0 : ∀ (M : q_Mem), stp = .inr (.inl M) → q_W K 5 Q 0 0 M 34 [none, none, none, none, none] []) (kE1 : ∀ (l2 : Int32) (M : q_Mem), stp = .inr (.inr (.inl (l2, M))) → q_W K 5 Q 0 0 M 72 [some (.ref l0), none, some (.int l2), none, none] []) (kE2 : ∀ (M : q_Mem), stp = .inr (.inr (.inr (.inl M))) → q_W K 5 Q 0 0 M 94 [none, none, none, none, none] []) (kE3 : ∀ (M : q_Mem), stp = .inr (.inr (.inr (.inr (.inl M)))) → q_W K 5 Q 0 0 M 176 [none, none, none, none, none] []) (kE4 : ∀ (M : q_Mem), stp = .inr (.inr (.inr (.inr (.inr M)))) → q_W K 5 Q 0 0 M 214 [none, none, none, none, none] []) : q_W K 5 Q 0 0 M 4 [some (.ref l0), some (.ref l1), some (.int l2), some (.int l3), none] [] := by
  unfold B_X4_worth_4 at h
  refine q_iload_n C dX4_worth_4 rfl ?_
  refine q_aload_n C dX4_worth_5 rfl ?_
  refine x_getR (ci := 4) (j := 0) C dX4_worth_6 lkF_X4_15 rfl h (fun c1 h => ?_)
  refine x_nn h (fun r2 h => ?_)
  refine x_alen C dX4_worth_9 h (fun v3 h => ?_)
  refine q_icmp_ge (tgt := 214) C dX4_worth_10 (by decide) h (fun _ h => ?_) (fun _ h => ?_)
  · refine q_aload_n C dX4_worth_13 rfl ?_
    refine x_getR (ci := 4) (j := 0) C dX4_worth_14 lkF_X4_15 rfl h (fun c4 h => ?_)
    refine x_nn h (fun r5 h => ?_)
    refine q_iload_n C dX4_worth_17 rfl ?_
    refine x_iald C dX4_worth_18 h (fun v6 h => ?_)
    refine q_istore (L' := [some (.ref l0), some (.ref l1), some (.int l2), some (.int l3), some (.int v6)]) C dX4_worth_19 (by decide) rfl rfl ?_
    refine q_iload C dX4_worth_21 rfl ?_
    refine x_bipush (v := (-6 : Int32)) C dX4_worth_23 (by decide) ?_
    refine q_icmp_lt (tgt := 65) C dX4_worth_25 (by decide) h (fun _ h => ?_) (fun _ h => ?_)
    · refine q_iload C dX4_worth_65 rfl ?_
      refine x_bipush (v := (-18 : Int32)) C dX4_worth_67 (by decide) ?_
      refine q_icmp_ne (tgt := 89) C dX4_worth_69 (by decide) h (fun _ h => ?_) (fun _ h => ?_)
      · exact q_msk [true, false, true, false, false] (kE1 _ _ (Option.some.inj h).symm)
      · refine q_iload_n C dX4_worth_89 rfl ?_
        refine x_iconst (v := (1 : Int32)) C dX4_worth_90 (by decide) ?_
        refine q_icmp_ge (tgt := 96) C dX4_worth_91 (by decide) h (fun _ h => ?_) (fun _ h => ?_)
        · exact q_msk [false, false, false, false, false] (kE2 _ (Option.some.inj h).symm)
        · refine q_iload C dX4_worth_96 rfl ?_
          refine x_bipush (v := (-16 : Int32)) C dX4_worth_98 (by decide) ?_
          refine q_icmp_ne (tgt := 124) C dX4_worth_100 (by decide) h (fun _ h => ?_) (fun _ h => ?_)
          · refine q_aload_n C dX4_worth_103 rfl ?_
            refine x_getR (ci := 4) (j := 1) C dX4_worth_104 lkF_X4_9 rfl h (fun c7 h => ?_)
            refine x_nn h (fun r8 h => ?_)
            refine q_iload_n C dX4_worth_107 rfl ?_
            refine x_iconst (v := (1 : Int32)) C dX4_worth_108 (by decide) ?_
            refine q_isub C dX4_worth_109 ?_
            refine x_iconst (v := (1 : Int32)) C dX4_worth_110 (by decide) ?_
            refine q_aload_n C dX4_worth_111 rfl ?_
            refine x_getR (ci := 4) (j := 1) C dX4_worth_112 lkF_X4_9 rfl h (fun c9 h => ?_)
            refine x_nn h (fun r10 h => ?_)
            refine q_iload_n C dX4_worth_115 rfl ?_
            refine x_iconst (v := (1 : Int32)) C dX4_worth_116 (by decide) ?_
            refine q_isub C dX4_worth_117 ?_
            refine x_iald C dX4_worth_118 h (fun v11 h => ?_)
            refine q_isub C dX4_worth_119 ?_
            refine x_iast C dX4_worth_120 h (fun M12 h => ?_)
            refine q_goto (tgt := 208) C dX4_worth_121 (by decide) ?_
            exact q_msk [true, true, true, true, false] (jW_X4_worth_208_4 C l0 l1 l2 l3 M12 h kC kE0 kE1 kE2 kE3 kE4)
          · refine q_iload C dX4_worth_124 rfl ?_
            refine x_bipush (v := (-17 : Int32)) C dX4_worth_126 (by decide) ?_
            refine q_icmp_ne (tgt := 171) C dX4_worth_128 (by decide) h (fun _ h => ?_) (fun _ h => ?_)
            · refine x_iinc (w := (-1 : Int32)) (L' := [some (.ref l0), some (.ref l1), some (.int (l2 + (-1 : Int32))), some (.int l3), some (.int v6)]) C dX4_worth_131 rfl (by decide) (by decide) rfl rfl ?_
              refine x_iinc (w := (1 : Int32)) (L' := [some (.ref l0), some (.ref l1), some (.int (l2 + (-1 : Int32))), some (.int (l3 + (1 : Int32))), some (.int v6)]) C dX4_worth_134 rfl (by decide) (by decide) rfl rfl ?_
              refine q_aload_n C dX4_worth_137 rfl ?_
              refine x_getR (ci := 4) (j := 1) C dX4_worth_138 lkF_X4_9 rfl h (fun c13 h => ?_)
              refine x_nn h (fun r14 h => ?_)
              refine q_iload_n C dX4_worth_141 rfl ?_
              refine x_iald C dX4_worth_142 h (fun v15 h => ?_)
              refine q_if_ne (tgt := 208) C dX4_worth_143 (by decide) h (fun _ h => ?_) (fun _ h => ?_)
              · refine q_iload_n C dX4_worth_146 rfl ?_
                refine q_aload_n C dX4_worth_147 rfl ?_
                refine x_getR (ci := 4) (j := 0) C dX4_worth_148 lkF_X4_15 rfl h (fun c16 h => ?_)
                refine x_nn h (fun r17 h => ?_)
                refine x_alen C dX4_worth_151 h (fun v18 h => ?_)
                refine q_icmp_ge (tgt := 208) C dX4_worth_152 (by decide) h (fun _ h => ?_) (fun _ h => ?_)
                · refine q_iload_n C dX4_worth_155 rfl ?_
                  refine q_aload_n C dX4_worth_156 rfl ?_
                  refine x_getR (ci := 4) (j := 0) C dX4_worth_157 lkF_X4_15 rfl h (fun c19 h => ?_)
                  refine x_nn h (fun r20 h => ?_)
                  refine q_iload_n C dX4_worth_160 rfl ?_
                  refine x_iald C dX4_worth_161 h (fun v21 h => ?_)
                  refine x_iconst (v := (1 : Int32)) C dX4_worth_162 (by decide) ?_
                  refine q_isub C dX4_worth_163 ?_
                  refine q_max C dX4_worth_164 wd_765 wd_470 wd_15 wd_471 (by decide) (Nat.le_of_ble_eq_true rfl) (by decide) ?_
                  refine q_istore_n (L' := [some (.ref l0), some (.ref l1), some (.int (l2 + (-1 : Int32))), some (.int (q_mx (l3 + (1 : Int32)) (v21 - (1 : Int32)))), some (.int v6)]) C dX4_worth_167 (by decide) rfl rfl ?_
                  refine q_goto (tgt := 208) C dX4_worth_168 (by decide) ?_
                  exact q_msk [true, true, true, true, false] (jW_X4_worth_208_4 C l0 l1 (l2 + (-1 : Int32)) (q_mx (l3 + (1 : Int32)) (v21 - (1 : Int32))) M h kC kE0 kE1 kE2 kE3 kE4)
                · exact q_msk [true, true, true, true, false] (jW_X4_worth_208_4 C l0 l1 (l2 + (-1 : Int32)) (l3 + (1 : Int32)) M h kC kE0 kE1 kE2 kE3 kE4)
              · exact q_msk [true, true, true, true, false] (jW_X4_worth_208_4 C l0 l1 (l2 + (-1 : Int32)) (l3 + (1 : Int32)) M h kC kE0 kE1 kE2 kE3 kE4)
            · refine q_iload_n C dX4_worth_171 rfl ?_
              refine x_iconst (v := (2 : Int32)) C dX4_worth_172 (by decide) ?_
              refine q_icmp_ge (tgt := 178) C dX4_worth_173 (by decide) h (fun _ h => ?_) (fun _ h => ?_)
              · exact q_msk [false, false, false, false, false] (kE3 _ (Option.some.inj h).symm)
              · refine x_iinc (w := (-1 : Int32)) (L' := [some (.ref l0), some (.ref l1), some (.int (l2 + (-1 : Int32))), some (.int l3), some (.int v6)]) C dX4_worth_178 rfl (by decide) (by decide) rfl rfl ?_
                refine q_aload_n C dX4_worth_181 rfl ?_
                refine x_getR (ci := 4) (j := 1) C dX4_worth_182 lkF_X4_9 rfl h (fun c22 h => ?_)
                refine x_nn h (fun r23 h => ?_)
                refine q_iload_n C dX4_worth_185 rfl ?_
                refine x_iconst (v := (1 : Int32)) C dX4_worth_186 (by decide) ?_
                refine q_isub C dX4_worth_187 ?_
                refine q_iload C dX4_worth_188 rfl ?_
                refine q_aload_n C dX4_worth_190 rfl ?_
                refine x_getR (ci := 4) (j := 1) C dX4_worth_191 lkF_X4_9 rfl h (fun c24 h => ?_)
                refine x_nn h (fun r25 h => ?_)
                refine q_iload_n C dX4_worth_194 rfl ?_
                refine x_iconst (v := (1 : Int32)) C dX4_worth_195 (by decide) ?_
                refine q_isub C dX4_worth_196 ?_
                refine x_iald C dX4_worth_197 h (fun v26 h => ?_)
                refine q_aload_n C dX4_worth_198 rfl ?_
                refine x_getR (ci := 4) (j := 1) C dX4_worth_199 lkF_X4_9 rfl h (fun c27 h => ?_)
                refine x_nn h (fun r28 h => ?_)
                refine q_iload_n C dX4_worth_202 rfl ?_
                refine x_iald C dX4_worth_203 h (fun v29 h => ?_)
                obtain ⟨u30, e1, h⟩ := q_bind h
                refine x_callS0 C dX4_worth_204 lkM_X4_24 mS_X4_joined (c_X4_joined _ _ _ _ _ _ e1) rfl rfl (Nat.le_of_ble_eq_true rfl) (by decide) (by decide) ?_
                refine x_iast C dX4_worth_207 h (fun M31 h => ?_)
                exact q_msk [true, true, true, true, false] (jW_X4_worth_208_4 C l0 l1 (l2 + (-1 : Int32)) l3 M31 h kC kE0 kE1 kE2 kE3 kE4)
    · refine q_iload_n C dX4_worth_28 rfl ?_
      refine x_bipush (v := (32 : Int32)) C dX4_worth_29 (by decide) ?_
      refine q_icmp_lt (tgt := 36) C dX4_worth_31 (by decide) h (fun _ h => ?_) (fun _ h => ?_)
      · refine q_aload_n C dX4_worth_36 rfl ?_
        refine x_getR (ci := 4) (j := 1) C dX4_worth_37 lkF_X4_9 rfl h (fun c32 h => ?_)
        refine x_nn h (fun r33 h => ?_)
        refine q_iload_n C dX4_worth_40 rfl ?_
        refine q_iload C dX4_worth_41 rfl ?_
        refine q_if_lt (tgt := 51) C dX4_worth_43 (by decide) h (fun _ h => ?_) (fun _ h => ?_)
        · refine q_aload_n C dX4_worth_51 rfl ?_
          refine q_iload C dX4_worth_52 rfl ?_
          refine x_bipush (v := (-6 : Int32)) C dX4_worth_54 (by decide) ?_
          refine q_isub C dX4_worth_56 ?_
          refine x_iald C dX4_worth_57 h (fun v34 h => ?_)
          exact q_msk [true, true, true, true, false] (jW_X4_worth_58_4 C l0 l1 l2 l3 r33 l2 v34 M h kC kE0 kE1 kE2 kE3 kE4)
        · refine q_iload C dX4_worth_46 rfl ?_
          refine q_goto (tgt := 58) C dX4_worth_48 (by decide) ?_
          exact q_msk [true, true, true, true, false] (jW_X4_worth_58_4 C l0 l1 l2 l3 r33 l2 v6 M h kC kE0 kE1 kE2 kE3 kE4)
      · exact q_msk [false, false, false, false, false] (kE0 _ (Option.some.inj h).symm)
  · exact q_msk [false, false, false, false, false] (kE4 _ (Option.some.inj h).symm)
set_option maxRecDepth 100000 in
set_option maxHeartbeats 4000000 in
theorem lW_X4_worth_4 {K : q_K} {Q : State → Prop} (C : q_C K yX4_worth cX4_worth 5 (Option.some Jvm.ClassFile.FieldType.int) 2 0 0) (l0 : Nat) (l1 : Nat) (n : Nat) : ∀ (l2 : Int32) (l3 : Int32) (M : q_Mem) (e : ((q_Mem) ⊕ ((Int32 × q_Mem) ⊕ ((q_Mem) ⊕ ((q_Mem) ⊕ (q_Mem)))))), q_lp (fun s => B_X4_worth_4 l0 l1 s.1 s.2.1 s.2.2) n (l2, l3, M) = some e → (∀ (M : q_Mem), e = (.inl M) → q_W K 5 Q 0 0 M 34 [none, none, none, none, none] []) → (∀ (l2 : Int32) (M : q_Mem), e = (.inr (.inl (l2, M))) → q_W K 5 Q 0 0 M 72 [some (.ref l0), none, some (.int l2), none, none] []) → (∀ (M : q_Mem), e = (.inr (.inr (.inl M))) → q_W K 5 Q 0 0 M 94 [none, none, none, none, none] []) → (∀ (M : q_Mem), e = (.inr (.inr (.inr (.inl M)))) → q_W K 5 Q 0 0 M 176 [none, none, none, none, none] []) → (∀ (M : q_Mem), e = (.inr (.inr (.inr (.inr M)))) → q_W K 5 Q 0 0 M 214 [none, none, none, none, none] []) → q_W K 5 Q 0 0 M 4 [some (.ref l0), some (.ref l1), some (.int l2), some (.int l3), none] [] := by
  induction n with
  | zero => intro l2 l3 M e h; cases h
  | succ n ih =>
    intro l2 l3 M e h kE0 kE1 kE2 kE3 kE4
    obtain ⟨stp, e1, e2⟩ := q_bind h
    refine bW_X4_worth_4 C l0 l1 l2 l3 M e1 (fun a0 a1 a2 hs => ?_) (fun b0 hs => ?_) (fun b0 b1 hs => ?_) (fun b0 hs => ?_) (fun b0 hs => ?_) (fun b0 hs => ?_)
    · subst hs; exact ih _ _ _ _ e2 kE0 kE1 kE2 kE3 kE4
    · subst hs; exact kE0 _ (Option.some.inj e2).symm
    · subst hs; exact kE1 _ _ (Option.some.inj e2).symm
    · subst hs; exact kE2 _ (Option.some.inj e2).symm
    · subst hs; exact kE3 _ (Option.some.inj e2).symm
    · subst hs; exact kE4 _ (Option.some.inj e2).symm
noncomputable def F_X4_worth (l0 : Nat) (l1 : Nat) (M : q_Mem) : Option (Int32 × q_Mem) := (q_lp (fun s => B_X4_worth_4 l0 l1 s.1 s.2.1 s.2.2) q_fu ((0 : Int32), (0 : Int32), M)).bind (fun e36 => match e36 with | .inl M37 => some ((0 : Int32), M37) | .inr (.inl (w38, M39)) => (if 0 < w38 then (q_gR M39 l0 4 1 (fun c40 => q_nn c40 (fun r41 => (q_lI M39 0 r41 (w38 - (1 : Int32)) (fun v42 => some (v42, M39)))))) else some ((0 : Int32), M39)) | .inr (.inr (.inl M43)) => some ((0 : Int32), M43) | .inr (.inr (.inr (.inl M44))) => some ((0 : Int32), M44) | .inr (.inr (.inr (.inr M45))) => some ((0 : Int32), M45))
set_option maxRecDepth 100000 in
set_option maxHeartbeats 4000000 in
theorem c_X4_worth (l : Launch) (G : q_G) (l0 : Nat) (l1 : Nat) (M : q_Mem) {r : Int32} {M' : q_Mem} (h : F_X4_worth l0 l1 M = some (r, M')) : q_Met l G yX4_worth cX4_worth 5 (Option.some Jvm.ClassFile.FieldType.int) 2 0 0 [.ref l0, .ref l1] M (some (.int r)) M' := by
  unfold F_X4_worth at h
  refine q_enter [some (.ref l0), some (.ref l1), none, none, none] (by decide) (Nat.le_of_ble_eq_true rfl) rfl (fun K C => ?_)
  refine x_iconst (v := (0 : Int32)) C dX4_worth_0 (by decide) ?_
  refine q_istore_n (L' := [some (.ref l0), some (.ref l1), some (.int (0 : Int32)), none, none]) C dX4_worth_1 (by decide) rfl rfl ?_
  refine x_iconst (v := (0 : Int32)) C dX4_worth_2 (by decide) ?_
  refine q_istore_n (L' := [some (.ref l0), some (.ref l1), some (.int (0 : Int32)), some (.int (0 : Int32)), none]) C dX4_worth_3 (by decide) rfl rfl ?_
  obtain ⟨e36, he, h⟩ := q_bind h
  refine q_msk [true, true, true, true, false] (lW_X4_worth_4 C l0 l1 q_fu _ _ _ _ he (fun M37 hs => ?_) (fun w38 M39 hs => ?_) (fun M43 hs => ?_) (fun M44 hs => ?_) (fun M45 hs => ?_))
  · have hs := hs.symm
    subst hs
    refine x_iconst (v := (0 : Int32)) C dX4_worth_34 (by decide) ?_
    exact q_iret C dX4_worth_35 rfl (by decide) (by decide) (Option.some.inj h)
  · have hs := hs.symm
    subst hs
    refine q_iload_n C dX4_worth_72 rfl ?_
    refine q_if_le (tgt := 87) C dX4_worth_73 (by decide) h (fun _ h => ?_) (fun _ h => ?_)
    · refine q_aload_n C dX4_worth_76 rfl ?_
      refine x_getR (ci := 4) (j := 1) C dX4_worth_77 lkF_X4_9 rfl h (fun c40 h => ?_)
      refine x_nn h (fun r41 h => ?_)
      refine q_iload_n C dX4_worth_80 rfl ?_
      refine x_iconst (v := (1 : Int32)) C dX4_worth_81 (by decide) ?_
      refine q_isub C dX4_worth_82 ?_
      refine x_iald C dX4_worth_83 h (fun v42 h => ?_)
      refine q_goto (tgt := 88) C dX4_worth_84 (by decide) ?_
      exact q_iret C dX4_worth_88 rfl (by decide) (by decide) (Option.some.inj h)
    · refine x_iconst (v := (0 : Int32)) C dX4_worth_87 (by decide) ?_
      exact q_iret C dX4_worth_88 rfl (by decide) (by decide) (Option.some.inj h)
  · have hs := hs.symm
    subst hs
    refine x_iconst (v := (0 : Int32)) C dX4_worth_94 (by decide) ?_
    exact q_iret C dX4_worth_95 rfl (by decide) (by decide) (Option.some.inj h)
  · have hs := hs.symm
    subst hs
    refine x_iconst (v := (0 : Int32)) C dX4_worth_176 (by decide) ?_
    exact q_iret C dX4_worth_177 rfl (by decide) (by decide) (Option.some.inj h)
  · have hs := hs.symm
    subst hs
    refine x_iconst (v := (0 : Int32)) C dX4_worth_214 (by decide) ?_
    exact q_iret C dX4_worth_215 rfl (by decide) (by decide) (Option.some.inj h)
noncomputable def J_X1_joyBy_51 (l0 : Nat) (l3 : Int32) (l4 : Int32) (l5 : Int32) (l6 : Int32) (s0 : Nat) (s1 : Int32) (s2 : Int32) (M : q_Mem) : Option (Int32 × q_Mem) := (q_tI M s0 s1 s2 (fun M9 => (q_gR M9 l0 1 2 (fun c10 => q_nn c10 (fun r11 => (q_tI M9 r11 (2 : Int32) l3 (fun M12 => (q_gR M12 l0 1 2 (fun c13 => q_nn c13 (fun r14 => (q_tI M12 r14 (3 : Int32) l4 (fun M15 => (q_gR M15 l0 1 2 (fun c16 => q_nn c16 (fun r17 => (q_tI M15 r17 (4 : Int32) l5 (fun M18 => (q_gR M18 l0 1 2 (fun c19 => q_nn c19 (fun r20 => (q_tI M18 r20 (5 : Int32) l6 (fun M21 => (q_gR M21 l0 1 3 (fun c22 => q_nn c22 (fun r23 => (q_gR M21 l0 1 2 (fun c24 => q_nn c24 (fun r25 => (q_ob M21 r23 4 ((F_X4_worth r23 r25 M21).bind (fun x => match x with | (u26, M27) => some ((q_mx (-9 : Int32) (q_mn (20 : Int32) u26)), M27))))))))))))))))))))))))))))))))
set_option maxRecDepth 100000 in
set_option maxHeartbeats 4000000 in
theorem jW_X1_joyBy_51 {K : q_K} (C : q_C K yX1_joyBy cX1_joyBy 8 (Option.some Jvm.ClassFile.FieldType.int) 3 0 0) (l0 : Nat) (l3 : Int32) (l4 : Int32) (l5 : Int32) (l6 : Int32) (s0 : Nat) (s1 : Int32) (s2 : Int32) (M : q_Mem) {r : Int32} {M' : q_Mem} (h : J_X1_joyBy_51 l0 l3 l4 l5 l6 s0 s1 s2 M = some (r, M')) : q_W K 8 (q_Q K (some (.int r)) M' 0 0) 0 0 M 51 [some (.ref l0), none, none, some (.int l3), some (.int l4), some (.int l5), some (.int l6), none] [.int s2, .int s1, .ref s0] := by
  unfold J_X1_joyBy_51 at h
  refine x_iast C dX1_joyBy_51 h (fun M9 h => ?_)
  refine q_aload_n C dX1_joyBy_52 rfl ?_
  refine x_getR (ci := 1) (j := 2) C dX1_joyBy_53 lkF_X1_15 rfl h (fun c10 h => ?_)
  refine x_nn h (fun r11 h => ?_)
  refine x_iconst (v := (2 : Int32)) C dX1_joyBy_56 (by decide) ?_
  refine q_iload_n C dX1_joyBy_57 rfl ?_
  refine x_iast C dX1_joyBy_58 h (fun M12 h => ?_)
  refine q_aload_n C dX1_joyBy_59 rfl ?_
  refine x_getR (ci := 1) (j := 2) C dX1_joyBy_60 lkF_X1_15 rfl h (fun c13 h => ?_)
  refine x_nn h (fun r14 h => ?_)
  refine x_iconst (v := (3 : Int32)) C dX1_joyBy_63 (by decide) ?_
  refine q_iload C dX1_joyBy_64 rfl ?_
  refine x_iast C dX1_joyBy_66 h (fun M15 h => ?_)
  refine q_aload_n C dX1_joyBy_67 rfl ?_
  refine x_getR (ci := 1) (j := 2) C dX1_joyBy_68 lkF_X1_15 rfl h (fun c16 h => ?_)
  refine x_nn h (fun r17 h => ?_)
  refine x_iconst (v := (4 : Int32)) C dX1_joyBy_71 (by decide) ?_
  refine q_iload C dX1_joyBy_72 rfl ?_
  refine x_iast C dX1_joyBy_74 h (fun M18 h => ?_)
  refine q_aload_n C dX1_joyBy_75 rfl ?_
  refine x_getR (ci := 1) (j := 2) C dX1_joyBy_76 lkF_X1_15 rfl h (fun c19 h => ?_)
  refine x_nn h (fun r20 h => ?_)
  refine x_iconst (v := (5 : Int32)) C dX1_joyBy_79 (by decide) ?_
  refine q_iload C dX1_joyBy_80 rfl ?_
  refine x_iast C dX1_joyBy_82 h (fun M21 h => ?_)
  refine q_aload_n C dX1_joyBy_83 rfl ?_
  refine x_getR (ci := 1) (j := 3) C dX1_joyBy_84 lkF_X1_18 rfl h (fun c22 h => ?_)
  refine x_nn h (fun r23 h => ?_)
  refine q_aload_n C dX1_joyBy_87 rfl ?_
  refine x_getR (ci := 1) (j := 2) C dX1_joyBy_88 lkF_X1_15 rfl h (fun c24 h => ?_)
  refine x_nn h (fun r25 h => ?_)
  obtain ⟨hk, h⟩ := q_obE h
  obtain ⟨⟨u26, M27⟩, e1, h⟩ := q_bind h
  refine x_callV0 C dX1_joyBy_91 lkM_X1_117 mV_X4_worth ⟨_, rfl, rfl⟩ hk (c_X4_worth _ _ _ _ _ e1) rfl rfl (Nat.le_of_ble_eq_true rfl) (by decide) (by decide) ?_
  refine q_istore (L' := [some (.ref l0), none, none, some (.int l3), some (.int l4), some (.int l5), some (.int l6), some (.int u26)]) C dX1_joyBy_94 (by decide) rfl rfl ?_
  refine x_bipush (v := (-9 : Int32)) C dX1_joyBy_96 (by decide) ?_
  refine x_bipush (v := (20 : Int32)) C dX1_joyBy_98 (by decide) ?_
  refine q_iload C dX1_joyBy_100 rfl ?_
  refine q_min C dX1_joyBy_102 wd_771 wd_473 wd_15 wd_474 (by decide) (Nat.le_of_ble_eq_true rfl) (by decide) ?_
  refine q_max C dX1_joyBy_105 wd_748 wd_470 wd_15 wd_471 (by decide) (Nat.le_of_ble_eq_true rfl) (by decide) ?_
  exact q_iret C dX1_joyBy_108 rfl (by decide) (by decide) (Option.some.inj h)
noncomputable def F_X1_joyBy (l0 : Nat) (l1 : Int32) (l2 : Int32) (l3 : Int32) (l4 : Int32) (l5 : Int32) (l6 : Int32) (M : q_Mem) : Option (Int32 × q_Mem) := (q_gR M l0 1 3 (fun c1 => (match c1 with | 0 => (if l3 = 0 then some ((-2 : Int32), M) else (q_dvi l1 (3 : Int32) (fun v3 => (if l2 = 0 then some ((v3 + (0 : Int32)), M) else some ((v3 + (3 : Int32)), M))))) | r2 + 1 => (q_gR M l0 1 2 (fun c4 => q_nn c4 (fun r5 => (q_tI M r5 (0 : Int32) l1 (fun M6 => (q_gR M6 l0 1 2 (fun c7 => q_nn c7 (fun r8 => (if l2 = 0 then J_X1_joyBy_51 l0 l3 l4 l5 l6 r8 (1 : Int32) (0 : Int32) M6 else J_X1_joyBy_51 l0 l3 l4 l5 l6 r8 (1 : Int32) (1 : Int32) M6))))))))))))
set_option maxRecDepth 100000 in
set_option maxHeartbeats 4000000 in
theorem c_X1_joyBy (l : Launch) (G : q_G) (l0 : Nat) (l1 : Int32) (l2 : Int32) (l3 : Int32) (l4 : Int32) (l5 : Int32) (l6 : Int32) (M : q_Mem) {r : Int32} {M' : q_Mem} (h : F_X1_joyBy l0 l1 l2 l3 l4 l5 l6 M = some (r, M')) : q_Met l G yX1_joyBy cX1_joyBy 8 (Option.some Jvm.ClassFile.FieldType.int) 3 0 0 [.ref l0, .int l1, .int l2, .int l3, .int l4, .int l5, .int l6] M (some (.int r)) M' := by
  unfold F_X1_joyBy at h
  refine q_enter [some (.ref l0), some (.int l1), some (.int l2), some (.int l3), some (.int l4), some (.int l5), some (.int l6), none] (by decide) (Nat.le_of_ble_eq_true rfl) rfl (fun K C => ?_)
  refine q_aload_n C dX1_joyBy_0 rfl ?_
  refine x_getR (ci := 1) (j := 3) C dX1_joyBy_1 lkF_X1_18 rfl h (fun c1 h => ?_)
  refine q_ifnonnull (tgt := 30) C dX1_joyBy_4 (by decide) h (fun hn h => ?_) (fun r2 hn h => ?_)
  · subst hn
    refine q_iload_n C dX1_joyBy_7 rfl ?_
    refine q_if_ne (tgt := 16) C dX1_joyBy_8 (by decide) h (fun _ h => ?_) (fun _ h => ?_)
    · refine x_bipush (v := (-2 : Int32)) C dX1_joyBy_11 (by decide) ?_
      refine q_goto (tgt := 29) C dX1_joyBy_13 (by decide) ?_
      exact q_iret C dX1_joyBy_29 rfl (by decide) (by decide) (Option.some.inj h)
    · refine q_iload_n C dX1_joyBy_16 rfl ?_
      refine x_iconst (v := (3 : Int32)) C dX1_joyBy_17 (by decide) ?_
      refine q_idiv C dX1_joyBy_18 h (fun v3 h => ?_)
      refine q_iload_n C dX1_joyBy_19 rfl ?_
      refine q_if_eq (tgt := 27) C dX1_joyBy_20 (by decide) h (fun _ h => ?_) (fun _ h => ?_)
      · refine x_iconst (v := (0 : Int32)) C dX1_joyBy_27 (by decide) ?_
        refine q_iadd C dX1_joyBy_28 ?_
        exact q_iret C dX1_joyBy_29 rfl (by decide) (by decide) (Option.some.inj h)
      · refine x_iconst (v := (3 : Int32)) C dX1_joyBy_23 (by decide) ?_
        refine q_goto (tgt := 28) C dX1_joyBy_24 (by decide) ?_
        refine q_iadd C dX1_joyBy_28 ?_
        exact q_iret C dX1_joyBy_29 rfl (by decide) (by decide) (Option.some.inj h)
  · subst hn
    refine q_aload_n C dX1_joyBy_30 rfl ?_
    refine x_getR (ci := 1) (j := 2) C dX1_joyBy_31 lkF_X1_15 rfl h (fun c4 h => ?_)
    refine x_nn h (fun r5 h => ?_)
    refine x_iconst (v := (0 : Int32)) C dX1_joyBy_34 (by decide) ?_
    refine q_iload_n C dX1_joyBy_35 rfl ?_
    refine x_iast C dX1_joyBy_36 h (fun M6 h => ?_)
    refine q_aload_n C dX1_joyBy_37 rfl ?_
    refine x_getR (ci := 1) (j := 2) C dX1_joyBy_38 lkF_X1_15 rfl h (fun c7 h => ?_)
    refine x_nn h (fun r8 h => ?_)
    refine x_iconst (v := (1 : Int32)) C dX1_joyBy_41 (by decide) ?_
    refine q_iload_n C dX1_joyBy_42 rfl ?_
    refine q_if_eq (tgt := 50) C dX1_joyBy_43 (by decide) h (fun _ h => ?_) (fun _ h => ?_)
    · refine x_iconst (v := (0 : Int32)) C dX1_joyBy_50 (by decide) ?_
      exact q_msk [true, false, false, true, true, true, true, false] (jW_X1_joyBy_51 C l0 l3 l4 l5 l6 r8 (1 : Int32) (0 : Int32) M6 h)
    · refine x_iconst (v := (1 : Int32)) C dX1_joyBy_46 (by decide) ?_
      refine q_goto (tgt := 51) C dX1_joyBy_47 (by decide) ?_
      exact q_msk [true, false, false, true, true, true, true, false] (jW_X1_joyBy_51 C l0 l3 l4 l5 l6 r8 (1 : Int32) (1 : Int32) M6 h)
noncomputable def J_X1_gladden_37 (l0 : Nat) (l1 : Nat) (l2 : Int32) (s0 : Int32) (M : q_Mem) : Option (Unit × q_Mem) := (q_gR M l0 1 0 (fun c2 => q_nn c2 (fun r3 => (q_ob M r3 3 ((F_X3_ofGuest r3 l2 (3 : Int32) M).bind (fun u4 => (q_gR M l1 8 0 (fun c5 => q_nn c5 (fun r6 => (q_lI M 0 r6 (0 : Int32) (fun v7 => (q_gI M l0 1 8 (fun v8 => (q_gR M l0 1 1 (fun c9 => q_nn c9 (fun r10 => (q_lI M 0 r10 l2 (fun v11 => (q_gR M l0 1 0 (fun c12 => q_nn c12 (fun r13 => (q_ob M r13 3 ((F_X3_ofGuest r13 l2 (0 : Int32) M).bind (fun u14 => (q_ob M l0 1 ((F_X1_joyBy l0 v8 s0 v11 (v7 - u14) u4 v7 M).bind (fun x => match x with | (u15, M16) => (q_gR M16 l1 8 0 (fun c17 => q_nn c17 (fun r18 => (q_lI M16 0 r18 ((25 : Int32) + l2) (fun v19 => (q_gR M16 l1 8 0 (fun c20 => q_nn c20 (fun r21 => (q_tI M16 r21 ((25 : Int32) + l2) (q_mx (-99 : Int32) (q_mn (999 : Int32) (v19 + u15))) (fun M22 => (q_gR M22 l1 8 0 (fun c23 => q_nn c23 (fun r24 => (q_gR M22 l1 8 0 (fun c25 => q_nn c25 (fun r26 => (q_lI M22 0 r26 (2 : Int32) (fun v27 => (q_tI M22 r24 (2 : Int32) (q_mn (999 : Int32) (v27 + u4)) (fun M28 => (if (-10 : Int32) < (q_mx (-99 : Int32) (q_mn (999 : Int32) (v19 + u15))) then some ((), M28) else (q_gR M28 l1 8 0 (fun c29 => q_nn c29 (fun r30 => (q_lI M28 0 r30 (4 : Int32) (fun v31 => (q_tI M28 r30 (4 : Int32) (v31 ||| ((1 : Int32) <<< (l2 &&& 31))) (fun M32 => some ((), M32))))))))))))))))))))))))))))))))))))))))))))))))))))))))
set_option maxRecDepth 100000 in
set_option maxHeartbeats 4000000 in
theorem jW_X1_gladden_37 {K : q_K} (C : q_C K yX1_gladden cX1_gladden 8 (Option.none : Option Jvm.ClassFile.FieldType) 4 0 0) (l0 : Nat) (l1 : Nat) (l2 : Int32) (s0 : Int32) (M : q_Mem) {r : Unit} {M' : q_Mem} (h : J_X1_gladden_37 l0 l1 l2 s0 M = some (r, M')) : q_W K 8 (q_Q K none M' 0 0) 0 0 M 37 [some (.ref l0), some (.ref l1), some (.int l2), none, none, none, none, none] [.int s0] := by
  unfold J_X1_gladden_37 at h
  refine q_istore_n (L' := [some (.ref l0), some (.ref l1), some (.int l2), some (.int s0), none, none, none, none]) C dX1_gladden_37 (by decide) rfl rfl ?_
  refine q_aload_n C dX1_gladden_38 rfl ?_
  refine x_getR (ci := 1) (j := 0) C dX1_gladden_39 lkF_X1_47 rfl h (fun c2 h => ?_)
  refine x_nn h (fun r3 h => ?_)
  refine q_iload_n C dX1_gladden_42 rfl ?_
  refine x_iconst (v := (3 : Int32)) C dX1_gladden_43 (by decide) ?_
  obtain ⟨hk, h⟩ := q_obE h
  obtain ⟨u4, e1, h⟩ := q_bind h
  refine x_callV0 C dX1_gladden_44 lkM_X1_56 mV_X3_ofGuest ⟨_, rfl, rfl⟩ hk (c_X3_ofGuest _ _ _ _ _ _ e1) rfl rfl (Nat.le_of_ble_eq_true rfl) (by decide) (by decide) ?_
  refine q_istore (L' := [some (.ref l0), some (.ref l1), some (.int l2), some (.int s0), some (.int u4), none, none, none]) C dX1_gladden_47 (by decide) rfl rfl ?_
  refine q_aload_n C dX1_gladden_49 rfl ?_
  refine x_getR (ci := 8) (j := 0) C dX1_gladden_50 lkF_X1_51 rfl h (fun c5 h => ?_)
  refine x_nn h (fun r6 h => ?_)
  refine x_iconst (v := (0 : Int32)) C dX1_gladden_53 (by decide) ?_
  refine x_iald C dX1_gladden_54 h (fun v7 h => ?_)
  refine q_istore (L' := [some (.ref l0), some (.ref l1), some (.int l2), some (.int s0), some (.int u4), some (.int v7), none, none]) C dX1_gladden_55 (by decide) rfl rfl ?_
  refine q_aload_n C dX1_gladden_57 rfl ?_
  refine q_aload_n C dX1_gladden_58 rfl ?_
  refine x_getI (ci := 1) (j := 8) C dX1_gladden_59 lkF_X1_35 rfl h (fun v8 h => ?_)
  refine q_iload_n C dX1_gladden_62 rfl ?_
  refine q_aload_n C dX1_gladden_63 rfl ?_
  refine x_getR (ci := 1) (j := 1) C dX1_gladden_64 lkF_X1_9 rfl h (fun c9 h => ?_)
  refine x_nn h (fun r10 h => ?_)
  refine q_iload_n C dX1_gladden_67 rfl ?_
  refine x_iald C dX1_gladden_68 h (fun v11 h => ?_)
  refine q_iload C dX1_gladden_69 rfl ?_
  refine q_aload_n C dX1_gladden_71 rfl ?_
  refine x_getR (ci := 1) (j := 0) C dX1_gladden_72 lkF_X1_47 rfl h (fun c12 h => ?_)
  refine x_nn h (fun r13 h => ?_)
  refine q_iload_n C dX1_gladden_75 rfl ?_
  refine x_iconst (v := (0 : Int32)) C dX1_gladden_76 (by decide) ?_
  obtain ⟨hk, h⟩ := q_obE h
  obtain ⟨u14, e1, h⟩ := q_bind h
  refine x_callV0 C dX1_gladden_77 lkM_X1_56 mV_X3_ofGuest ⟨_, rfl, rfl⟩ hk (c_X3_ofGuest _ _ _ _ _ _ e1) rfl rfl (Nat.le_of_ble_eq_true rfl) (by decide) (by decide) ?_
  refine q_isub C dX1_gladden_80 ?_
  refine q_iload C dX1_gladden_81 rfl ?_
  refine q_iload C dX1_gladden_83 rfl ?_
  obtain ⟨hk, h⟩ := q_obE h
  obtain ⟨⟨u15, M16⟩, e1, h⟩ := q_bind h
  refine x_callV0 C dX1_gladden_85 lkM_X1_110 mV_X1_joyBy ⟨_, rfl, rfl⟩ hk (c_X1_joyBy _ _ _ _ _ _ _ _ _ _ e1) rfl rfl (Nat.le_of_ble_eq_true rfl) (by decide) (by decide) ?_
  refine q_istore (L' := [some (.ref l0), some (.ref l1), some (.int l2), some (.int s0), some (.int u4), some (.int v7), some (.int u15), none]) C dX1_gladden_88 (by decide) rfl rfl ?_
  refine x_bipush (v := (-99 : Int32)) C dX1_gladden_90 (by decide) ?_
  refine x_sipush (v := (999 : Int32)) C dX1_gladden_92 (by decide) ?_
  refine q_aload_n C dX1_gladden_95 rfl ?_
  refine x_getR (ci := 8) (j := 0) C dX1_gladden_96 lkF_X1_51 rfl h (fun c17 h => ?_)
  refine x_nn h (fun r18 h => ?_)
  refine x_bipush (v := (25 : Int32)) C dX1_gladden_99 (by decide) ?_
  refine q_iload_n C dX1_gladden_101 rfl ?_
  refine q_iadd C dX1_gladden_102 ?_
  refine x_iald C dX1_gladden_103 h (fun v19 h => ?_)
  refine q_iload C dX1_gladden_104 rfl ?_
  refine q_iadd C dX1_gladden_106 ?_
  refine q_min C dX1_gladden_107 wd_771 wd_473 wd_15 wd_474 (by decide) (Nat.le_of_ble_eq_true rfl) (by decide) ?_
  refine q_max C dX1_gladden_110 wd_748 wd_470 wd_15 wd_471 (by decide) (Nat.le_of_ble_eq_true rfl) (by decide) ?_
  refine q_istore (L' := [some (.ref l0), some (.ref l1), some (.int l2), some (.int s0), some (.int u4), some (.int v7), some (.int u15), some (.int (q_mx (-99 : Int32) (q_mn (999 : Int32) (v19 + u15))))]) C dX1_gladden_113 (by decide) rfl rfl ?_
  refine q_aload_n C dX1_gladden_115 rfl ?_
  refine x_getR (ci := 8) (j := 0) C dX1_gladden_116 lkF_X1_51 rfl h (fun c20 h => ?_)
  refine x_nn h (fun r21 h => ?_)
  refine x_bipush (v := (25 : Int32)) C dX1_gladden_119 (by decide) ?_
  refine q_iload_n C dX1_gladden_121 rfl ?_
  refine q_iadd C dX1_gladden_122 ?_
  refine q_iload C dX1_gladden_123 rfl ?_
  refine x_iast C dX1_gladden_125 h (fun M22 h => ?_)
  refine q_aload_n C dX1_gladden_126 rfl ?_
  refine x_getR (ci := 8) (j := 0) C dX1_gladden_127 lkF_X1_51 rfl h (fun c23 h => ?_)
  refine x_nn h (fun r24 h => ?_)
  refine x_iconst (v := (2 : Int32)) C dX1_gladden_130 (by decide) ?_
  refine x_sipush (v := (999 : Int32)) C dX1_gladden_131 (by decide) ?_
  refine q_aload_n C dX1_gladden_134 rfl ?_
  refine x_getR (ci := 8) (j := 0) C dX1_gladden_135 lkF_X1_51 rfl h (fun c25 h => ?_)
  refine x_nn h (fun r26 h => ?_)
  refine x_iconst (v := (2 : Int32)) C dX1_gladden_138 (by decide) ?_
  refine x_iald C dX1_gladden_139 h (fun v27 h => ?_)
  refine q_iload C dX1_gladden_140 rfl ?_
  refine q_iadd C dX1_gladden_142 ?_
  refine q_min C dX1_gladden_143 wd_771 wd_473 wd_15 wd_474 (by decide) (Nat.le_of_ble_eq_true rfl) (by decide) ?_
  refine x_iast C dX1_gladden_146 h (fun M28 h => ?_)
  refine q_iload C dX1_gladden_147 rfl ?_
  refine x_bipush (v := (-10 : Int32)) C dX1_gladden_149 (by decide) ?_
  refine q_icmp_gt (tgt := 166) C dX1_gladden_151 (by decide) h (fun _ h => ?_) (fun _ h => ?_)
  · exact q_vret C dX1_gladden_166 rfl (by decide) (by decide) (Option.some.inj h)
  · refine q_aload_n C dX1_gladden_154 rfl ?_
    refine x_getR (ci := 8) (j := 0) C dX1_gladden_155 lkF_X1_51 rfl h (fun c29 h => ?_)
    refine x_nn h (fun r30 h => ?_)
    refine x_iconst (v := (4 : Int32)) C dX1_gladden_158 (by decide) ?_
    refine q_dup2 C dX1_gladden_159 rfl rfl ?_
    refine x_iald C dX1_gladden_160 h (fun v31 h => ?_)
    refine x_iconst (v := (1 : Int32)) C dX1_gladden_161 (by decide) ?_
    refine q_iload_n C dX1_gladden_162 rfl ?_
    refine q_ishl C dX1_gladden_163 ?_
    refine q_ior C dX1_gladden_164 ?_
    refine x_iast C dX1_gladden_165 h (fun M32 h => ?_)
    exact q_vret C dX1_gladden_166 rfl (by decide) (by decide) (Option.some.inj h)
noncomputable def J_X1_gladden_36 (l0 : Nat) (l1 : Nat) (l2 : Int32) (M : q_Mem) : Option (Unit × q_Mem) := J_X1_gladden_37 l0 l1 l2 (0 : Int32) M
set_option maxRecDepth 100000 in
set_option maxHeartbeats 4000000 in
theorem jW_X1_gladden_36 {K : q_K} (C : q_C K yX1_gladden cX1_gladden 8 (Option.none : Option Jvm.ClassFile.FieldType) 4 0 0) (l0 : Nat) (l1 : Nat) (l2 : Int32) (M : q_Mem) {r : Unit} {M' : q_Mem} (h : J_X1_gladden_36 l0 l1 l2 M = some (r, M')) : q_W K 8 (q_Q K none M' 0 0) 0 0 M 36 [some (.ref l0), some (.ref l1), some (.int l2), none, none, none, none, none] [] := by
  unfold J_X1_gladden_36 at h
  refine x_iconst (v := (0 : Int32)) C dX1_gladden_36 (by decide) ?_
  exact q_msk [true, true, true, false, false, false, false, false] (jW_X1_gladden_37 C l0 l1 l2 (0 : Int32) M h)
noncomputable def F_X1_gladden (l0 : Nat) (l1 : Nat) (l2 : Int32) (M : q_Mem) : Option (Unit × q_Mem) := (q_gI M l0 1 7 (fun v1 => (if v1 = (-1 : Int32) then J_X1_gladden_36 l0 l1 l2 M else (q_gR M l0 1 0 (fun c33 => q_nn c33 (fun r34 => (q_gI M l0 1 7 (fun v35 => (q_ob M r34 3 ((F_X3_ofDish r34 v35 (2 : Int32) M).bind (fun u36 => (q_gR M l1 8 0 (fun c37 => q_nn c37 (fun r38 => (q_lI M 0 r38 ((19 : Int32) + l2) (fun v39 => (if u36 = v39 then J_X1_gladden_37 l0 l1 l2 (1 : Int32) M else J_X1_gladden_36 l0 l1 l2 M)))))))))))))))))
set_option maxRecDepth 100000 in
set_option maxHeartbeats 4000000 in
theorem c_X1_gladden (l : Launch) (G : q_G) (l0 : Nat) (l1 : Nat) (l2 : Int32) (M : q_Mem) {r : Unit} {M' : q_Mem} (h : F_X1_gladden l0 l1 l2 M = some (r, M')) : q_Met l G yX1_gladden cX1_gladden 8 (Option.none : Option Jvm.ClassFile.FieldType) 4 0 0 [.ref l0, .ref l1, .int l2] M none M' := by
  unfold F_X1_gladden at h
  refine q_enter [some (.ref l0), some (.ref l1), some (.int l2), none, none, none, none, none] (by decide) (Nat.le_of_ble_eq_true rfl) rfl (fun K C => ?_)
  refine q_aload_n C dX1_gladden_0 rfl ?_
  refine x_getI (ci := 1) (j := 7) C dX1_gladden_1 lkF_X1_32 rfl h (fun v1 h => ?_)
  refine x_iconst (v := (-1 : Int32)) C dX1_gladden_4 (by decide) ?_
  refine q_icmp_eq (tgt := 36) C dX1_gladden_5 (by decide) h (fun _ h => ?_) (fun _ h => ?_)
  · exact q_msk [true, true, true, false, false, false, false, false] (jW_X1_gladden_36 C l0 l1 l2 M h)
  · refine q_aload_n C dX1_gladden_8 rfl ?_
    refine x_getR (ci := 1) (j := 0) C dX1_gladden_9 lkF_X1_47 rfl h (fun c33 h => ?_)
    refine x_nn h (fun r34 h => ?_)
    refine q_aload_n C dX1_gladden_12 rfl ?_
    refine x_getI (ci := 1) (j := 7) C dX1_gladden_13 lkF_X1_32 rfl h (fun v35 h => ?_)
    refine x_iconst (v := (2 : Int32)) C dX1_gladden_16 (by decide) ?_
    obtain ⟨hk, h⟩ := q_obE h
    obtain ⟨u36, e1, h⟩ := q_bind h
    refine x_callV0 C dX1_gladden_17 lkM_X1_89 mV_X3_ofDish ⟨_, rfl, rfl⟩ hk (c_X3_ofDish _ _ _ _ _ _ e1) rfl rfl (Nat.le_of_ble_eq_true rfl) (by decide) (by decide) ?_
    refine q_aload_n C dX1_gladden_20 rfl ?_
    refine x_getR (ci := 8) (j := 0) C dX1_gladden_21 lkF_X1_51 rfl h (fun c37 h => ?_)
    refine x_nn h (fun r38 h => ?_)
    refine x_bipush (v := (19 : Int32)) C dX1_gladden_24 (by decide) ?_
    refine q_iload_n C dX1_gladden_26 rfl ?_
    refine q_iadd C dX1_gladden_27 ?_
    refine x_iald C dX1_gladden_28 h (fun v39 h => ?_)
    refine q_icmp_ne (tgt := 36) C dX1_gladden_29 (by decide) h (fun _ h => ?_) (fun _ h => ?_)
    · refine x_iconst (v := (1 : Int32)) C dX1_gladden_32 (by decide) ?_
      refine q_goto (tgt := 37) C dX1_gladden_33 (by decide) ?_
      exact q_msk [true, true, true, false, false, false, false, false] (jW_X1_gladden_37 C l0 l1 l2 (1 : Int32) M h)
    · exact q_msk [true, true, true, false, false, false, false, false] (jW_X1_gladden_36 C l0 l1 l2 M h)
noncomputable def J_X1_pass_103_75 (l0 : Nat) (l1 : Nat) (l3 : Int32) (M : q_Mem) : Option ((Int32 × q_Mem) ⊕ (q_Mem)) := some (.inl ((l3 + (1 : Int32)), M))
set_option maxRecDepth 100000 in
set_option maxHeartbeats 4000000 in
theorem jW_X1_pass_103_75 {K : q_K} {Q : State → Prop} (C : q_C K yX1_pass cX1_pass 4 (Option.none : Option Jvm.ClassFile.FieldType) 5 0 0) (l0 : Nat) (l1 : Nat) (l3 : Int32) (M : q_Mem) {stp : (Int32 × q_Mem) ⊕ (q_Mem)} (h : J_X1_pass_103_75 l0 l1 l3 M = some stp) (kC : ∀ (l3 : Int32) (M : q_Mem), stp = .inl (l3, M) → q_W K 4 Q 0 0 M 75 [some (.ref l0), some (.ref l1), none, some (.int l3)] []) (kE0 : ∀ (M : q_Mem), stp = .inr M → q_W K 4 Q 0 0 M 109 [none, some (.ref l1), none, none] []) : q_W K 4 Q 0 0 M 103 [some (.ref l0), some (.ref l1), none, some (.int l3)] [] := by
  unfold J_X1_pass_103_75 at h
  refine x_iinc (w := (1 : Int32)) (L' := [some (.ref l0), some (.ref l1), none, some (.int (l3 + (1 : Int32)))]) C dX1_pass_103 rfl (by decide) (by decide) rfl rfl ?_
  refine q_goto (tgt := 75) C dX1_pass_106 (by decide) ?_
  exact q_msk [true, true, false, true] (kC _ _ (Option.some.inj h).symm)
noncomputable def B_X1_pass_75 (l0 : Nat) (l1 : Nat) (l3 : Int32) (M : q_Mem) : Option ((Int32 × q_Mem) ⊕ (q_Mem)) := (q_gR M l0 1 0 (fun c25 => q_nn c25 (fun r26 => (q_gI M r26 3 5 (fun v27 => (if l3 < v27 then (q_gI M l0 1 4 (fun v28 => (if ((v28 >>> (l3 &&& 31)) &&& (1 : Int32)) = 0 then J_X1_pass_103_75 l0 l1 l3 M else (q_ob M l0 1 ((F_X1_gladden l0 l1 l3 M).bind (fun x => match x with | (_, M30) => J_X1_pass_103_75 l0 l1 l3 M30)))))) else some (.inr M)))))))
set_option maxRecDepth 100000 in
set_option maxHeartbeats 4000000 in
theorem bW_X1_pass_75 {K : q_K} {Q : State → Prop} (C : q_C K yX1_pass cX1_pass 4 (Option.none : Option Jvm.ClassFile.FieldType) 5 0 0) (l0 : Nat) (l1 : Nat) (l3 : Int32) (M : q_Mem) {stp : (Int32 × q_Mem) ⊕ (q_Mem)} (h : B_X1_pass_75 l0 l1 l3 M = some stp) (kC : ∀ (l3 : Int32) (M : q_Mem), stp = .inl (l3, M) → q_W K 4 Q 0 0 M 75 [some (.ref l0), some (.ref l1), none, some (.int l3)] []) (kE0 : ∀ (M : q_Mem), stp = .inr M → q_W K 4 Q 0 0 M 109 [none, some (.ref l1), none, none] []) : q_W K 4 Q 0 0 M 75 [some (.ref l0), some (.ref l1), none, some (.int l3)] [] := by
  unfold B_X1_pass_75 at h
  refine q_iload_n C dX1_pass_75 rfl ?_
  refine q_aload_n C dX1_pass_76 rfl ?_
  refine x_getR (ci := 1) (j := 0) C dX1_pass_77 lkF_X1_47 rfl h (fun c25 h => ?_)
  refine x_nn h (fun r26 h => ?_)
  refine x_getI (ci := 3) (j := 5) C dX1_pass_80 lkF_X1_66 rfl h (fun v27 h => ?_)
  refine q_icmp_ge (tgt := 109) C dX1_pass_83 (by decide) h (fun _ h => ?_) (fun _ h => ?_)
  · refine q_aload_n C dX1_pass_86 rfl ?_
    refine x_getI (ci := 1) (j := 4) C dX1_pass_87 lkF_X1_22 rfl h (fun v28 h => ?_)
    refine q_iload_n C dX1_pass_90 rfl ?_
    refine q_ishr C dX1_pass_91 ?_
    refine x_iconst (v := (1 : Int32)) C dX1_pass_92 (by decide) ?_
    refine q_iand C dX1_pass_93 ?_
    refine q_if_eq (tgt := 103) C dX1_pass_94 (by decide) h (fun _ h => ?_) (fun _ h => ?_)
    · exact q_msk [true, true, false, true] (jW_X1_pass_103_75 C l0 l1 l3 M h kC kE0)
    · refine q_aload_n C dX1_pass_97 rfl ?_
      refine q_aload_n C dX1_pass_98 rfl ?_
      refine q_iload_n C dX1_pass_99 rfl ?_
      obtain ⟨hk, h⟩ := q_obE h
      obtain ⟨⟨_, M30⟩, e1, h⟩ := q_bind h
      refine x_callVv0 C dX1_pass_100 lkM_X1_106 mV_X1_gladden ⟨_, rfl, rfl⟩ hk (c_X1_gladden _ _ _ _ _ _ e1) rfl rfl (Nat.le_of_ble_eq_true rfl) (by decide) (by decide) ?_
      exact q_msk [true, true, false, true] (jW_X1_pass_103_75 C l0 l1 l3 M30 h kC kE0)
  · exact q_msk [false, true, false, false] (kE0 _ (Option.some.inj h).symm)
set_option maxRecDepth 100000 in
set_option maxHeartbeats 4000000 in
theorem lW_X1_pass_75 {K : q_K} {Q : State → Prop} (C : q_C K yX1_pass cX1_pass 4 (Option.none : Option Jvm.ClassFile.FieldType) 5 0 0) (l0 : Nat) (l1 : Nat) (n : Nat) : ∀ (l3 : Int32) (M : q_Mem) (e : (q_Mem)), q_lp (fun s => B_X1_pass_75 l0 l1 s.1 s.2) n (l3, M) = some e → (∀ (M : q_Mem), e = M → q_W K 4 Q 0 0 M 109 [none, some (.ref l1), none, none] []) → q_W K 4 Q 0 0 M 75 [some (.ref l0), some (.ref l1), none, some (.int l3)] [] := by
  induction n with
  | zero => intro l3 M e h; cases h
  | succ n ih =>
    intro l3 M e h kE0
    obtain ⟨stp, e1, e2⟩ := q_bind h
    refine bW_X1_pass_75 C l0 l1 l3 M e1 (fun a0 a1 hs => ?_) (fun b0 hs => ?_)
    · subst hs; exact ih _ _ _ e2 kE0
    · subst hs; exact kE0 _ (Option.some.inj e2).symm
noncomputable def F_X1_pass (l0 : Nat) (l1 : Nat) (M : q_Mem) : Option (Unit × q_Mem) := (q_ob M l0 1 ((F_X1_lay l0 l1 M).bind (fun x => match x with | (_, M2) => (q_gR M2 l1 8 0 (fun c3 => q_nn c3 (fun r4 => (q_lI M2 0 r4 (0 : Int32) (fun v5 => (q_gR M2 l1 8 0 (fun c6 => q_nn c6 (fun r7 => (q_gI M2 l0 1 5 (fun v8 => (q_tI M2 r7 ((5 : Int32) + (v5 &&& (3 : Int32))) v8 (fun M9 => (q_gR M9 l1 8 0 (fun c10 => q_nn c10 (fun r11 => (q_gI M9 l0 1 6 (fun v12 => (q_tI M9 r11 ((9 : Int32) + (v5 &&& (3 : Int32))) v12 (fun M13 => (q_gR M13 l1 8 0 (fun c14 => q_nn c14 (fun r15 => (q_gR M13 l1 8 0 (fun c16 => q_nn c16 (fun r17 => (q_lI M13 0 r17 (2 : Int32) (fun v18 => (q_gI M13 l0 1 6 (fun v19 => (q_gR M13 l0 1 0 (fun c20 => q_nn c20 (fun r21 => (q_gI M13 l0 1 5 (fun v22 => (q_ob M13 r21 3 ((F_X3_ofDish r21 v22 (1 : Int32) M13).bind (fun u23 => (q_tI M13 r15 (2 : Int32) (q_mx (0 : Int32) (v18 - (v19 * u23))) (fun M24 => (q_lp (fun s => B_X1_pass_75 l0 l1 s.1 s.2) q_fu ((0 : Int32), M24)).bind (fun e31 => match e31 with | M32 => (q_gR M32 l1 8 0 (fun c33 => q_nn c33 (fun r34 => (q_tI M32 r34 (3 : Int32) (-1 : Int32) (fun M35 => (q_gR M35 l1 8 0 (fun c36 => q_nn c36 (fun r37 => (q_lI M35 0 r37 (0 : Int32) (fun v38 => (q_tI M35 r37 (0 : Int32) (v38 + (1 : Int32)) (fun M39 => some ((), M39))))))))))))))))))))))))))))))))))))))))))))))))))))))))
set_option maxRecDepth 100000 in
set_option maxHeartbeats 4000000 in
theorem c_X1_pass (l : Launch) (G : q_G) (l0 : Nat) (l1 : Nat) (M : q_Mem) {r : Unit} {M' : q_Mem} (h : F_X1_pass l0 l1 M = some (r, M')) : q_Met l G yX1_pass cX1_pass 4 (Option.none : Option Jvm.ClassFile.FieldType) 5 0 0 [.ref l0, .ref l1] M none M' := by
  unfold F_X1_pass at h
  refine q_enter [some (.ref l0), some (.ref l1), none, none] (by decide) (Nat.le_of_ble_eq_true rfl) rfl (fun K C => ?_)
  refine q_aload_n C dX1_pass_0 rfl ?_
  refine q_aload_n C dX1_pass_1 rfl ?_
  obtain ⟨hk, h⟩ := q_obE h
  obtain ⟨⟨_, M2⟩, e1, h⟩ := q_bind h
  refine x_callVv0 C dX1_pass_2 lkM_X1_103 mV_X1_lay ⟨_, rfl, rfl⟩ hk (c_X1_lay _ _ _ _ _ e1) rfl rfl (Nat.le_of_ble_eq_true rfl) (by decide) (by decide) ?_
  refine q_aload_n C dX1_pass_5 rfl ?_
  refine x_getR (ci := 8) (j := 0) C dX1_pass_6 lkF_X1_51 rfl h (fun c3 h => ?_)
  refine x_nn h (fun r4 h => ?_)
  refine x_iconst (v := (0 : Int32)) C dX1_pass_9 (by decide) ?_
  refine x_iald C dX1_pass_10 h (fun v5 h => ?_)
  refine x_iconst (v := (3 : Int32)) C dX1_pass_11 (by decide) ?_
  refine q_iand C dX1_pass_12 ?_
  refine q_istore_n (L' := [some (.ref l0), some (.ref l1), some (.int (v5 &&& (3 : Int32))), none]) C dX1_pass_13 (by decide) rfl rfl ?_
  refine q_aload_n C dX1_pass_14 rfl ?_
  refine x_getR (ci := 8) (j := 0) C dX1_pass_15 lkF_X1_51 rfl h (fun c6 h => ?_)
  refine x_nn h (fun r7 h => ?_)
  refine x_iconst (v := (5 : Int32)) C dX1_pass_18 (by decide) ?_
  refine q_iload_n C dX1_pass_19 rfl ?_
  refine q_iadd C dX1_pass_20 ?_
  refine q_aload_n C dX1_pass_21 rfl ?_
  refine x_getI (ci := 1) (j := 5) C dX1_pass_22 lkF_X1_26 rfl h (fun v8 h => ?_)
  refine x_iast C dX1_pass_25 h (fun M9 h => ?_)
  refine q_aload_n C dX1_pass_26 rfl ?_
  refine x_getR (ci := 8) (j := 0) C dX1_pass_27 lkF_X1_51 rfl h (fun c10 h => ?_)
  refine x_nn h (fun r11 h => ?_)
  refine x_bipush (v := (9 : Int32)) C dX1_pass_30 (by decide) ?_
  refine q_iload_n C dX1_pass_32 rfl ?_
  refine q_iadd C dX1_pass_33 ?_
  refine q_aload_n C dX1_pass_34 rfl ?_
  refine x_getI (ci := 1) (j := 6) C dX1_pass_35 lkF_X1_29 rfl h (fun v12 h => ?_)
  refine x_iast C dX1_pass_38 h (fun M13 h => ?_)
  refine q_aload_n C dX1_pass_39 rfl ?_
  refine x_getR (ci := 8) (j := 0) C dX1_pass_40 lkF_X1_51 rfl h (fun c14 h => ?_)
  refine x_nn h (fun r15 h => ?_)
  refine x_iconst (v := (2 : Int32)) C dX1_pass_43 (by decide) ?_
  refine x_iconst (v := (0 : Int32)) C dX1_pass_44 (by decide) ?_
  refine q_aload_n C dX1_pass_45 rfl ?_
  refine x_getR (ci := 8) (j := 0) C dX1_pass_46 lkF_X1_51 rfl h (fun c16 h => ?_)
  refine x_nn h (fun r17 h => ?_)
  refine x_iconst (v := (2 : Int32)) C dX1_pass_49 (by decide) ?_
  refine x_iald C dX1_pass_50 h (fun v18 h => ?_)
  refine q_aload_n C dX1_pass_51 rfl ?_
  refine x_getI (ci := 1) (j := 6) C dX1_pass_52 lkF_X1_29 rfl h (fun v19 h => ?_)
  refine q_aload_n C dX1_pass_55 rfl ?_
  refine x_getR (ci := 1) (j := 0) C dX1_pass_56 lkF_X1_47 rfl h (fun c20 h => ?_)
  refine x_nn h (fun r21 h => ?_)
  refine q_aload_n C dX1_pass_59 rfl ?_
  refine x_getI (ci := 1) (j := 5) C dX1_pass_60 lkF_X1_26 rfl h (fun v22 h => ?_)
  refine x_iconst (v := (1 : Int32)) C dX1_pass_63 (by decide) ?_
  obtain ⟨hk, h⟩ := q_obE h
  obtain ⟨u23, e1, h⟩ := q_bind h
  refine x_callV0 C dX1_pass_64 lkM_X1_89 mV_X3_ofDish ⟨_, rfl, rfl⟩ hk (c_X3_ofDish _ _ _ _ _ _ e1) rfl rfl (Nat.le_of_ble_eq_true rfl) (by decide) (by decide) ?_
  refine q_imul C dX1_pass_67 ?_
  refine q_isub C dX1_pass_68 ?_
  refine q_max C dX1_pass_69 wd_748 wd_470 wd_15 wd_471 (by decide) (Nat.le_of_ble_eq_true rfl) (by decide) ?_
  refine x_iast C dX1_pass_72 h (fun M24 h => ?_)
  refine x_iconst (v := (0 : Int32)) C dX1_pass_73 (by decide) ?_
  refine q_istore_n (L' := [some (.ref l0), some (.ref l1), some (.int (v5 &&& (3 : Int32))), some (.int (0 : Int32))]) C dX1_pass_74 (by decide) rfl rfl ?_
  obtain ⟨e31, he, h⟩ := q_bind h
  refine q_msk [true, true, false, true] (lW_X1_pass_75 C l0 l1 q_fu _ _ _ he (fun M32 hs => ?_))
  · have hs := hs.symm
    subst hs
    refine q_aload_n C dX1_pass_109 rfl ?_
    refine x_getR (ci := 8) (j := 0) C dX1_pass_110 lkF_X1_51 rfl h (fun c33 h => ?_)
    refine x_nn h (fun r34 h => ?_)
    refine x_iconst (v := (3 : Int32)) C dX1_pass_113 (by decide) ?_
    refine x_iconst (v := (-1 : Int32)) C dX1_pass_114 (by decide) ?_
    refine x_iast C dX1_pass_115 h (fun M35 h => ?_)
    refine q_aload_n C dX1_pass_116 rfl ?_
    refine x_getR (ci := 8) (j := 0) C dX1_pass_117 lkF_X1_51 rfl h (fun c36 h => ?_)
    refine x_nn h (fun r37 h => ?_)
    refine x_iconst (v := (0 : Int32)) C dX1_pass_120 (by decide) ?_
    refine q_dup2 C dX1_pass_121 rfl rfl ?_
    refine x_iald C dX1_pass_122 h (fun v38 h => ?_)
    refine x_iconst (v := (1 : Int32)) C dX1_pass_123 (by decide) ?_
    refine q_iadd C dX1_pass_124 ?_
    refine x_iast C dX1_pass_125 h (fun M39 h => ?_)
    exact q_vret C dX1_pass_126 rfl (by decide) (by decide) (Option.some.inj h)
noncomputable def F_X3_hasDish (l0 : Nat) (l1 : Int32) (M : q_Mem) : Option (Int32) := (if l1 < 0 then q_rq (0 : Int32) else (q_gI M l0 3 4 (fun v1 => (if l1 < v1 then q_rq (1 : Int32) else q_rq (0 : Int32)))))
set_option maxRecDepth 100000 in
set_option maxHeartbeats 4000000 in
theorem c_X3_hasDish (l : Launch) (G : q_G) (l0 : Nat) (l1 : Int32) (M : q_Mem) {r : Int32} (h : F_X3_hasDish l0 l1 M = some r) : q_Met l G yX3_hasDish cX3_hasDish 2 (Option.some Jvm.ClassFile.FieldType.boolean) 1 0 0 [.ref l0, .int l1] M (some (.int r)) M := by
  unfold F_X3_hasDish at h
  refine q_enter [some (.ref l0), some (.int l1)] (by decide) (Nat.le_of_ble_eq_true rfl) rfl (fun K C => ?_)
  refine q_iload_n C dX3_hasDish_0 rfl ?_
  refine q_if_lt (tgt := 16) C dX3_hasDish_1 (by decide) h (fun _ h => ?_) (fun _ h => ?_)
  · refine x_iconst (v := (0 : Int32)) C dX3_hasDish_16 (by decide) ?_
    exact q_zret (res := (r, M)) C dX3_hasDish_17 rfl (by decide) (by decide) (q_rqE h).1 (congrArg (fun z => (z, M)) (q_rqE h).2)
  · refine q_iload_n C dX3_hasDish_4 rfl ?_
    refine q_aload_n C dX3_hasDish_5 rfl ?_
    refine x_getI (ci := 3) (j := 4) C dX3_hasDish_6 lkF_X3_24 rfl h (fun v1 h => ?_)
    refine q_icmp_ge (tgt := 16) C dX3_hasDish_9 (by decide) h (fun _ h => ?_) (fun _ h => ?_)
    · refine x_iconst (v := (1 : Int32)) C dX3_hasDish_12 (by decide) ?_
      refine q_goto (tgt := 17) C dX3_hasDish_13 (by decide) ?_
      exact q_zret (res := (r, M)) C dX3_hasDish_17 rfl (by decide) (by decide) (q_rqE h).1 (congrArg (fun z => (z, M)) (q_rqE h).2)
    · refine x_iconst (v := (0 : Int32)) C dX3_hasDish_16 (by decide) ?_
      exact q_zret (res := (r, M)) C dX3_hasDish_17 rfl (by decide) (by decide) (q_rqE h).1 (congrArg (fun z => (z, M)) (q_rqE h).2)
noncomputable def F_X0_chooseDish (l0 : Nat) (l1 : Nat) (l2 : Int32) (M : q_Mem) : Option (Int32 × q_Mem) := (q_gR M l0 0 0 (fun c1 => q_nn c1 (fun r2 => (q_ob M r2 3 ((F_X3_hasDish r2 l2 M).bind (fun u3 => (if u3 = 0 then q_rz (0 : Int32) M else (q_gR M l1 8 0 (fun c4 => q_nn c4 (fun r5 => (q_lI M 0 r5 (3 : Int32) (fun v6 => (if v6 = l2 then q_rz (0 : Int32) M else (q_gR M l1 8 0 (fun c7 => q_nn c7 (fun r8 => (q_tI M r8 (3 : Int32) l2 (fun M9 => q_rz (1 : Int32) M9))))))))))))))))))
set_option maxRecDepth 100000 in
set_option maxHeartbeats 4000000 in
theorem c_X0_chooseDish (l : Launch) (G : q_G) (l0 : Nat) (l1 : Nat) (l2 : Int32) (M : q_Mem) {r : Int32} {M' : q_Mem} (h : F_X0_chooseDish l0 l1 l2 M = some (r, M')) : q_Met l G yX0_chooseDish cX0_chooseDish 3 (Option.some Jvm.ClassFile.FieldType.boolean) 2 0 0 [.ref l0, .ref l1, .int l2] M (some (.int r)) M' := by
  unfold F_X0_chooseDish at h
  refine q_enter [some (.ref l0), some (.ref l1), some (.int l2)] (by decide) (Nat.le_of_ble_eq_true rfl) rfl (fun K C => ?_)
  refine q_aload_n C dX0_chooseDish_0 rfl ?_
  refine x_getR (ci := 0) (j := 0) C dX0_chooseDish_1 lkF_X0_9 rfl h (fun c1 h => ?_)
  refine x_nn h (fun r2 h => ?_)
  refine q_iload_n C dX0_chooseDish_4 rfl ?_
  obtain ⟨hk, h⟩ := q_obE h
  obtain ⟨u3, e1, h⟩ := q_bind h
  refine x_callV0 C dX0_chooseDish_5 lkM_X0_49 mV_X3_hasDish ⟨_, rfl, rfl⟩ hk (c_X3_hasDish _ _ _ _ _ e1) rfl rfl (Nat.le_of_ble_eq_true rfl) (by decide) (by decide) ?_
  refine q_if_eq (tgt := 21) C dX0_chooseDish_8 (by decide) h (fun _ h => ?_) (fun _ h => ?_)
  · refine x_iconst (v := (0 : Int32)) C dX0_chooseDish_21 (by decide) ?_
    exact q_zret C dX0_chooseDish_22 rfl (by decide) (by decide) (q_rzE h).1 (q_rzE h).2
  · refine q_aload_n C dX0_chooseDish_11 rfl ?_
    refine x_getR (ci := 8) (j := 0) C dX0_chooseDish_12 lkF_X0_19 rfl h (fun c4 h => ?_)
    refine x_nn h (fun r5 h => ?_)
    refine x_iconst (v := (3 : Int32)) C dX0_chooseDish_15 (by decide) ?_
    refine x_iald C dX0_chooseDish_16 h (fun v6 h => ?_)
    refine q_iload_n C dX0_chooseDish_17 rfl ?_
    refine q_icmp_ne (tgt := 23) C dX0_chooseDish_18 (by decide) h (fun _ h => ?_) (fun _ h => ?_)
    · refine x_iconst (v := (0 : Int32)) C dX0_chooseDish_21 (by decide) ?_
      exact q_zret C dX0_chooseDish_22 rfl (by decide) (by decide) (q_rzE h).1 (q_rzE h).2
    · refine q_aload_n C dX0_chooseDish_23 rfl ?_
      refine x_getR (ci := 8) (j := 0) C dX0_chooseDish_24 lkF_X0_19 rfl h (fun c7 h => ?_)
      refine x_nn h (fun r8 h => ?_)
      refine x_iconst (v := (3 : Int32)) C dX0_chooseDish_27 (by decide) ?_
      refine q_iload_n C dX0_chooseDish_28 rfl ?_
      refine x_iast C dX0_chooseDish_29 h (fun M9 h => ?_)
      refine x_iconst (v := (1 : Int32)) C dX0_chooseDish_30 (by decide) ?_
      exact q_zret C dX0_chooseDish_31 rfl (by decide) (by decide) (q_rzE h).1 (q_rzE h).2
noncomputable def F_X0_fallIll (l0 : Nat) (l1 : Nat) (M : q_Mem) : Option (Int32 × q_Mem) := (q_gR M l1 8 0 (fun c1 => q_nn c1 (fun r2 => (q_lI M 0 r2 (1 : Int32) (fun v3 => (if v3 < (3 : Int32) then (q_gR M l1 8 0 (fun c4 => q_nn c4 (fun r5 => (q_lI M 0 r5 (1 : Int32) (fun v6 => (q_tI M r5 (1 : Int32) (v6 + (1 : Int32)) (fun M7 => q_rz (1 : Int32) M7))))))) else q_rz (0 : Int32) M))))))
set_option maxRecDepth 100000 in
set_option maxHeartbeats 4000000 in
theorem c_X0_fallIll (l : Launch) (G : q_G) (l0 : Nat) (l1 : Nat) (M : q_Mem) {r : Int32} {M' : q_Mem} (h : F_X0_fallIll l0 l1 M = some (r, M')) : q_Met l G yX0_fallIll cX0_fallIll 2 (Option.some Jvm.ClassFile.FieldType.boolean) 1 0 0 [.ref l0, .ref l1] M (some (.int r)) M' := by
  unfold F_X0_fallIll at h
  refine q_enter [some (.ref l0), some (.ref l1)] (by decide) (Nat.le_of_ble_eq_true rfl) rfl (fun K C => ?_)
  refine q_aload_n C dX0_fallIll_0 rfl ?_
  refine x_getR (ci := 8) (j := 0) C dX0_fallIll_1 lkF_X0_19 rfl h (fun c1 h => ?_)
  refine x_nn h (fun r2 h => ?_)
  refine x_iconst (v := (1 : Int32)) C dX0_fallIll_4 (by decide) ?_
  refine x_iald C dX0_fallIll_5 h (fun v3 h => ?_)
  refine x_iconst (v := (3 : Int32)) C dX0_fallIll_6 (by decide) ?_
  refine q_icmp_lt (tgt := 12) C dX0_fallIll_7 (by decide) h (fun _ h => ?_) (fun _ h => ?_)
  · refine q_aload_n C dX0_fallIll_12 rfl ?_
    refine x_getR (ci := 8) (j := 0) C dX0_fallIll_13 lkF_X0_19 rfl h (fun c4 h => ?_)
    refine x_nn h (fun r5 h => ?_)
    refine x_iconst (v := (1 : Int32)) C dX0_fallIll_16 (by decide) ?_
    refine q_dup2 C dX0_fallIll_17 rfl rfl ?_
    refine x_iald C dX0_fallIll_18 h (fun v6 h => ?_)
    refine x_iconst (v := (1 : Int32)) C dX0_fallIll_19 (by decide) ?_
    refine q_iadd C dX0_fallIll_20 ?_
    refine x_iast C dX0_fallIll_21 h (fun M7 h => ?_)
    refine x_iconst (v := (1 : Int32)) C dX0_fallIll_22 (by decide) ?_
    exact q_zret C dX0_fallIll_23 rfl (by decide) (by decide) (q_rzE h).1 (q_rzE h).2
  · refine x_iconst (v := (0 : Int32)) C dX0_fallIll_10 (by decide) ?_
    exact q_zret C dX0_fallIll_11 rfl (by decide) (by decide) (q_rzE h).1 (q_rzE h).2
noncomputable def F_X0_makeHandUp (l0 : Nat) (l1 : Nat) (M : q_Mem) : Option (Int32 × q_Mem) := (q_gR M l1 8 0 (fun c1 => q_nn c1 (fun r2 => (q_lI M 0 r2 (1 : Int32) (fun v3 => (if 0 < v3 then (q_gR M l1 8 0 (fun c4 => q_nn c4 (fun r5 => (q_lI M 0 r5 (2 : Int32) (fun v6 => (if v6 < (5 : Int32) then q_rz (0 : Int32) M else (q_gR M l1 8 0 (fun c7 => q_nn c7 (fun r8 => (q_lI M 0 r8 (1 : Int32) (fun v9 => (q_tI M r8 (1 : Int32) (v9 - (1 : Int32)) (fun M10 => (q_gR M10 l1 8 0 (fun c11 => q_nn c11 (fun r12 => (q_lI M10 0 r12 (2 : Int32) (fun v13 => (q_tI M10 r12 (2 : Int32) (v13 - (5 : Int32)) (fun M14 => q_rz (1 : Int32) M14)))))))))))))))))))) else q_rz (0 : Int32) M))))))
set_option maxRecDepth 100000 in
set_option maxHeartbeats 4000000 in
theorem c_X0_makeHandUp (l : Launch) (G : q_G) (l0 : Nat) (l1 : Nat) (M : q_Mem) {r : Int32} {M' : q_Mem} (h : F_X0_makeHandUp l0 l1 M = some (r, M')) : q_Met l G yX0_makeHandUp cX0_makeHandUp 2 (Option.some Jvm.ClassFile.FieldType.boolean) 1 0 0 [.ref l0, .ref l1] M (some (.int r)) M' := by
  unfold F_X0_makeHandUp at h
  refine q_enter [some (.ref l0), some (.ref l1)] (by decide) (Nat.le_of_ble_eq_true rfl) rfl (fun K C => ?_)
  refine q_aload_n C dX0_makeHandUp_0 rfl ?_
  refine x_getR (ci := 8) (j := 0) C dX0_makeHandUp_1 lkF_X0_19 rfl h (fun c1 h => ?_)
  refine x_nn h (fun r2 h => ?_)
  refine x_iconst (v := (1 : Int32)) C dX0_makeHandUp_4 (by decide) ?_
  refine x_iald C dX0_makeHandUp_5 h (fun v3 h => ?_)
  refine q_if_le (tgt := 19) C dX0_makeHandUp_6 (by decide) h (fun _ h => ?_) (fun _ h => ?_)
  · refine q_aload_n C dX0_makeHandUp_9 rfl ?_
    refine x_getR (ci := 8) (j := 0) C dX0_makeHandUp_10 lkF_X0_19 rfl h (fun c4 h => ?_)
    refine x_nn h (fun r5 h => ?_)
    refine x_iconst (v := (2 : Int32)) C dX0_makeHandUp_13 (by decide) ?_
    refine x_iald C dX0_makeHandUp_14 h (fun v6 h => ?_)
    refine x_iconst (v := (5 : Int32)) C dX0_makeHandUp_15 (by decide) ?_
    refine q_icmp_ge (tgt := 21) C dX0_makeHandUp_16 (by decide) h (fun _ h => ?_) (fun _ h => ?_)
    · refine x_iconst (v := (0 : Int32)) C dX0_makeHandUp_19 (by decide) ?_
      exact q_zret C dX0_makeHandUp_20 rfl (by decide) (by decide) (q_rzE h).1 (q_rzE h).2
    · refine q_aload_n C dX0_makeHandUp_21 rfl ?_
      refine x_getR (ci := 8) (j := 0) C dX0_makeHandUp_22 lkF_X0_19 rfl h (fun c7 h => ?_)
      refine x_nn h (fun r8 h => ?_)
      refine x_iconst (v := (1 : Int32)) C dX0_makeHandUp_25 (by decide) ?_
      refine q_dup2 C dX0_makeHandUp_26 rfl rfl ?_
      refine x_iald C dX0_makeHandUp_27 h (fun v9 h => ?_)
      refine x_iconst (v := (1 : Int32)) C dX0_makeHandUp_28 (by decide) ?_
      refine q_isub C dX0_makeHandUp_29 ?_
      refine x_iast C dX0_makeHandUp_30 h (fun M10 h => ?_)
      refine q_aload_n C dX0_makeHandUp_31 rfl ?_
      refine x_getR (ci := 8) (j := 0) C dX0_makeHandUp_32 lkF_X0_19 rfl h (fun c11 h => ?_)
      refine x_nn h (fun r12 h => ?_)
      refine x_iconst (v := (2 : Int32)) C dX0_makeHandUp_35 (by decide) ?_
      refine q_dup2 C dX0_makeHandUp_36 rfl rfl ?_
      refine x_iald C dX0_makeHandUp_37 h (fun v13 h => ?_)
      refine x_iconst (v := (5 : Int32)) C dX0_makeHandUp_38 (by decide) ?_
      refine q_isub C dX0_makeHandUp_39 ?_
      refine x_iast C dX0_makeHandUp_40 h (fun M14 h => ?_)
      refine x_iconst (v := (1 : Int32)) C dX0_makeHandUp_41 (by decide) ?_
      exact q_zret C dX0_makeHandUp_42 rfl (by decide) (by decide) (q_rzE h).1 (q_rzE h).2
  · refine x_iconst (v := (0 : Int32)) C dX0_makeHandUp_19 (by decide) ?_
    exact q_zret C dX0_makeHandUp_20 rfl (by decide) (by decide) (q_rzE h).1 (q_rzE h).2
noncomputable def F_X3_hasGuest (l0 : Nat) (l1 : Int32) (M : q_Mem) : Option (Int32) := (if l1 < 0 then q_rq (0 : Int32) else (q_gI M l0 3 5 (fun v1 => (if l1 < v1 then q_rq (1 : Int32) else q_rq (0 : Int32)))))
set_option maxRecDepth 100000 in
set_option maxHeartbeats 4000000 in
theorem c_X3_hasGuest (l : Launch) (G : q_G) (l0 : Nat) (l1 : Int32) (M : q_Mem) {r : Int32} (h : F_X3_hasGuest l0 l1 M = some r) : q_Met l G yX3_hasGuest cX3_hasGuest 2 (Option.some Jvm.ClassFile.FieldType.boolean) 1 0 0 [.ref l0, .int l1] M (some (.int r)) M := by
  unfold F_X3_hasGuest at h
  refine q_enter [some (.ref l0), some (.int l1)] (by decide) (Nat.le_of_ble_eq_true rfl) rfl (fun K C => ?_)
  refine q_iload_n C dX3_hasGuest_0 rfl ?_
  refine q_if_lt (tgt := 16) C dX3_hasGuest_1 (by decide) h (fun _ h => ?_) (fun _ h => ?_)
  · refine x_iconst (v := (0 : Int32)) C dX3_hasGuest_16 (by decide) ?_
    exact q_zret (res := (r, M)) C dX3_hasGuest_17 rfl (by decide) (by decide) (q_rqE h).1 (congrArg (fun z => (z, M)) (q_rqE h).2)
  · refine q_iload_n C dX3_hasGuest_4 rfl ?_
    refine q_aload_n C dX3_hasGuest_5 rfl ?_
    refine x_getI (ci := 3) (j := 5) C dX3_hasGuest_6 lkF_X3_28 rfl h (fun v1 h => ?_)
    refine q_icmp_ge (tgt := 16) C dX3_hasGuest_9 (by decide) h (fun _ h => ?_) (fun _ h => ?_)
    · refine x_iconst (v := (1 : Int32)) C dX3_hasGuest_12 (by decide) ?_
      refine q_goto (tgt := 17) C dX3_hasGuest_13 (by decide) ?_
      exact q_zret (res := (r, M)) C dX3_hasGuest_17 rfl (by decide) (by decide) (q_rqE h).1 (congrArg (fun z => (z, M)) (q_rqE h).2)
    · refine x_iconst (v := (0 : Int32)) C dX3_hasGuest_16 (by decide) ?_
      exact q_zret (res := (r, M)) C dX3_hasGuest_17 rfl (by decide) (by decide) (q_rqE h).1 (congrArg (fun z => (z, M)) (q_rqE h).2)
noncomputable def F_X0_stayLonger (l0 : Nat) (l1 : Nat) (l2 : Int32) (l3 : Int32) (M : q_Mem) : Option (Int32 × q_Mem) := (q_gR M l0 0 0 (fun c1 => q_nn c1 (fun r2 => (q_ob M r2 3 ((F_X3_hasGuest r2 l2 M).bind (fun u3 => (if u3 = 0 then q_rz (0 : Int32) M else (q_ob M l1 8 ((F_X8_hasLeft l1 l2 M).bind (fun u4 => (if u4 = 0 then (if l3 < (1 : Int32) then q_rz (0 : Int32) M else (if (9 : Int32) < l3 then q_rz (0 : Int32) M else (q_gR M l1 8 0 (fun c5 => q_nn c5 (fun r6 => (q_lI M 0 r6 ((13 : Int32) + l2) (fun v7 => (if (99 : Int32) < (v7 + l3) then q_rz (0 : Int32) M else (q_gR M l1 8 0 (fun c8 => q_nn c8 (fun r9 => (q_lI M 0 r9 ((13 : Int32) + l2) (fun v10 => (q_tI M r9 ((13 : Int32) + l2) (v10 + l3) (fun M11 => q_rz (1 : Int32) M11))))))))))))))) else q_rz (0 : Int32) M)))))))))))
set_option maxRecDepth 100000 in
set_option maxHeartbeats 4000000 in
theorem c_X0_stayLonger (l : Launch) (G : q_G) (l0 : Nat) (l1 : Nat) (l2 : Int32) (l3 : Int32) (M : q_Mem) {r : Int32} {M' : q_Mem} (h : F_X0_stayLonger l0 l1 l2 l3 M = some (r, M')) : q_Met l G yX0_stayLonger cX0_stayLonger 4 (Option.some Jvm.ClassFile.FieldType.boolean) 2 0 0 [.ref l0, .ref l1, .int l2, .int l3] M (some (.int r)) M' := by
  unfold F_X0_stayLonger at h
  refine q_enter [some (.ref l0), some (.ref l1), some (.int l2), some (.int l3)] (by decide) (Nat.le_of_ble_eq_true rfl) rfl (fun K C => ?_)
  refine q_aload_n C dX0_stayLonger_0 rfl ?_
  refine x_getR (ci := 0) (j := 0) C dX0_stayLonger_1 lkF_X0_9 rfl h (fun c1 h => ?_)
  refine x_nn h (fun r2 h => ?_)
  refine q_iload_n C dX0_stayLonger_4 rfl ?_
  obtain ⟨hk, h⟩ := q_obE h
  obtain ⟨u3, e1, h⟩ := q_bind h
  refine x_callV0 C dX0_stayLonger_5 lkM_X0_55 mV_X3_hasGuest ⟨_, rfl, rfl⟩ hk (c_X3_hasGuest _ _ _ _ _ e1) rfl rfl (Nat.le_of_ble_eq_true rfl) (by decide) (by decide) ?_
  refine q_if_eq (tgt := 46) C dX0_stayLonger_8 (by decide) h (fun _ h => ?_) (fun _ h => ?_)
  · refine x_iconst (v := (0 : Int32)) C dX0_stayLonger_46 (by decide) ?_
    exact q_zret C dX0_stayLonger_47 rfl (by decide) (by decide) (q_rzE h).1 (q_rzE h).2
  · refine q_aload_n C dX0_stayLonger_11 rfl ?_
    refine q_iload_n C dX0_stayLonger_12 rfl ?_
    obtain ⟨hk, h⟩ := q_obE h
    obtain ⟨u4, e1, h⟩ := q_bind h
    refine x_callV0 C dX0_stayLonger_13 lkM_X0_58 mV_X8_hasLeft ⟨_, rfl, rfl⟩ hk (c_X8_hasLeft _ _ _ _ _ e1) rfl rfl (Nat.le_of_ble_eq_true rfl) (by decide) (by decide) ?_
    refine q_if_ne (tgt := 46) C dX0_stayLonger_16 (by decide) h (fun _ h => ?_) (fun _ h => ?_)
    · refine q_iload_n C dX0_stayLonger_19 rfl ?_
      refine x_iconst (v := (1 : Int32)) C dX0_stayLonger_20 (by decide) ?_
      refine q_icmp_lt (tgt := 46) C dX0_stayLonger_21 (by decide) h (fun _ h => ?_) (fun _ h => ?_)
      · refine x_iconst (v := (0 : Int32)) C dX0_stayLonger_46 (by decide) ?_
        exact q_zret C dX0_stayLonger_47 rfl (by decide) (by decide) (q_rzE h).1 (q_rzE h).2
      · refine q_iload_n C dX0_stayLonger_24 rfl ?_
        refine x_bipush (v := (9 : Int32)) C dX0_stayLonger_25 (by decide) ?_
        refine q_icmp_gt (tgt := 46) C dX0_stayLonger_27 (by decide) h (fun _ h => ?_) (fun _ h => ?_)
        · refine x_iconst (v := (0 : Int32)) C dX0_stayLonger_46 (by decide) ?_
          exact q_zret C dX0_stayLonger_47 rfl (by decide) (by decide) (q_rzE h).1 (q_rzE h).2
        · refine q_aload_n C dX0_stayLonger_30 rfl ?_
          refine x_getR (ci := 8) (j := 0) C dX0_stayLonger_31 lkF_X0_19 rfl h (fun c5 h => ?_)
          refine x_nn h (fun r6 h => ?_)
          refine x_bipush (v := (13 : Int32)) C dX0_stayLonger_34 (by decide) ?_
          refine q_iload_n C dX0_stayLonger_36 rfl ?_
          refine q_iadd C dX0_stayLonger_37 ?_
          refine x_iald C dX0_stayLonger_38 h (fun v7 h => ?_)
          refine q_iload_n C dX0_stayLonger_39 rfl ?_
          refine q_iadd C dX0_stayLonger_40 ?_
          refine x_bipush (v := (99 : Int32)) C dX0_stayLonger_41 (by decide) ?_
          refine q_icmp_le (tgt := 48) C dX0_stayLonger_43 (by decide) h (fun _ h => ?_) (fun _ h => ?_)
          · refine x_iconst (v := (0 : Int32)) C dX0_stayLonger_46 (by decide) ?_
            exact q_zret C dX0_stayLonger_47 rfl (by decide) (by decide) (q_rzE h).1 (q_rzE h).2
          · refine q_aload_n C dX0_stayLonger_48 rfl ?_
            refine x_getR (ci := 8) (j := 0) C dX0_stayLonger_49 lkF_X0_19 rfl h (fun c8 h => ?_)
            refine x_nn h (fun r9 h => ?_)
            refine x_bipush (v := (13 : Int32)) C dX0_stayLonger_52 (by decide) ?_
            refine q_iload_n C dX0_stayLonger_54 rfl ?_
            refine q_iadd C dX0_stayLonger_55 ?_
            refine q_dup2 C dX0_stayLonger_56 rfl rfl ?_
            refine x_iald C dX0_stayLonger_57 h (fun v10 h => ?_)
            refine q_iload_n C dX0_stayLonger_58 rfl ?_
            refine q_iadd C dX0_stayLonger_59 ?_
            refine x_iast C dX0_stayLonger_60 h (fun M11 h => ?_)
            refine x_iconst (v := (1 : Int32)) C dX0_stayLonger_61 (by decide) ?_
            exact q_zret C dX0_stayLonger_62 rfl (by decide) (by decide) (q_rzE h).1 (q_rzE h).2
    · refine x_iconst (v := (0 : Int32)) C dX0_stayLonger_46 (by decide) ?_
      exact q_zret C dX0_stayLonger_47 rfl (by decide) (by decide) (q_rzE h).1 (q_rzE h).2
noncomputable def F_X0_likeAnother (l0 : Nat) (l1 : Nat) (l2 : Int32) (l3 : Int32) (M : q_Mem) : Option (Int32 × q_Mem) := (q_gR M l0 0 0 (fun c1 => q_nn c1 (fun r2 => (q_ob M r2 3 ((F_X3_hasGuest r2 l2 M).bind (fun u3 => (if u3 = 0 then q_rz (0 : Int32) M else (if l3 < 0 then q_rz (0 : Int32) M else (if l3 < (4 : Int32) then (q_gR M l1 8 0 (fun c4 => q_nn c4 (fun r5 => (q_lI M 0 r5 ((19 : Int32) + l2) (fun v6 => (if v6 = l3 then q_rz (0 : Int32) M else (q_gR M l1 8 0 (fun c7 => q_nn c7 (fun r8 => (q_tI M r8 ((19 : Int32) + l2) l3 (fun M9 => q_rz (1 : Int32) M9))))))))))) else q_rz (0 : Int32) M)))))))))
set_option maxRecDepth 100000 in
set_option maxHeartbeats 4000000 in
theorem c_X0_likeAnother (l : Launch) (G : q_G) (l0 : Nat) (l1 : Nat) (l2 : Int32) (l3 : Int32) (M : q_Mem) {r : Int32} {M' : q_Mem} (h : F_X0_likeAnother l0 l1 l2 l3 M = some (r, M')) : q_Met l G yX0_likeAnother cX0_likeAnother 4 (Option.some Jvm.ClassFile.FieldType.boolean) 2 0 0 [.ref l0, .ref l1, .int l2, .int l3] M (some (.int r)) M' := by
  unfold F_X0_likeAnother at h
  refine q_enter [some (.ref l0), some (.ref l1), some (.int l2), some (.int l3)] (by decide) (Nat.le_of_ble_eq_true rfl) rfl (fun K C => ?_)
  refine q_aload_n C dX0_likeAnother_0 rfl ?_
  refine x_getR (ci := 0) (j := 0) C dX0_likeAnother_1 lkF_X0_9 rfl h (fun c1 h => ?_)
  refine x_nn h (fun r2 h => ?_)
  refine q_iload_n C dX0_likeAnother_4 rfl ?_
  obtain ⟨hk, h⟩ := q_obE h
  obtain ⟨u3, e1, h⟩ := q_bind h
  refine x_callV0 C dX0_likeAnother_5 lkM_X0_55 mV_X3_hasGuest ⟨_, rfl, rfl⟩ hk (c_X3_hasGuest _ _ _ _ _ e1) rfl rfl (Nat.le_of_ble_eq_true rfl) (by decide) (by decide) ?_
  refine q_if_eq (tgt := 33) C dX0_likeAnother_8 (by decide) h (fun _ h => ?_) (fun _ h => ?_)
  · refine x_iconst (v := (0 : Int32)) C dX0_likeAnother_33 (by decide) ?_
    exact q_zret C dX0_likeAnother_34 rfl (by decide) (by decide) (q_rzE h).1 (q_rzE h).2
  · refine q_iload_n C dX0_likeAnother_11 rfl ?_
    refine q_if_lt (tgt := 33) C dX0_likeAnother_12 (by decide) h (fun _ h => ?_) (fun _ h => ?_)
    · refine x_iconst (v := (0 : Int32)) C dX0_likeAnother_33 (by decide) ?_
      exact q_zret C dX0_likeAnother_34 rfl (by decide) (by decide) (q_rzE h).1 (q_rzE h).2
    · refine q_iload_n C dX0_likeAnother_15 rfl ?_
      refine x_iconst (v := (4 : Int32)) C dX0_likeAnother_16 (by decide) ?_
      refine q_icmp_ge (tgt := 33) C dX0_likeAnother_17 (by decide) h (fun _ h => ?_) (fun _ h => ?_)
      · refine q_aload_n C dX0_likeAnother_20 rfl ?_
        refine x_getR (ci := 8) (j := 0) C dX0_likeAnother_21 lkF_X0_19 rfl h (fun c4 h => ?_)
        refine x_nn h (fun r5 h => ?_)
        refine x_bipush (v := (19 : Int32)) C dX0_likeAnother_24 (by decide) ?_
        refine q_iload_n C dX0_likeAnother_26 rfl ?_
        refine q_iadd C dX0_likeAnother_27 ?_
        refine x_iald C dX0_likeAnother_28 h (fun v6 h => ?_)
        refine q_iload_n C dX0_likeAnother_29 rfl ?_
        refine q_icmp_ne (tgt := 35) C dX0_likeAnother_30 (by decide) h (fun _ h => ?_) (fun _ h => ?_)
        · refine x_iconst (v := (0 : Int32)) C dX0_likeAnother_33 (by decide) ?_
          exact q_zret C dX0_likeAnother_34 rfl (by decide) (by decide) (q_rzE h).1 (q_rzE h).2
        · refine q_aload_n C dX0_likeAnother_35 rfl ?_
          refine x_getR (ci := 8) (j := 0) C dX0_likeAnother_36 lkF_X0_19 rfl h (fun c7 h => ?_)
          refine x_nn h (fun r8 h => ?_)
          refine x_bipush (v := (19 : Int32)) C dX0_likeAnother_39 (by decide) ?_
          refine q_iload_n C dX0_likeAnother_41 rfl ?_
          refine q_iadd C dX0_likeAnother_42 ?_
          refine q_iload_n C dX0_likeAnother_43 rfl ?_
          refine x_iast C dX0_likeAnother_44 h (fun M9 h => ?_)
          refine x_iconst (v := (1 : Int32)) C dX0_likeAnother_45 (by decide) ?_
          exact q_zret C dX0_likeAnother_46 rfl (by decide) (by decide) (q_rzE h).1 (q_rzE h).2
      · refine x_iconst (v := (0 : Int32)) C dX0_likeAnother_33 (by decide) ?_
        exact q_zret C dX0_likeAnother_34 rfl (by decide) (by decide) (q_rzE h).1 (q_rzE h).2
noncomputable def F_X0_carryOut (l0 : Nat) (l1 : Nat) (l2 : Int32) (l3 : Int32) (l4 : Int32) (M : q_Mem) : Option (Int32 × q_Mem) := (if l2 = (0 : Int32) then (q_gR M l1 8 0 (fun c1 => q_nn c1 (fun r2 => (q_lI M 0 r2 (0 : Int32) (fun v3 => (if v3 < (999 : Int32) then (q_gR M l0 0 1 (fun c4 => q_nn c4 (fun r5 => (q_ob M r5 1 ((F_X1_pass r5 l1 M).bind (fun x => match x with | (_, M7) => q_rz (1 : Int32) M7)))))) else q_rz (0 : Int32) M)))))) else (if l2 = (1 : Int32) then (q_ob M l0 0 ((F_X0_chooseDish l0 l1 l3 M).bind (fun x => match x with | (u8, M9) => q_rz u8 M9))) else (if l2 = (2 : Int32) then (q_ob M l0 0 ((F_X0_fallIll l0 l1 M).bind (fun x => match x with | (u10, M11) => q_rz u10 M11))) else (if l2 = (3 : Int32) then (q_ob M l0 0 ((F_X0_makeHandUp l0 l1 M).bind (fun x => match x with | (u12, M13) => q_rz u12 M13))) else (if l2 = (4 : Int32) then (q_ob M l0 0 ((F_X0_stayLonger l0 l1 l3 l4 M).bind (fun x => match x with | (u14, M15) => q_rz u14 M15))) else (if l2 = (5 : Int32) then (q_ob M l0 0 ((F_X0_likeAnother l0 l1 l3 l4 M).bind (fun x => match x with | (u16, M17) => q_rz u16 M17))) else q_rz (0 : Int32) M))))))
set_option maxRecDepth 100000 in
set_option maxHeartbeats 4000000 in
theorem c_X0_carryOut (l : Launch) (G : q_G) (l0 : Nat) (l1 : Nat) (l2 : Int32) (l3 : Int32) (l4 : Int32) (M : q_Mem) {r : Int32} {M' : q_Mem} (h : F_X0_carryOut l0 l1 l2 l3 l4 M = some (r, M')) : q_Met l G yX0_carryOut cX0_carryOut 5 (Option.some Jvm.ClassFile.FieldType.boolean) 6 0 0 [.ref l0, .ref l1, .int l2, .int l3, .int l4] M (some (.int r)) M' := by
  unfold F_X0_carryOut at h
  refine q_enter [some (.ref l0), some (.ref l1), some (.int l2), some (.int l3), some (.int l4)] (by decide) (Nat.le_of_ble_eq_true rfl) rfl (fun K C => ?_)
  refine q_iload_n C dX0_carryOut_0 rfl ?_
  by_cases hs1_0 : l2 = (0 : Int32)
  · rw [if_pos hs1_0] at h
    refine q_tsIn (tgt := 40) C dX0_carryOut_1 hs1_0 (by decide) (by decide) rfl (by decide) ?_
    refine q_aload_n C dX0_carryOut_40 rfl ?_
    refine x_getR (ci := 8) (j := 0) C dX0_carryOut_41 lkF_X0_19 rfl h (fun c1 h => ?_)
    refine x_nn h (fun r2 h => ?_)
    refine x_iconst (v := (0 : Int32)) C dX0_carryOut_44 (by decide) ?_
    refine x_iald C dX0_carryOut_45 h (fun v3 h => ?_)
    refine x_sipush (v := (999 : Int32)) C dX0_carryOut_46 (by decide) ?_
    refine q_icmp_lt (tgt := 54) C dX0_carryOut_49 (by decide) h (fun _ h => ?_) (fun _ h => ?_)
    · refine q_aload_n C dX0_carryOut_54 rfl ?_
      refine x_getR (ci := 0) (j := 1) C dX0_carryOut_55 lkF_X0_15 rfl h (fun c4 h => ?_)
      refine x_nn h (fun r5 h => ?_)
      refine q_aload_n C dX0_carryOut_58 rfl ?_
      obtain ⟨hk, h⟩ := q_obE h
      obtain ⟨⟨_, M7⟩, e1, h⟩ := q_bind h
      refine x_callVv0 C dX0_carryOut_59 lkM_X0_25 mV_X1_pass ⟨_, rfl, rfl⟩ hk (c_X1_pass _ _ _ _ _ e1) rfl rfl (Nat.le_of_ble_eq_true rfl) (by decide) (by decide) ?_
      refine x_iconst (v := (1 : Int32)) C dX0_carryOut_62 (by decide) ?_
      exact q_zret C dX0_carryOut_63 rfl (by decide) (by decide) (q_rzE h).1 (q_rzE h).2
    · refine x_iconst (v := (0 : Int32)) C dX0_carryOut_52 (by decide) ?_
      exact q_zret C dX0_carryOut_53 rfl (by decide) (by decide) (q_rzE h).1 (q_rzE h).2
  rw [if_neg hs1_0] at h
  by_cases hs1_1 : l2 = (1 : Int32)
  · rw [if_pos hs1_1] at h
    refine q_tsIn (tgt := 64) C dX0_carryOut_1 hs1_1 (by decide) (by decide) rfl (by decide) ?_
    refine q_aload_n C dX0_carryOut_64 rfl ?_
    refine q_aload_n C dX0_carryOut_65 rfl ?_
    refine q_iload_n C dX0_carryOut_66 rfl ?_
    obtain ⟨hk, h⟩ := q_obE h
    obtain ⟨⟨u8, M9⟩, e1, h⟩ := q_bind h
    refine x_callV0 C dX0_carryOut_67 lkM_X0_31 mV_X0_chooseDish ⟨_, rfl, rfl⟩ hk (c_X0_chooseDish _ _ _ _ _ _ e1) rfl rfl (Nat.le_of_ble_eq_true rfl) (by decide) (by decide) ?_
    exact q_zret C dX0_carryOut_70 rfl (by decide) (by decide) (q_rzE h).1 (q_rzE h).2
  rw [if_neg hs1_1] at h
  by_cases hs1_2 : l2 = (2 : Int32)
  · rw [if_pos hs1_2] at h
    refine q_tsIn (tgt := 71) C dX0_carryOut_1 hs1_2 (by decide) (by decide) rfl (by decide) ?_
    refine q_aload_n C dX0_carryOut_71 rfl ?_
    refine q_aload_n C dX0_carryOut_72 rfl ?_
    obtain ⟨hk, h⟩ := q_obE h
    obtain ⟨⟨u10, M11⟩, e1, h⟩ := q_bind h
    refine x_callV0 C dX0_carryOut_73 lkM_X0_35 mV_X0_fallIll ⟨_, rfl, rfl⟩ hk (c_X0_fallIll _ _ _ _ _ e1) rfl rfl (Nat.le_of_ble_eq_true rfl) (by decide) (by decide) ?_
    exact q_zret C dX0_carryOut_76 rfl (by decide) (by decide) (q_rzE h).1 (q_rzE h).2
  rw [if_neg hs1_2] at h
  by_cases hs1_3 : l2 = (3 : Int32)
  · rw [if_pos hs1_3] at h
    refine q_tsIn (tgt := 77) C dX0_carryOut_1 hs1_3 (by decide) (by decide) rfl (by decide) ?_
    refine q_aload_n C dX0_carryOut_77 rfl ?_
    refine q_aload_n C dX0_carryOut_78 rfl ?_
    obtain ⟨hk, h⟩ := q_obE h
    obtain ⟨⟨u12, M13⟩, e1, h⟩ := q_bind h
    refine x_callV0 C dX0_carryOut_79 lkM_X0_39 mV_X0_makeHandUp ⟨_, rfl, rfl⟩ hk (c_X0_makeHandUp _ _ _ _ _ e1) rfl rfl (Nat.le_of_ble_eq_true rfl) (by decide) (by decide) ?_
    exact q_zret C dX0_carryOut_82 rfl (by decide) (by decide) (q_rzE h).1 (q_rzE h).2
  rw [if_neg hs1_3] at h
  by_cases hs1_4 : l2 = (4 : Int32)
  · rw [if_pos hs1_4] at h
    refine q_tsIn (tgt := 83) C dX0_carryOut_1 hs1_4 (by decide) (by decide) rfl (by decide) ?_
    refine q_aload_n C dX0_carryOut_83 rfl ?_
    refine q_aload_n C dX0_carryOut_84 rfl ?_
    refine q_iload_n C dX0_carryOut_85 rfl ?_
    refine q_iload C dX0_carryOut_86 rfl ?_
    obtain ⟨hk, h⟩ := q_obE h
    obtain ⟨⟨u14, M15⟩, e1, h⟩ := q_bind h
    refine x_callV0 C dX0_carryOut_88 lkM_X0_42 mV_X0_stayLonger ⟨_, rfl, rfl⟩ hk (c_X0_stayLonger _ _ _ _ _ _ _ e1) rfl rfl (Nat.le_of_ble_eq_true rfl) (by decide) (by decide) ?_
    exact q_zret C dX0_carryOut_91 rfl (by decide) (by decide) (q_rzE h).1 (q_rzE h).2
  rw [if_neg hs1_4] at h
  by_cases hs1_5 : l2 = (5 : Int32)
  · rw [if_pos hs1_5] at h
    refine q_tsIn (tgt := 92) C dX0_carryOut_1 hs1_5 (by decide) (by decide) rfl (by decide) ?_
    refine q_aload_n C dX0_carryOut_92 rfl ?_
    refine q_aload_n C dX0_carryOut_93 rfl ?_
    refine q_iload_n C dX0_carryOut_94 rfl ?_
    refine q_iload C dX0_carryOut_95 rfl ?_
    obtain ⟨hk, h⟩ := q_obE h
    obtain ⟨⟨u16, M17⟩, e1, h⟩ := q_bind h
    refine x_callV0 C dX0_carryOut_97 lkM_X0_46 mV_X0_likeAnother ⟨_, rfl, rfl⟩ hk (c_X0_likeAnother _ _ _ _ _ _ _ e1) rfl rfl (Nat.le_of_ble_eq_true rfl) (by decide) (by decide) ?_
    exact q_zret C dX0_carryOut_100 rfl (by decide) (by decide) (q_rzE h).1 (q_rzE h).2
  rw [if_neg hs1_5] at h
  have ho1 : (l2 : Int32).toInt < 0 ∨ 5 < (l2 : Int32).toInt := by
    have z0 := lv_neT (a := 0) hs1_0 (by decide)
    have z1 := lv_neT (a := 1) hs1_1 (by decide)
    have z2 := lv_neT (a := 2) hs1_2 (by decide)
    have z3 := lv_neT (a := 3) hs1_3 (by decide)
    have z4 := lv_neT (a := 4) hs1_4 (by decide)
    have z5 := lv_neT (a := 5) hs1_5 (by decide)
    omega
  refine q_tsOut (tgt := 101) C dX0_carryOut_1 ho1 (by decide) ?_
  refine x_iconst (v := (0 : Int32)) C dX0_carryOut_101 (by decide) ?_
  exact q_zret C dX0_carryOut_102 rfl (by decide) (by decide) (q_rzE h).1 (q_rzE h).2
noncomputable def F_X1_init (l0 : Nat) (l1 : Nat) (M : q_Mem) : Option (Unit × q_Mem) := (q_nA M 0 (6 : Int32) 6 (fun k1 M2 => (q_pR M2 l0 1 1 (k1 + 1) (fun M3 => (q_nA M3 0 (6 : Int32) 6 (fun k4 M5 => (q_pR M5 l0 1 2 (k4 + 1) (fun M6 => (q_pR M6 l0 1 3 0 (fun M7 => (q_pI M7 l0 1 4 (0 : Int32) (fun M8 => (q_pI M8 l0 1 5 (-1 : Int32) (fun M9 => (q_pI M9 l0 1 6 (0 : Int32) (fun M10 => (q_pI M10 l0 1 7 (-1 : Int32) (fun M11 => (q_pI M11 l0 1 8 (0 : Int32) (fun M12 => (q_pI M12 l0 1 9 (0 : Int32) (fun M13 => (q_pI M13 l0 1 10 (0 : Int32) (fun M14 => (q_pI M14 l0 1 11 (0 : Int32) (fun M15 => (q_pR M15 l0 1 0 (l1 + 1) (fun M16 => some ((), M16)))))))))))))))))))))))))))))
set_option maxRecDepth 100000 in
set_option maxHeartbeats 4000000 in
theorem c_X1_init (l : Launch) (G : q_G) (l0 : Nat) (l1 : Nat) (M : q_Mem) {r : Unit} {M' : q_Mem} (h : F_X1_init l0 l1 M = some (r, M')) : q_Met l G yX1_init cX1_init 2 (Option.none : Option Jvm.ClassFile.FieldType) 2 2 12 [.ref l0, .ref l1] M none M' := by
  unfold F_X1_init at h
  refine q_enter [some (.ref l0), some (.ref l1)] (by decide) (Nat.le_of_ble_eq_true rfl) rfl (fun K C => ?_)
  refine q_aload_n C dX1_init_0 rfl ?_
  refine q_objI C dX1_init_1 wd_175 wd_33 wd_34 (by decide) (Nat.le_of_ble_eq_true rfl) ?_
  refine q_aload_n C dX1_init_4 rfl ?_
  refine x_bipush (v := (6 : Int32)) C dX1_init_5 (by decide) ?_
  refine x_newa C dX1_init_7 (by simp) wd_103 (by decide) h (by decide) (fun k1 M2 h => ?_)
  refine x_putR (ci := 1) (j := 1) (k1 + 1) C dX1_init_9 lkF_X1_9 (fun r hr => by cases hr; exact Or.inr ⟨rfl, rfl, wd_177⟩) (Or.inr ⟨_, rfl⟩) rfl h (fun M3 h => ?_)
  refine q_aload_n C dX1_init_12 rfl ?_
  refine x_bipush (v := (6 : Int32)) C dX1_init_13 (by decide) ?_
  refine x_newa C dX1_init_15 (by simp) wd_103 (by decide) h (by decide) (fun k4 M5 h => ?_)
  refine x_putR (ci := 1) (j := 2) (k4 + 1) C dX1_init_17 lkF_X1_15 (fun r hr => by cases hr; exact Or.inr ⟨rfl, rfl, wd_179⟩) (Or.inr ⟨_, rfl⟩) rfl h (fun M6 h => ?_)
  refine q_aload_n C dX1_init_20 rfl ?_
  refine q_null C dX1_init_21 ?_
  refine x_putR (ci := 1) (j := 3) 0 C dX1_init_22 lkF_X1_18 (fun r hr => by cases hr; exact Or.inl rfl) (Or.inl ⟨_, rfl⟩) rfl h (fun M7 h => ?_)
  refine q_aload_n C dX1_init_25 rfl ?_
  refine x_iconst (v := (0 : Int32)) C dX1_init_26 (by decide) ?_
  refine x_putI (ci := 1) (j := 4) C dX1_init_27 lkF_X1_22 (fun r hr => by cases hr; rfl) rfl h (fun M8 h => ?_)
  refine q_aload_n C dX1_init_30 rfl ?_
  refine x_iconst (v := (-1 : Int32)) C dX1_init_31 (by decide) ?_
  refine x_putI (ci := 1) (j := 5) C dX1_init_32 lkF_X1_26 (fun r hr => by cases hr; rfl) rfl h (fun M9 h => ?_)
  refine q_aload_n C dX1_init_35 rfl ?_
  refine x_iconst (v := (0 : Int32)) C dX1_init_36 (by decide) ?_
  refine x_putI (ci := 1) (j := 6) C dX1_init_37 lkF_X1_29 (fun r hr => by cases hr; rfl) rfl h (fun M10 h => ?_)
  refine q_aload_n C dX1_init_40 rfl ?_
  refine x_iconst (v := (-1 : Int32)) C dX1_init_41 (by decide) ?_
  refine x_putI (ci := 1) (j := 7) C dX1_init_42 lkF_X1_32 (fun r hr => by cases hr; rfl) rfl h (fun M11 h => ?_)
  refine q_aload_n C dX1_init_45 rfl ?_
  refine x_iconst (v := (0 : Int32)) C dX1_init_46 (by decide) ?_
  refine x_putI (ci := 1) (j := 8) C dX1_init_47 lkF_X1_35 (fun r hr => by cases hr; rfl) rfl h (fun M12 h => ?_)
  refine q_aload_n C dX1_init_50 rfl ?_
  refine x_iconst (v := (0 : Int32)) C dX1_init_51 (by decide) ?_
  refine x_putI (ci := 1) (j := 9) C dX1_init_52 lkF_X1_38 (fun r hr => by cases hr; rfl) rfl h (fun M13 h => ?_)
  refine q_aload_n C dX1_init_55 rfl ?_
  refine x_iconst (v := (0 : Int32)) C dX1_init_56 (by decide) ?_
  refine x_putI (ci := 1) (j := 10) C dX1_init_57 lkF_X1_41 (fun r hr => by cases hr; rfl) rfl h (fun M14 h => ?_)
  refine q_aload_n C dX1_init_60 rfl ?_
  refine x_iconst (v := (0 : Int32)) C dX1_init_61 (by decide) ?_
  refine x_putI (ci := 1) (j := 11) C dX1_init_62 lkF_X1_44 (fun r hr => by cases hr; rfl) rfl h (fun M15 h => ?_)
  refine q_aload_n C dX1_init_65 rfl ?_
  refine q_aload_n C dX1_init_66 rfl ?_
  refine x_putR (ci := 1) (j := 0) (l1 + 1) C dX1_init_67 lkF_X1_47 (fun r hr => by cases hr; exact Or.inr ⟨rfl, rfl, wd_176⟩) (Or.inl ⟨_, rfl⟩) rfl h (fun M16 h => ?_)
  exact q_vret C dX1_init_70 rfl (by decide) (by decide) (Option.some.inj h)
noncomputable def F_X8_init (l0 : Nat) (M : q_Mem) : Option (Unit × q_Mem) := (q_nA M 0 (31 : Int32) 31 (fun k1 M2 => (q_pR M2 l0 8 0 (k1 + 1) (fun M3 => (q_gR M3 l0 8 0 (fun c4 => q_nn c4 (fun r5 => (q_tI M3 r5 (3 : Int32) (-1 : Int32) (fun M6 => some ((), M6))))))))))
set_option maxRecDepth 100000 in
set_option maxHeartbeats 4000000 in
theorem c_X8_init (l : Launch) (G : q_G) (l0 : Nat) (M : q_Mem) {r : Unit} {M' : q_Mem} (h : F_X8_init l0 M = some (r, M')) : q_Met l G yX8_init cX8_init 1 (Option.none : Option Jvm.ClassFile.FieldType) 2 1 31 [.ref l0] M none M' := by
  unfold F_X8_init at h
  refine q_enter [some (.ref l0)] (by decide) (Nat.le_of_ble_eq_true rfl) rfl (fun K C => ?_)
  refine q_aload_n C dX8_init_0 rfl ?_
  refine q_objI C dX8_init_1 wd_129 wd_33 wd_34 (by decide) (Nat.le_of_ble_eq_true rfl) ?_
  refine q_aload_n C dX8_init_4 rfl ?_
  refine x_bipush (v := (31 : Int32)) C dX8_init_5 (by decide) ?_
  refine x_newa C dX8_init_7 (by simp) wd_103 (by decide) h (by decide) (fun k1 M2 h => ?_)
  refine x_putR (ci := 8) (j := 0) (k1 + 1) C dX8_init_9 lkF_X8_9 (fun r hr => by cases hr; exact Or.inr ⟨rfl, rfl, wd_130⟩) (Or.inr ⟨_, rfl⟩) rfl h (fun M3 h => ?_)
  refine q_aload_n C dX8_init_12 rfl ?_
  refine x_getR (ci := 8) (j := 0) C dX8_init_13 lkF_X8_9 rfl h (fun c4 h => ?_)
  refine x_nn h (fun r5 h => ?_)
  refine x_iconst (v := (3 : Int32)) C dX8_init_16 (by decide) ?_
  refine x_iconst (v := (-1 : Int32)) C dX8_init_17 (by decide) ?_
  refine x_iast C dX8_init_18 h (fun M6 h => ?_)
  exact q_vret C dX8_init_19 rfl (by decide) (by decide) (Option.some.inj h)
noncomputable def F_X2_init (l0 : Nat) (l1 : Nat) (l2 : Nat) (l3 : Nat) (M : q_Mem) : Option (Unit × q_Mem) := (q_nO M 8 (fun k1 M2 => ((F_X8_init k1 M2).bind (fun x => match x with | (_, M4) => (q_pR M4 l0 2 3 (k1 + 1) (fun M5 => (q_nA M5 5 (5 : Int32) 5 (fun k6 M7 => (q_pR M7 l0 2 4 (k6 + 1) (fun M8 => (q_nA M8 0 (16 : Int32) 16 (fun k9 M10 => (q_pR M10 l0 2 5 (k9 + 1) (fun M11 => (q_nA M11 0 (16 : Int32) 16 (fun k12 M13 => (q_pR M13 l0 2 6 (k12 + 1) (fun M14 => (q_pI M14 l0 2 7 (0 : Int32) (fun M15 => (q_pI M15 l0 2 8 (0 : Int32) (fun M16 => (q_pI M16 l0 2 9 (0 : Int32) (fun M17 => (q_pI M17 l0 2 10 (0 : Int32) (fun M18 => (q_pI M18 l0 2 11 (0 : Int32) (fun M19 => (q_pR M19 l0 2 0 (l1 + 1) (fun M20 => (q_pR M20 l0 2 1 (l2 + 1) (fun M21 => (q_pR M21 l0 2 2 (l3 + 1) (fun M22 => (if (0 : Int32) < (5 : Int32) then (q_gR M22 l0 2 4 (fun c23 => q_nn c23 (fun r24 => (q_nO M22 8 (fun k25 M26 => ((F_X8_init k25 M26).bind (fun x => match x with | (_, M28) => (q_tR M28 5 r24 (0 : Int32) 8 k25 (fun M29 => (if ((0 : Int32) + (1 : Int32)) < (5 : Int32) then (q_gR M29 l0 2 4 (fun c30 => q_nn c30 (fun r31 => (q_nO M29 8 (fun k32 M33 => ((F_X8_init k32 M33).bind (fun x => match x with | (_, M35) => (q_tR M35 5 r31 ((0 : Int32) + (1 : Int32)) 8 k32 (fun M36 => (if (((0 : Int32) + (1 : Int32)) + (1 : Int32)) < (5 : Int32) then (q_gR M36 l0 2 4 (fun c37 => q_nn c37 (fun r38 => (q_nO M36 8 (fun k39 M40 => ((F_X8_init k39 M40).bind (fun x => match x with | (_, M42) => (q_tR M42 5 r38 (((0 : Int32) + (1 : Int32)) + (1 : Int32)) 8 k39 (fun M43 => (if ((((0 : Int32) + (1 : Int32)) + (1 : Int32)) + (1 : Int32)) < (5 : Int32) then (q_gR M43 l0 2 4 (fun c44 => q_nn c44 (fun r45 => (q_nO M43 8 (fun k46 M47 => ((F_X8_init k46 M47).bind (fun x => match x with | (_, M49) => (q_tR M49 5 r45 ((((0 : Int32) + (1 : Int32)) + (1 : Int32)) + (1 : Int32)) 8 k46 (fun M50 => (if (((((0 : Int32) + (1 : Int32)) + (1 : Int32)) + (1 : Int32)) + (1 : Int32)) < (5 : Int32) then (q_gR M50 l0 2 4 (fun c51 => q_nn c51 (fun r52 => (q_nO M50 8 (fun k53 M54 => ((F_X8_init k53 M54).bind (fun x => match x with | (_, M56) => (q_tR M56 5 r52 (((((0 : Int32) + (1 : Int32)) + (1 : Int32)) + (1 : Int32)) + (1 : Int32)) 8 k53 (fun M57 => (if ((((((0 : Int32) + (1 : Int32)) + (1 : Int32)) + (1 : Int32)) + (1 : Int32)) + (1 : Int32)) < (5 : Int32) then none else some ((), M57))))))))))) else none)))))))))) else none)))))))))) else none)))))))))) else none)))))))))) else none)))))))))))))))))))))))))))))))))))
set_option maxRecDepth 100000 in
set_option maxHeartbeats 4000000 in
theorem c_X2_init (l : Launch) (G : q_G) (l0 : Nat) (l1 : Nat) (l2 : Nat) (l3 : Nat) (M : q_Mem) {r : Unit} {M' : q_Mem} (h : F_X2_init l0 l1 l2 l3 M = some (r, M')) : q_Met l G yX2_init cX2_init 5 (Option.none : Option Jvm.ClassFile.FieldType) 3 15 229 [.ref l0, .ref l1, .ref l2, .ref l3] M none M' := by
  unfold F_X2_init at h
  refine q_enter [some (.ref l0), some (.ref l1), some (.ref l2), some (.ref l3), none] (by decide) (Nat.le_of_ble_eq_true rfl) rfl (fun K C => ?_)
  refine q_aload_n C dX2_init_0 rfl ?_
  refine q_objI C dX2_init_1 wd_247 wd_33 wd_34 (by decide) (Nat.le_of_ble_eq_true rfl) ?_
  refine q_aload_n C dX2_init_4 rfl ?_
  refine x_new (ci := 8) C dX2_init_5 rfl clok_8 wd_248 wd_125 wd_5 df_8 h (by decide) (fun k1 M2 h => ?_)
  refine q_dup C dX2_init_8 rfl ?_
  obtain ⟨⟨_, M4⟩, e1, h⟩ := q_bind h
  refine x_callI C dX2_init_9 lkM_X2_13 mI_X8_init (c_X8_init _ _ _ _ e1) rfl rfl (Nat.le_of_ble_eq_true rfl) (by decide) (by decide) ?_
  refine x_putR (ci := 2) (j := 3) (k1 + 1) C dX2_init_12 lkF_X2_14 (fun r hr => by cases hr; exact Or.inr ⟨rfl, rfl, wd_254⟩) (Or.inl ⟨_, rfl⟩) rfl h (fun M5 h => ?_)
  refine q_aload_n C dX2_init_15 rfl ?_
  refine x_iconst (v := (5 : Int32)) C dX2_init_16 (by decide) ?_
  refine x_newq C dX2_init_17 wd_248 (by decide) (by decide) h (by decide) (fun k6 M7 h => ?_)
  refine x_putR (ci := 2) (j := 4) (k6 + 1) C dX2_init_20 lkF_X2_18 (fun r hr => by cases hr; exact Or.inr ⟨rfl, rfl, wd_255⟩) (Or.inr ⟨_, rfl⟩) rfl h (fun M8 h => ?_)
  refine q_aload_n C dX2_init_23 rfl ?_
  refine x_bipush (v := (16 : Int32)) C dX2_init_24 (by decide) ?_
  refine x_newa C dX2_init_26 (by simp) wd_103 (by decide) h (by decide) (fun k9 M10 h => ?_)
  refine x_putR (ci := 2) (j := 5) (k9 + 1) C dX2_init_28 lkF_X2_22 (fun r hr => by cases hr; exact Or.inr ⟨rfl, rfl, wd_256⟩) (Or.inr ⟨_, rfl⟩) rfl h (fun M11 h => ?_)
  refine q_aload_n C dX2_init_31 rfl ?_
  refine x_bipush (v := (16 : Int32)) C dX2_init_32 (by decide) ?_
  refine x_newa C dX2_init_34 (by simp) wd_103 (by decide) h (by decide) (fun k12 M13 h => ?_)
  refine x_putR (ci := 2) (j := 6) (k12 + 1) C dX2_init_36 lkF_X2_26 (fun r hr => by cases hr; exact Or.inr ⟨rfl, rfl, wd_257⟩) (Or.inr ⟨_, rfl⟩) rfl h (fun M14 h => ?_)
  refine q_aload_n C dX2_init_39 rfl ?_
  refine x_iconst (v := (0 : Int32)) C dX2_init_40 (by decide) ?_
  refine x_putI (ci := 2) (j := 7) C dX2_init_41 lkF_X2_29 (fun r hr => by cases hr; rfl) rfl h (fun M15 h => ?_)
  refine q_aload_n C dX2_init_44 rfl ?_
  refine x_iconst (v := (0 : Int32)) C dX2_init_45 (by decide) ?_
  refine x_putI (ci := 2) (j := 8) C dX2_init_46 lkF_X2_33 (fun r hr => by cases hr; rfl) rfl h (fun M16 h => ?_)
  refine q_aload_n C dX2_init_49 rfl ?_
  refine x_iconst (v := (0 : Int32)) C dX2_init_50 (by decide) ?_
  refine x_putI (ci := 2) (j := 9) C dX2_init_51 lkF_X2_36 (fun r hr => by cases hr; rfl) rfl h (fun M17 h => ?_)
  refine q_aload_n C dX2_init_54 rfl ?_
  refine x_iconst (v := (0 : Int32)) C dX2_init_55 (by decide) ?_
  refine x_putI (ci := 2) (j := 10) C dX2_init_56 lkF_X2_39 (fun r hr => by cases hr; rfl) rfl h (fun M18 h => ?_)
  refine q_aload_n C dX2_init_59 rfl ?_
  refine x_iconst (v := (0 : Int32)) C dX2_init_60 (by decide) ?_
  refine x_putI (ci := 2) (j := 11) C dX2_init_61 lkF_X2_42 (fun r hr => by cases hr; rfl) rfl h (fun M19 h => ?_)
  refine q_aload_n C dX2_init_64 rfl ?_
  refine q_aload_n C dX2_init_65 rfl ?_
  refine x_putR (ci := 2) (j := 0) (l1 + 1) C dX2_init_66 lkF_X2_45 (fun r hr => by cases hr; exact Or.inr ⟨rfl, rfl, wd_251⟩) (Or.inl ⟨_, rfl⟩) rfl h (fun M20 h => ?_)
  refine q_aload_n C dX2_init_69 rfl ?_
  refine q_aload_n C dX2_init_70 rfl ?_
  refine x_putR (ci := 2) (j := 1) (l2 + 1) C dX2_init_71 lkF_X2_49 (fun r hr => by cases hr; exact Or.inr ⟨rfl, rfl, wd_252⟩) (Or.inl ⟨_, rfl⟩) rfl h (fun M21 h => ?_)
  refine q_aload_n C dX2_init_74 rfl ?_
  refine q_aload_n C dX2_init_75 rfl ?_
  refine x_putR (ci := 2) (j := 2) (l3 + 1) C dX2_init_76 lkF_X2_53 (fun r hr => by cases hr; exact Or.inr ⟨rfl, rfl, wd_253⟩) (Or.inl ⟨_, rfl⟩) rfl h (fun M22 h => ?_)
  refine x_iconst (v := (0 : Int32)) C dX2_init_79 (by decide) ?_
  refine q_istore (L' := [some (.ref l0), some (.ref l1), some (.ref l2), some (.ref l3), some (.int (0 : Int32))]) C dX2_init_80 (by decide) rfl rfl ?_
  refine q_iload C dX2_init_82 rfl ?_
  refine x_iconst (v := (5 : Int32)) C dX2_init_84 (by decide) ?_
  refine q_icmp_ge (tgt := 108) C dX2_init_85 (by decide) h (fun _ h => ?_) (fun _ h => ?_)
  · refine q_aload_n C dX2_init_88 rfl ?_
    refine x_getR (ci := 2) (j := 4) C dX2_init_89 lkF_X2_18 rfl h (fun c23 h => ?_)
    refine x_nn h (fun r24 h => ?_)
    refine q_iload C dX2_init_92 rfl ?_
    refine x_new (ci := 8) C dX2_init_94 rfl clok_8 wd_248 wd_125 wd_5 df_8 h (by decide) (fun k25 M26 h => ?_)
    refine q_dup C dX2_init_97 rfl ?_
    obtain ⟨⟨_, M28⟩, e1, h⟩ := q_bind h
    refine x_callI C dX2_init_98 lkM_X2_13 mI_X8_init (c_X8_init _ _ _ _ e1) rfl rfl (Nat.le_of_ble_eq_true rfl) (by decide) (by decide) ?_
    refine x_aast C dX2_init_101 (by decide) h (fun M29 h => ?_)
    refine x_iinc (w := (1 : Int32)) (L' := [some (.ref l0), some (.ref l1), some (.ref l2), some (.ref l3), some (.int ((0 : Int32) + (1 : Int32)))]) C dX2_init_102 rfl (by decide) (by decide) rfl rfl ?_
    refine q_goto (tgt := 82) C dX2_init_105 (by decide) ?_
    refine q_iload C dX2_init_82 rfl ?_
    refine x_iconst (v := (5 : Int32)) C dX2_init_84 (by decide) ?_
    refine q_icmp_ge (tgt := 108) C dX2_init_85 (by decide) h (fun _ h => ?_) (fun _ h => ?_)
    · refine q_aload_n C dX2_init_88 rfl ?_
      refine x_getR (ci := 2) (j := 4) C dX2_init_89 lkF_X2_18 rfl h (fun c30 h => ?_)
      refine x_nn h (fun r31 h => ?_)
      refine q_iload C dX2_init_92 rfl ?_
      refine x_new (ci := 8) C dX2_init_94 rfl clok_8 wd_248 wd_125 wd_5 df_8 h (by decide) (fun k32 M33 h => ?_)
      refine q_dup C dX2_init_97 rfl ?_
      obtain ⟨⟨_, M35⟩, e1, h⟩ := q_bind h
      refine x_callI C dX2_init_98 lkM_X2_13 mI_X8_init (c_X8_init _ _ _ _ e1) rfl rfl (Nat.le_of_ble_eq_true rfl) (by decide) (by decide) ?_
      refine x_aast C dX2_init_101 (by decide) h (fun M36 h => ?_)
      refine x_iinc (w := (1 : Int32)) (L' := [some (.ref l0), some (.ref l1), some (.ref l2), some (.ref l3), some (.int (((0 : Int32) + (1 : Int32)) + (1 : Int32)))]) C dX2_init_102 rfl (by decide) (by decide) rfl rfl ?_
      refine q_goto (tgt := 82) C dX2_init_105 (by decide) ?_
      refine q_iload C dX2_init_82 rfl ?_
      refine x_iconst (v := (5 : Int32)) C dX2_init_84 (by decide) ?_
      refine q_icmp_ge (tgt := 108) C dX2_init_85 (by decide) h (fun _ h => ?_) (fun _ h => ?_)
      · refine q_aload_n C dX2_init_88 rfl ?_
        refine x_getR (ci := 2) (j := 4) C dX2_init_89 lkF_X2_18 rfl h (fun c37 h => ?_)
        refine x_nn h (fun r38 h => ?_)
        refine q_iload C dX2_init_92 rfl ?_
        refine x_new (ci := 8) C dX2_init_94 rfl clok_8 wd_248 wd_125 wd_5 df_8 h (by decide) (fun k39 M40 h => ?_)
        refine q_dup C dX2_init_97 rfl ?_
        obtain ⟨⟨_, M42⟩, e1, h⟩ := q_bind h
        refine x_callI C dX2_init_98 lkM_X2_13 mI_X8_init (c_X8_init _ _ _ _ e1) rfl rfl (Nat.le_of_ble_eq_true rfl) (by decide) (by decide) ?_
        refine x_aast C dX2_init_101 (by decide) h (fun M43 h => ?_)
        refine x_iinc (w := (1 : Int32)) (L' := [some (.ref l0), some (.ref l1), some (.ref l2), some (.ref l3), some (.int ((((0 : Int32) + (1 : Int32)) + (1 : Int32)) + (1 : Int32)))]) C dX2_init_102 rfl (by decide) (by decide) rfl rfl ?_
        refine q_goto (tgt := 82) C dX2_init_105 (by decide) ?_
        refine q_iload C dX2_init_82 rfl ?_
        refine x_iconst (v := (5 : Int32)) C dX2_init_84 (by decide) ?_
        refine q_icmp_ge (tgt := 108) C dX2_init_85 (by decide) h (fun _ h => ?_) (fun _ h => ?_)
        · refine q_aload_n C dX2_init_88 rfl ?_
          refine x_getR (ci := 2) (j := 4) C dX2_init_89 lkF_X2_18 rfl h (fun c44 h => ?_)
          refine x_nn h (fun r45 h => ?_)
          refine q_iload C dX2_init_92 rfl ?_
          refine x_new (ci := 8) C dX2_init_94 rfl clok_8 wd_248 wd_125 wd_5 df_8 h (by decide) (fun k46 M47 h => ?_)
          refine q_dup C dX2_init_97 rfl ?_
          obtain ⟨⟨_, M49⟩, e1, h⟩ := q_bind h
          refine x_callI C dX2_init_98 lkM_X2_13 mI_X8_init (c_X8_init _ _ _ _ e1) rfl rfl (Nat.le_of_ble_eq_true rfl) (by decide) (by decide) ?_
          refine x_aast C dX2_init_101 (by decide) h (fun M50 h => ?_)
          refine x_iinc (w := (1 : Int32)) (L' := [some (.ref l0), some (.ref l1), some (.ref l2), some (.ref l3), some (.int (((((0 : Int32) + (1 : Int32)) + (1 : Int32)) + (1 : Int32)) + (1 : Int32)))]) C dX2_init_102 rfl (by decide) (by decide) rfl rfl ?_
          refine q_goto (tgt := 82) C dX2_init_105 (by decide) ?_
          refine q_iload C dX2_init_82 rfl ?_
          refine x_iconst (v := (5 : Int32)) C dX2_init_84 (by decide) ?_
          refine q_icmp_ge (tgt := 108) C dX2_init_85 (by decide) h (fun _ h => ?_) (fun _ h => ?_)
          · refine q_aload_n C dX2_init_88 rfl ?_
            refine x_getR (ci := 2) (j := 4) C dX2_init_89 lkF_X2_18 rfl h (fun c51 h => ?_)
            refine x_nn h (fun r52 h => ?_)
            refine q_iload C dX2_init_92 rfl ?_
            refine x_new (ci := 8) C dX2_init_94 rfl clok_8 wd_248 wd_125 wd_5 df_8 h (by decide) (fun k53 M54 h => ?_)
            refine q_dup C dX2_init_97 rfl ?_
            obtain ⟨⟨_, M56⟩, e1, h⟩ := q_bind h
            refine x_callI C dX2_init_98 lkM_X2_13 mI_X8_init (c_X8_init _ _ _ _ e1) rfl rfl (Nat.le_of_ble_eq_true rfl) (by decide) (by decide) ?_
            refine x_aast C dX2_init_101 (by decide) h (fun M57 h => ?_)
            refine x_iinc (w := (1 : Int32)) (L' := [some (.ref l0), some (.ref l1), some (.ref l2), some (.ref l3), some (.int ((((((0 : Int32) + (1 : Int32)) + (1 : Int32)) + (1 : Int32)) + (1 : Int32)) + (1 : Int32)))]) C dX2_init_102 rfl (by decide) (by decide) rfl rfl ?_
            refine q_goto (tgt := 82) C dX2_init_105 (by decide) ?_
            refine q_iload C dX2_init_82 rfl ?_
            refine x_iconst (v := (5 : Int32)) C dX2_init_84 (by decide) ?_
            refine q_icmp_ge (tgt := 108) C dX2_init_85 (by decide) h (fun _ h => ?_) (fun _ h => ?_)
            · cases h
            · exact q_vret C dX2_init_108 rfl (by decide) (by decide) (Option.some.inj h)
          · cases h
        · cases h
      · cases h
    · cases h
  · cases h
noncomputable def F_X8_copyFrom (l0 : Nat) (l1 : Nat) (M : q_Mem) : Option (Unit × q_Mem) := (q_gR M l1 8 0 (fun c1 => q_nn c1 (fun r2 => (q_gR M l0 8 0 (fun c3 => q_nn c3 (fun r4 => (q_cp M r2 (0 : Int32) r4 (0 : Int32) (31 : Int32) (fun M5 => some ((), M5)))))))))
set_option maxRecDepth 100000 in
set_option maxHeartbeats 4000000 in
theorem c_X8_copyFrom (l : Launch) (G : q_G) (l0 : Nat) (l1 : Nat) (M : q_Mem) {r : Unit} {M' : q_Mem} (h : F_X8_copyFrom l0 l1 M = some (r, M')) : q_Met l G yX8_copyFrom cX8_copyFrom 2 (Option.none : Option Jvm.ClassFile.FieldType) 2 0 0 [.ref l0, .ref l1] M none M' := by
  unfold F_X8_copyFrom at h
  refine q_enter [some (.ref l0), some (.ref l1)] (by decide) (Nat.le_of_ble_eq_true rfl) rfl (fun K C => ?_)
  refine q_aload_n C dX8_copyFrom_0 rfl ?_
  refine x_getR (ci := 8) (j := 0) C dX8_copyFrom_1 lkF_X8_9 rfl h (fun c1 h => ?_)
  refine x_nn h (fun r2 h => ?_)
  refine x_iconst (v := (0 : Int32)) C dX8_copyFrom_4 (by decide) ?_
  refine q_aload_n C dX8_copyFrom_5 rfl ?_
  refine x_getR (ci := 8) (j := 0) C dX8_copyFrom_6 lkF_X8_9 rfl h (fun c3 h => ?_)
  refine x_nn h (fun r4 h => ?_)
  refine x_iconst (v := (0 : Int32)) C dX8_copyFrom_9 (by decide) ?_
  refine x_bipush (v := (31 : Int32)) C dX8_copyFrom_10 (by decide) ?_
  refine x_copy C dX8_copyFrom_12 wd_711 wd_626 wd_625 wd_19 (by decide) (Nat.le_of_ble_eq_true rfl) h (fun M5 h => ?_)
  exact q_vret C dX8_copyFrom_15 rfl (by decide) (by decide) (Option.some.inj h)
noncomputable def F_X10_ofStep (l0 : Nat) (l1 : Int32) (l2 : Int32) (M : q_Mem) : Option (Int32) := (if ((l1 * (3 : Int32)) + l2) < 0 then some (-1 : Int32) else (q_gR M l0 10 0 (fun c1 => q_nn c1 (fun r2 => (q_al M r2 (fun v3 => (if ((l1 * (3 : Int32)) + l2) < v3 then (q_gR M l0 10 0 (fun c4 => q_nn c4 (fun r5 => (q_lI M 0 r5 ((l1 * (3 : Int32)) + l2) (fun v6 => some v6))))) else some (-1 : Int32))))))))
set_option maxRecDepth 100000 in
set_option maxHeartbeats 4000000 in
theorem c_X10_ofStep (l : Launch) (G : q_G) (l0 : Nat) (l1 : Int32) (l2 : Int32) (M : q_Mem) {r : Int32} (h : F_X10_ofStep l0 l1 l2 M = some r) : q_Met l G yX10_ofStep cX10_ofStep 4 (Option.some Jvm.ClassFile.FieldType.int) 1 0 0 [.ref l0, .int l1, .int l2] M (some (.int r)) M := by
  unfold F_X10_ofStep at h
  refine q_enter [some (.ref l0), some (.int l1), some (.int l2), none] (by decide) (Nat.le_of_ble_eq_true rfl) rfl (fun K C => ?_)
  refine q_iload_n C dX10_ofStep_0 rfl ?_
  refine x_iconst (v := (3 : Int32)) C dX10_ofStep_1 (by decide) ?_
  refine q_imul C dX10_ofStep_2 ?_
  refine q_iload_n C dX10_ofStep_3 rfl ?_
  refine q_iadd C dX10_ofStep_4 ?_
  refine q_istore_n (L' := [some (.ref l0), some (.int l1), some (.int l2), some (.int ((l1 * (3 : Int32)) + l2))]) C dX10_ofStep_5 (by decide) rfl rfl ?_
  refine q_iload_n C dX10_ofStep_6 rfl ?_
  refine q_if_lt (tgt := 28) C dX10_ofStep_7 (by decide) h (fun _ h => ?_) (fun _ h => ?_)
  · refine x_iconst (v := (-1 : Int32)) C dX10_ofStep_28 (by decide) ?_
    exact q_iret (res := (r, M)) C dX10_ofStep_29 rfl (by decide) (by decide) (congrArg (fun z => (z, M)) (Option.some.inj h))
  · refine q_iload_n C dX10_ofStep_10 rfl ?_
    refine q_aload_n C dX10_ofStep_11 rfl ?_
    refine x_getR (ci := 10) (j := 0) C dX10_ofStep_12 lkF_X10_11 rfl h (fun c1 h => ?_)
    refine x_nn h (fun r2 h => ?_)
    refine x_alen C dX10_ofStep_15 h (fun v3 h => ?_)
    refine q_icmp_ge (tgt := 28) C dX10_ofStep_16 (by decide) h (fun _ h => ?_) (fun _ h => ?_)
    · refine q_aload_n C dX10_ofStep_19 rfl ?_
      refine x_getR (ci := 10) (j := 0) C dX10_ofStep_20 lkF_X10_11 rfl h (fun c4 h => ?_)
      refine x_nn h (fun r5 h => ?_)
      refine q_iload_n C dX10_ofStep_23 rfl ?_
      refine x_iald C dX10_ofStep_24 h (fun v6 h => ?_)
      refine q_goto (tgt := 29) C dX10_ofStep_25 (by decide) ?_
      exact q_iret (res := (r, M)) C dX10_ofStep_29 rfl (by decide) (by decide) (congrArg (fun z => (z, M)) (Option.some.inj h))
    · refine x_iconst (v := (-1 : Int32)) C dX10_ofStep_28 (by decide) ?_
      exact q_iret (res := (r, M)) C dX10_ofStep_29 rfl (by decide) (by decide) (congrArg (fun z => (z, M)) (Option.some.inj h))
noncomputable def B_X8_joyOfAll_4 (l0 : Nat) (l1 : Int32) (l2 : Int32) (M : q_Mem) : Option ((Int32 × Int32) ⊕ (Int32)) := (if l2 < (6 : Int32) then (q_gR M l0 8 0 (fun c1 => q_nn c1 (fun r2 => (q_lI M 0 r2 ((25 : Int32) + l2) (fun v3 => some (.inl ((l1 + v3), (l2 + (1 : Int32))))))))) else some (.inr l1))
set_option maxRecDepth 100000 in
set_option maxHeartbeats 4000000 in
theorem bW_X8_joyOfAll_4 {K : q_K} {Q : State → Prop} (C : q_C K yX8_joyOfAll cX8_joyOfAll 3 (Option.some Jvm.ClassFile.FieldType.int) 1 0 0) (l0 : Nat) (l1 : Int32) (l2 : Int32) (M : q_Mem) {stp : (Int32 × Int32) ⊕ (Int32)} (h : B_X8_joyOfAll_4 l0 l1 l2 M = some stp) (kC : ∀ (l1 : Int32) (l2 : Int32), stp = .inl (l1, l2) → q_W K 3 Q 0 0 M 4 [some (.ref l0), some (.int l1), some (.int l2)] []) (kE0 : ∀ (l1 : Int32), stp = .inr l1 → q_W K 3 Q 0 0 M 28 [none, some (.int l1), none] []) : q_W K 3 Q 0 0 M 4 [some (.ref l0), some (.int l1), some (.int l2)] [] := by
  unfold B_X8_joyOfAll_4 at h
  refine q_iload_n C dX8_joyOfAll_4 rfl ?_
  refine x_bipush (v := (6 : Int32)) C dX8_joyOfAll_5 (by decide) ?_
  refine q_icmp_ge (tgt := 28) C dX8_joyOfAll_7 (by decide) h (fun _ h => ?_) (fun _ h => ?_)
  · refine q_iload_n C dX8_joyOfAll_10 rfl ?_
    refine q_aload_n C dX8_joyOfAll_11 rfl ?_
    refine x_getR (ci := 8) (j := 0) C dX8_joyOfAll_12 lkF_X8_9 rfl h (fun c1 h => ?_)
    refine x_nn h (fun r2 h => ?_)
    refine x_bipush (v := (25 : Int32)) C dX8_joyOfAll_15 (by decide) ?_
    refine q_iload_n C dX8_joyOfAll_17 rfl ?_
    refine q_iadd C dX8_joyOfAll_18 ?_
    refine x_iald C dX8_joyOfAll_19 h (fun v3 h => ?_)
    refine q_iadd C dX8_joyOfAll_20 ?_
    refine q_istore_n (L' := [some (.ref l0), some (.int (l1 + v3)), some (.int l2)]) C dX8_joyOfAll_21 (by decide) rfl rfl ?_
    refine x_iinc (w := (1 : Int32)) (L' := [some (.ref l0), some (.int (l1 + v3)), some (.int (l2 + (1 : Int32)))]) C dX8_joyOfAll_22 rfl (by decide) (by decide) rfl rfl ?_
    refine q_goto (tgt := 4) C dX8_joyOfAll_25 (by decide) ?_
    exact q_msk [true, true, true] (kC _ _ (Option.some.inj h).symm)
  · exact q_msk [false, true, false] (kE0 _ (Option.some.inj h).symm)
set_option maxRecDepth 100000 in
set_option maxHeartbeats 4000000 in
theorem lW_X8_joyOfAll_4 {K : q_K} {Q : State → Prop} (C : q_C K yX8_joyOfAll cX8_joyOfAll 3 (Option.some Jvm.ClassFile.FieldType.int) 1 0 0) (l0 : Nat) (M : q_Mem) (n : Nat) : ∀ (l1 : Int32) (l2 : Int32) (e : (Int32)), q_lp (fun s => B_X8_joyOfAll_4 l0 s.1 s.2 M) n (l1, l2) = some e → (∀ (l1 : Int32), e = l1 → q_W K 3 Q 0 0 M 28 [none, some (.int l1), none] []) → q_W K 3 Q 0 0 M 4 [some (.ref l0), some (.int l1), some (.int l2)] [] := by
  induction n with
  | zero => intro l1 l2 e h; cases h
  | succ n ih =>
    intro l1 l2 e h kE0
    obtain ⟨stp, e1, e2⟩ := q_bind h
    refine bW_X8_joyOfAll_4 C l0 l1 l2 M e1 (fun a0 a1 hs => ?_) (fun b0 hs => ?_)
    · subst hs; exact ih _ _ _ e2 kE0
    · subst hs; exact kE0 _ (Option.some.inj e2).symm
noncomputable def F_X8_joyOfAll (l0 : Nat) (M : q_Mem) : Option (Int32) := (q_lp (fun s => B_X8_joyOfAll_4 l0 s.1 s.2 M) q_fu ((0 : Int32), (0 : Int32))).bind (fun e4 => match e4 with | w5 => some w5)
set_option maxRecDepth 100000 in
set_option maxHeartbeats 4000000 in
theorem c_X8_joyOfAll (l : Launch) (G : q_G) (l0 : Nat) (M : q_Mem) {r : Int32} (h : F_X8_joyOfAll l0 M = some r) : q_Met l G yX8_joyOfAll cX8_joyOfAll 3 (Option.some Jvm.ClassFile.FieldType.int) 1 0 0 [.ref l0] M (some (.int r)) M := by
  unfold F_X8_joyOfAll at h
  refine q_enter [some (.ref l0), none, none] (by decide) (Nat.le_of_ble_eq_true rfl) rfl (fun K C => ?_)
  refine x_iconst (v := (0 : Int32)) C dX8_joyOfAll_0 (by decide) ?_
  refine q_istore_n (L' := [some (.ref l0), some (.int (0 : Int32)), none]) C dX8_joyOfAll_1 (by decide) rfl rfl ?_
  refine x_iconst (v := (0 : Int32)) C dX8_joyOfAll_2 (by decide) ?_
  refine q_istore_n (L' := [some (.ref l0), some (.int (0 : Int32)), some (.int (0 : Int32))]) C dX8_joyOfAll_3 (by decide) rfl rfl ?_
  obtain ⟨e4, he, h⟩ := q_bind h
  refine q_msk [true, true, true] (lW_X8_joyOfAll_4 C l0 M q_fu _ _ _ he (fun w5 hs => ?_))
  · have hs := hs.symm
    subst hs
    refine q_iload_n C dX8_joyOfAll_28 rfl ?_
    exact q_iret (res := (r, M)) C dX8_joyOfAll_29 rfl (by decide) (by decide) (congrArg (fun z => (z, M)) (Option.some.inj h))
noncomputable def B_X2_stepsDone_13 (l0 : Nat) (l1 : Nat) (l2 : Nat) (l3 : Int32) (l4 : Int32) (M : q_Mem) : Option ((Int32 × Int32 × q_Mem) ⊕ ((Int32 × q_Mem) ⊕ (Int32 × q_Mem))) := (q_gI M l2 10 1 (fun v5 => (if l4 < v5 then (q_gR M l0 2 2 (fun c6 => q_nn c6 (fun r7 => (q_gR M l0 2 3 (fun c8 => q_nn c8 (fun r9 => (q_ob M l2 10 ((F_X10_ofStep l2 l4 (0 : Int32) M).bind (fun u10 => (q_ob M l2 10 ((F_X10_ofStep l2 l4 (1 : Int32) M).bind (fun u11 => (q_ob M l2 10 ((F_X10_ofStep l2 l4 (2 : Int32) M).bind (fun u12 => (q_ob M r7 0 ((F_X0_carryOut r7 r9 u10 u11 u12 M).bind (fun x => match x with | (u13, M14) => (if u13 = 0 then some (.inr (.inl (l3, M14))) else some (.inl ((l3 + (1 : Int32)), (l4 + (1 : Int32)), M14))))))))))))))))))))) else some (.inr (.inr (l3, M))))))
set_option maxRecDepth 100000 in
set_option maxHeartbeats 4000000 in
theorem bW_X2_stepsDone_13 {K : q_K} {Q : State → Prop} (C : q_C K yX2_stepsDone cX2_stepsDone 5 (Option.some Jvm.ClassFile.FieldType.int) 7 0 0) (l0 : Nat) (l1 : Nat) (l2 : Nat) (l3 : Int32) (l4 : Int32) (M : q_Mem) {stp : (Int32 × Int32 × q_Mem) ⊕ ((Int32 × q_Mem) ⊕ (Int32 × q_Mem))} (h : B_X2_stepsDone_13 l0 l1 l2 l3 l4 M = some stp) (kC : ∀ (l3 : Int32) (l4 : Int32) (M : q_Mem), stp = .inl (l3, l4, M) → q_W K 5 Q 0 0 M 13 [some (.ref l0), some (.ref l1), some (.ref l2), some (.int l3), some (.int l4)] []) (kE0 : ∀ (l3 : Int32) (M : q_Mem), stp = .inr (.inl (l3, M)) → q_W K 5 Q 0 0 M 57 [some (.ref l0), some (.ref l1), none, some (.int l3), none] []) (kE1 : ∀ (l3 : Int32) (M : q_Mem), stp = .inr (.inr (l3, M)) → q_W K 5 Q 0 0 M 69 [some (.ref l0), some (.ref l1), none, some (.int l3), none] []) : q_W K 5 Q 0 0 M 13 [some (.ref l0), some (.ref l1), some (.ref l2), some (.int l3), some (.int l4)] [] := by
  unfold B_X2_stepsDone_13 at h
  refine q_iload C dX2_stepsDone_13 rfl ?_
  refine q_aload_n C dX2_stepsDone_15 rfl ?_
  refine x_getI (ci := 10) (j := 1) C dX2_stepsDone_16 lkF_X2_61 rfl h (fun v5 h => ?_)
  refine q_icmp_ge (tgt := 69) C dX2_stepsDone_19 (by decide) h (fun _ h => ?_) (fun _ h => ?_)
  · refine q_aload_n C dX2_stepsDone_22 rfl ?_
    refine x_getR (ci := 2) (j := 2) C dX2_stepsDone_23 lkF_X2_53 rfl h (fun c6 h => ?_)
    refine x_nn h (fun r7 h => ?_)
    refine q_aload_n C dX2_stepsDone_26 rfl ?_
    refine x_getR (ci := 2) (j := 3) C dX2_stepsDone_27 lkF_X2_14 rfl h (fun c8 h => ?_)
    refine x_nn h (fun r9 h => ?_)
    refine q_aload_n C dX2_stepsDone_30 rfl ?_
    refine q_iload C dX2_stepsDone_31 rfl ?_
    refine x_iconst (v := (0 : Int32)) C dX2_stepsDone_33 (by decide) ?_
    obtain ⟨hk, h⟩ := q_obE h
    obtain ⟨u10, e1, h⟩ := q_bind h
    refine x_callV0 C dX2_stepsDone_34 lkM_X2_66 mV_X10_ofStep ⟨_, rfl, rfl⟩ hk (c_X10_ofStep _ _ _ _ _ _ e1) rfl rfl (Nat.le_of_ble_eq_true rfl) (by decide) (by decide) ?_
    refine q_aload_n C dX2_stepsDone_37 rfl ?_
    refine q_iload C dX2_stepsDone_38 rfl ?_
    refine x_iconst (v := (1 : Int32)) C dX2_stepsDone_40 (by decide) ?_
    obtain ⟨hk, h⟩ := q_obE h
    obtain ⟨u11, e1, h⟩ := q_bind h
    refine x_callV0 C dX2_stepsDone_41 lkM_X2_66 mV_X10_ofStep ⟨_, rfl, rfl⟩ hk (c_X10_ofStep _ _ _ _ _ _ e1) rfl rfl (Nat.le_of_ble_eq_true rfl) (by decide) (by decide) ?_
    refine q_aload_n C dX2_stepsDone_44 rfl ?_
    refine q_iload C dX2_stepsDone_45 rfl ?_
    refine x_iconst (v := (2 : Int32)) C dX2_stepsDone_47 (by decide) ?_
    obtain ⟨hk, h⟩ := q_obE h
    obtain ⟨u12, e1, h⟩ := q_bind h
    refine x_callV0 C dX2_stepsDone_48 lkM_X2_66 mV_X10_ofStep ⟨_, rfl, rfl⟩ hk (c_X10_ofStep _ _ _ _ _ _ e1) rfl rfl (Nat.le_of_ble_eq_true rfl) (by decide) (by decide) ?_
    obtain ⟨hk, h⟩ := q_obE h
    obtain ⟨⟨u13, M14⟩, e1, h⟩ := q_bind h
    refine x_callV0 C dX2_stepsDone_51 lkM_X2_70 mV_X0_carryOut ⟨_, rfl, rfl⟩ hk (c_X0_carryOut _ _ _ _ _ _ _ _ e1) rfl rfl (Nat.le_of_ble_eq_true rfl) (by decide) (by decide) ?_
    refine q_if_ne (tgt := 60) C dX2_stepsDone_54 (by decide) h (fun _ h => ?_) (fun _ h => ?_)
    · exact q_msk [true, true, false, true, false] (kE0 _ _ (Option.some.inj h).symm)
    · refine x_iinc (w := (1 : Int32)) (L' := [some (.ref l0), some (.ref l1), some (.ref l2), some (.int (l3 + (1 : Int32))), some (.int l4)]) C dX2_stepsDone_60 rfl (by decide) (by decide) rfl rfl ?_
      refine x_iinc (w := (1 : Int32)) (L' := [some (.ref l0), some (.ref l1), some (.ref l2), some (.int (l3 + (1 : Int32))), some (.int (l4 + (1 : Int32)))]) C dX2_stepsDone_63 rfl (by decide) (by decide) rfl rfl ?_
      refine q_goto (tgt := 13) C dX2_stepsDone_66 (by decide) ?_
      exact q_msk [true, true, true, true, true] (kC _ _ _ (Option.some.inj h).symm)
  · exact q_msk [true, true, false, true, false] (kE1 _ _ (Option.some.inj h).symm)
set_option maxRecDepth 100000 in
set_option maxHeartbeats 4000000 in
theorem lW_X2_stepsDone_13 {K : q_K} {Q : State → Prop} (C : q_C K yX2_stepsDone cX2_stepsDone 5 (Option.some Jvm.ClassFile.FieldType.int) 7 0 0) (l0 : Nat) (l1 : Nat) (l2 : Nat) (n : Nat) : ∀ (l3 : Int32) (l4 : Int32) (M : q_Mem) (e : ((Int32 × q_Mem) ⊕ (Int32 × q_Mem))), q_lp (fun s => B_X2_stepsDone_13 l0 l1 l2 s.1 s.2.1 s.2.2) n (l3, l4, M) = some e → (∀ (l3 : Int32) (M : q_Mem), e = (.inl (l3, M)) → q_W K 5 Q 0 0 M 57 [some (.ref l0), some (.ref l1), none, some (.int l3), none] []) → (∀ (l3 : Int32) (M : q_Mem), e = (.inr (l3, M)) → q_W K 5 Q 0 0 M 69 [some (.ref l0), some (.ref l1), none, some (.int l3), none] []) → q_W K 5 Q 0 0 M 13 [some (.ref l0), some (.ref l1), some (.ref l2), some (.int l3), some (.int l4)] [] := by
  induction n with
  | zero => intro l3 l4 M e h; cases h
  | succ n ih =>
    intro l3 l4 M e h kE0 kE1
    obtain ⟨stp, e1, e2⟩ := q_bind h
    refine bW_X2_stepsDone_13 C l0 l1 l2 l3 l4 M e1 (fun a0 a1 a2 hs => ?_) (fun b0 b1 hs => ?_) (fun b0 b1 hs => ?_)
    · subst hs; exact ih _ _ _ _ e2 kE0 kE1
    · subst hs; exact kE0 _ _ (Option.some.inj e2).symm
    · subst hs; exact kE1 _ _ (Option.some.inj e2).symm
noncomputable def J_X2_stepsDone_69 (l0 : Nat) (l1 : Nat) (l3 : Int32) (M : q_Mem) : Option (Int32 × q_Mem) := (q_gR M l0 2 3 (fun c18 => q_nn c18 (fun r19 => (q_ob M r19 8 ((F_X8_joyOfAll r19 M).bind (fun u20 => (q_ob M l1 8 ((F_X8_joyOfAll l1 M).bind (fun u21 => (q_pI M l0 2 7 (u20 - u21) (fun M22 => some (l3, M22))))))))))))
set_option maxRecDepth 100000 in
set_option maxHeartbeats 4000000 in
theorem jW_X2_stepsDone_69 {K : q_K} (C : q_C K yX2_stepsDone cX2_stepsDone 5 (Option.some Jvm.ClassFile.FieldType.int) 7 0 0) (l0 : Nat) (l1 : Nat) (l3 : Int32) (M : q_Mem) {r : Int32} {M' : q_Mem} (h : J_X2_stepsDone_69 l0 l1 l3 M = some (r, M')) : q_W K 5 (q_Q K (some (.int r)) M' 0 0) 0 0 M 69 [some (.ref l0), some (.ref l1), none, some (.int l3), none] [] := by
  unfold J_X2_stepsDone_69 at h
  refine q_aload_n C dX2_stepsDone_69 rfl ?_
  refine q_aload_n C dX2_stepsDone_70 rfl ?_
  refine x_getR (ci := 2) (j := 3) C dX2_stepsDone_71 lkF_X2_14 rfl h (fun c18 h => ?_)
  refine x_nn h (fun r19 h => ?_)
  obtain ⟨hk, h⟩ := q_obE h
  obtain ⟨u20, e1, h⟩ := q_bind h
  refine x_callV0 C dX2_stepsDone_74 lkM_X2_76 mV_X8_joyOfAll ⟨_, rfl, rfl⟩ hk (c_X8_joyOfAll _ _ _ _ e1) rfl rfl (Nat.le_of_ble_eq_true rfl) (by decide) (by decide) ?_
  refine q_aload_n C dX2_stepsDone_77 rfl ?_
  obtain ⟨hk, h⟩ := q_obE h
  obtain ⟨u21, e1, h⟩ := q_bind h
  refine x_callV0 C dX2_stepsDone_78 lkM_X2_76 mV_X8_joyOfAll ⟨_, rfl, rfl⟩ hk (c_X8_joyOfAll _ _ _ _ e1) rfl rfl (Nat.le_of_ble_eq_true rfl) (by decide) (by decide) ?_
  refine q_isub C dX2_stepsDone_81 ?_
  refine x_putI (ci := 2) (j := 7) C dX2_stepsDone_82 lkF_X2_29 (fun r hr => by cases hr; rfl) rfl h (fun M22 h => ?_)
  refine q_iload_n C dX2_stepsDone_85 rfl ?_
  exact q_iret C dX2_stepsDone_86 rfl (by decide) (by decide) (Option.some.inj h)
noncomputable def F_X2_stepsDone (l0 : Nat) (l1 : Nat) (l2 : Nat) (M : q_Mem) : Option (Int32 × q_Mem) := (q_gR M l0 2 3 (fun c1 => q_nn c1 (fun r2 => (q_ob M r2 8 ((F_X8_copyFrom r2 l1 M).bind (fun x => match x with | (_, M4) => (q_lp (fun s => B_X2_stepsDone_13 l0 l1 l2 s.1 s.2.1 s.2.2) q_fu ((0 : Int32), (0 : Int32), M4)).bind (fun e15 => match e15 with | .inl (w16, M17) => J_X2_stepsDone_69 l0 l1 w16 M17 | .inr (w23, M24) => J_X2_stepsDone_69 l0 l1 w23 M24)))))))
set_option maxRecDepth 100000 in
set_option maxHeartbeats 4000000 in
theorem c_X2_stepsDone (l : Launch) (G : q_G) (l0 : Nat) (l1 : Nat) (l2 : Nat) (M : q_Mem) {r : Int32} {M' : q_Mem} (h : F_X2_stepsDone l0 l1 l2 M = some (r, M')) : q_Met l G yX2_stepsDone cX2_stepsDone 5 (Option.some Jvm.ClassFile.FieldType.int) 7 0 0 [.ref l0, .ref l1, .ref l2] M (some (.int r)) M' := by
  unfold F_X2_stepsDone at h
  refine q_enter [some (.ref l0), some (.ref l1), some (.ref l2), none, none] (by decide) (Nat.le_of_ble_eq_true rfl) rfl (fun K C => ?_)
  refine q_aload_n C dX2_stepsDone_0 rfl ?_
  refine x_getR (ci := 2) (j := 3) C dX2_stepsDone_1 lkF_X2_14 rfl h (fun c1 h => ?_)
  refine x_nn h (fun r2 h => ?_)
  refine q_aload_n C dX2_stepsDone_4 rfl ?_
  obtain ⟨hk, h⟩ := q_obE h
  obtain ⟨⟨_, M4⟩, e1, h⟩ := q_bind h
  refine x_callVv0 C dX2_stepsDone_5 lkM_X2_57 mV_X8_copyFrom ⟨_, rfl, rfl⟩ hk (c_X8_copyFrom _ _ _ _ _ e1) rfl rfl (Nat.le_of_ble_eq_true rfl) (by decide) (by decide) ?_
  refine x_iconst (v := (0 : Int32)) C dX2_stepsDone_8 (by decide) ?_
  refine q_istore_n (L' := [some (.ref l0), some (.ref l1), some (.ref l2), some (.int (0 : Int32)), none]) C dX2_stepsDone_9 (by decide) rfl rfl ?_
  refine x_iconst (v := (0 : Int32)) C dX2_stepsDone_10 (by decide) ?_
  refine q_istore (L' := [some (.ref l0), some (.ref l1), some (.ref l2), some (.int (0 : Int32)), some (.int (0 : Int32))]) C dX2_stepsDone_11 (by decide) rfl rfl ?_
  obtain ⟨e15, he, h⟩ := q_bind h
  refine q_msk [true, true, true, true, true] (lW_X2_stepsDone_13 C l0 l1 l2 q_fu _ _ _ _ he (fun w16 M17 hs => ?_) (fun w23 M24 hs => ?_))
  · have hs := hs.symm
    subst hs
    refine q_goto (tgt := 69) C dX2_stepsDone_57 (by decide) ?_
    exact q_msk [true, true, false, true, false] (jW_X2_stepsDone_69 C l0 l1 w16 M17 h)
  · have hs := hs.symm
    subst hs
    exact q_msk [true, true, false, true, false] (jW_X2_stepsDone_69 C l0 l1 w23 M24 h)
noncomputable def B_X2_layAhead_10 (l0 : Nat) (l2 : Int32) (l3 : Int32) (M : q_Mem) : Option ((Int32 × q_Mem) ⊕ (q_Mem)) := (if l3 < l2 then (q_gR M l0 2 1 (fun c5 => q_nn c5 (fun r6 => (q_gR M l0 2 3 (fun c7 => q_nn c7 (fun r8 => (q_ob M r6 1 ((F_X1_pass r6 r8 M).bind (fun x => match x with | (_, M10) => some (.inl ((l3 + (1 : Int32)), M10))))))))))) else some (.inr M))
set_option maxRecDepth 100000 in
set_option maxHeartbeats 4000000 in
theorem bW_X2_layAhead_10 {K : q_K} {Q : State → Prop} (C : q_C K yX2_layAhead cX2_layAhead 4 (Option.none : Option Jvm.ClassFile.FieldType) 6 0 0) (l0 : Nat) (l2 : Int32) (l3 : Int32) (M : q_Mem) {stp : (Int32 × q_Mem) ⊕ (q_Mem)} (h : B_X2_layAhead_10 l0 l2 l3 M = some stp) (kC : ∀ (l3 : Int32) (M : q_Mem), stp = .inl (l3, M) → q_W K 4 Q 0 0 M 10 [some (.ref l0), none, some (.int l2), some (.int l3)] []) (kE0 : ∀ (M : q_Mem), stp = .inr M → q_W K 4 Q 0 0 M 32 [some (.ref l0), none, none, none] []) : q_W K 4 Q 0 0 M 10 [some (.ref l0), none, some (.int l2), some (.int l3)] [] := by
  unfold B_X2_layAhead_10 at h
  refine q_iload_n C dX2_layAhead_10 rfl ?_
  refine q_iload_n C dX2_layAhead_11 rfl ?_
  refine q_icmp_ge (tgt := 32) C dX2_layAhead_12 (by decide) h (fun _ h => ?_) (fun _ h => ?_)
  · refine q_aload_n C dX2_layAhead_15 rfl ?_
    refine x_getR (ci := 2) (j := 1) C dX2_layAhead_16 lkF_X2_49 rfl h (fun c5 h => ?_)
    refine x_nn h (fun r6 h => ?_)
    refine q_aload_n C dX2_layAhead_19 rfl ?_
    refine x_getR (ci := 2) (j := 3) C dX2_layAhead_20 lkF_X2_14 rfl h (fun c7 h => ?_)
    refine x_nn h (fun r8 h => ?_)
    obtain ⟨hk, h⟩ := q_obE h
    obtain ⟨⟨_, M10⟩, e1, h⟩ := q_bind h
    refine x_callVv0 C dX2_layAhead_23 lkM_X2_80 mV_X1_pass ⟨_, rfl, rfl⟩ hk (c_X1_pass _ _ _ _ _ e1) rfl rfl (Nat.le_of_ble_eq_true rfl) (by decide) (by decide) ?_
    refine x_iinc (w := (1 : Int32)) (L' := [some (.ref l0), none, some (.int l2), some (.int (l3 + (1 : Int32)))]) C dX2_layAhead_26 rfl (by decide) (by decide) rfl rfl ?_
    refine q_goto (tgt := 10) C dX2_layAhead_29 (by decide) ?_
    exact q_msk [true, false, true, true] (kC _ _ (Option.some.inj h).symm)
  · exact q_msk [true, false, false, false] (kE0 _ (Option.some.inj h).symm)
set_option maxRecDepth 100000 in
set_option maxHeartbeats 4000000 in
theorem lW_X2_layAhead_10 {K : q_K} {Q : State → Prop} (C : q_C K yX2_layAhead cX2_layAhead 4 (Option.none : Option Jvm.ClassFile.FieldType) 6 0 0) (l0 : Nat) (l2 : Int32) (n : Nat) : ∀ (l3 : Int32) (M : q_Mem) (e : (q_Mem)), q_lp (fun s => B_X2_layAhead_10 l0 l2 s.1 s.2) n (l3, M) = some e → (∀ (M : q_Mem), e = M → q_W K 4 Q 0 0 M 32 [some (.ref l0), none, none, none] []) → q_W K 4 Q 0 0 M 10 [some (.ref l0), none, some (.int l2), some (.int l3)] [] := by
  induction n with
  | zero => intro l3 M e h; cases h
  | succ n ih =>
    intro l3 M e h kE0
    obtain ⟨stp, e1, e2⟩ := q_bind h
    refine bW_X2_layAhead_10 C l0 l2 l3 M e1 (fun a0 a1 hs => ?_) (fun b0 hs => ?_)
    · subst hs; exact ih _ _ _ e2 kE0
    · subst hs; exact kE0 _ (Option.some.inj e2).symm
noncomputable def F_X2_layAhead (l0 : Nat) (l1 : Nat) (l2 : Int32) (M : q_Mem) : Option (Unit × q_Mem) := (q_gR M l0 2 3 (fun c1 => q_nn c1 (fun r2 => (q_ob M r2 8 ((F_X8_copyFrom r2 l1 M).bind (fun x => match x with | (_, M4) => (q_lp (fun s => B_X2_layAhead_10 l0 l2 s.1 s.2) q_fu ((0 : Int32), M4)).bind (fun e11 => match e11 with | M12 => (q_gR M12 l0 2 1 (fun c13 => q_nn c13 (fun r14 => (q_gR M12 l0 2 3 (fun c15 => q_nn c15 (fun r16 => (q_ob M12 r14 1 ((F_X1_lay r14 r16 M12).bind (fun x => match x with | (_, M18) => some ((), M18)))))))))))))))))
set_option maxRecDepth 100000 in
set_option maxHeartbeats 4000000 in
theorem c_X2_layAhead (l : Launch) (G : q_G) (l0 : Nat) (l1 : Nat) (l2 : Int32) (M : q_Mem) {r : Unit} {M' : q_Mem} (h : F_X2_layAhead l0 l1 l2 M = some (r, M')) : q_Met l G yX2_layAhead cX2_layAhead 4 (Option.none : Option Jvm.ClassFile.FieldType) 6 0 0 [.ref l0, .ref l1, .int l2] M none M' := by
  unfold F_X2_layAhead at h
  refine q_enter [some (.ref l0), some (.ref l1), some (.int l2), none] (by decide) (Nat.le_of_ble_eq_true rfl) rfl (fun K C => ?_)
  refine q_aload_n C dX2_layAhead_0 rfl ?_
  refine x_getR (ci := 2) (j := 3) C dX2_layAhead_1 lkF_X2_14 rfl h (fun c1 h => ?_)
  refine x_nn h (fun r2 h => ?_)
  refine q_aload_n C dX2_layAhead_4 rfl ?_
  obtain ⟨hk, h⟩ := q_obE h
  obtain ⟨⟨_, M4⟩, e1, h⟩ := q_bind h
  refine x_callVv0 C dX2_layAhead_5 lkM_X2_57 mV_X8_copyFrom ⟨_, rfl, rfl⟩ hk (c_X8_copyFrom _ _ _ _ _ e1) rfl rfl (Nat.le_of_ble_eq_true rfl) (by decide) (by decide) ?_
  refine x_iconst (v := (0 : Int32)) C dX2_layAhead_8 (by decide) ?_
  refine q_istore_n (L' := [some (.ref l0), some (.ref l1), some (.int l2), some (.int (0 : Int32))]) C dX2_layAhead_9 (by decide) rfl rfl ?_
  obtain ⟨e11, he, h⟩ := q_bind h
  refine q_msk [true, false, true, true] (lW_X2_layAhead_10 C l0 l2 q_fu _ _ _ he (fun M12 hs => ?_))
  · have hs := hs.symm
    subst hs
    refine q_aload_n C dX2_layAhead_32 rfl ?_
    refine x_getR (ci := 2) (j := 1) C dX2_layAhead_33 lkF_X2_49 rfl h (fun c13 h => ?_)
    refine x_nn h (fun r14 h => ?_)
    refine q_aload_n C dX2_layAhead_36 rfl ?_
    refine x_getR (ci := 2) (j := 3) C dX2_layAhead_37 lkF_X2_14 rfl h (fun c15 h => ?_)
    refine x_nn h (fun r16 h => ?_)
    obtain ⟨hk, h⟩ := q_obE h
    obtain ⟨⟨_, M18⟩, e1, h⟩ := q_bind h
    refine x_callVv0 C dX2_layAhead_40 lkM_X2_85 mV_X1_lay ⟨_, rfl, rfl⟩ hk (c_X1_lay _ _ _ _ _ e1) rfl rfl (Nat.le_of_ble_eq_true rfl) (by decide) (by decide) ?_
    exact q_vret C dX2_layAhead_43 rfl (by decide) (by decide) (Option.some.inj h)
noncomputable def F_X2_weighRow (l0 : Nat) (l1 : Int32) (l2 : Int32) (M : q_Mem) : Option (Unit × q_Mem) := (q_gI M l0 2 9 (fun v1 => (if v1 < l2 then (q_pI M l0 2 9 l2 (fun M2 => (q_pI M2 l0 2 8 l1 (fun M3 => some ((), M3))))) else some ((), M))))
set_option maxRecDepth 100000 in
set_option maxHeartbeats 4000000 in
theorem c_X2_weighRow (l : Launch) (G : q_G) (l0 : Nat) (l1 : Int32) (l2 : Int32) (M : q_Mem) {r : Unit} {M' : q_Mem} (h : F_X2_weighRow l0 l1 l2 M = some (r, M')) : q_Met l G yX2_weighRow cX2_weighRow 3 (Option.none : Option Jvm.ClassFile.FieldType) 1 0 0 [.ref l0, .int l1, .int l2] M none M' := by
  unfold F_X2_weighRow at h
  refine q_enter [some (.ref l0), some (.int l1), some (.int l2)] (by decide) (Nat.le_of_ble_eq_true rfl) rfl (fun K C => ?_)
  refine q_iload_n C dX2_weighRow_0 rfl ?_
  refine q_aload_n C dX2_weighRow_1 rfl ?_
  refine x_getI (ci := 2) (j := 9) C dX2_weighRow_2 lkF_X2_36 rfl h (fun v1 h => ?_)
  refine q_icmp_le (tgt := 18) C dX2_weighRow_5 (by decide) h (fun _ h => ?_) (fun _ h => ?_)
  · refine q_aload_n C dX2_weighRow_8 rfl ?_
    refine q_iload_n C dX2_weighRow_9 rfl ?_
    refine x_putI (ci := 2) (j := 9) C dX2_weighRow_10 lkF_X2_36 (fun r hr => by cases hr; rfl) rfl h (fun M2 h => ?_)
    refine q_aload_n C dX2_weighRow_13 rfl ?_
    refine q_iload_n C dX2_weighRow_14 rfl ?_
    refine x_putI (ci := 2) (j := 8) C dX2_weighRow_15 lkF_X2_33 (fun r hr => by cases hr; rfl) rfl h (fun M3 h => ?_)
    exact q_vret C dX2_weighRow_18 rfl (by decide) (by decide) (Option.some.inj h)
  · exact q_vret C dX2_weighRow_18 rfl (by decide) (by decide) (Option.some.inj h)
def Hr_X2_tryRows (n0 : Nat) (rec : (Nat → Nat → Int32 → Int32 → Int32 → q_Mem → Option (Unit × q_Mem))) : Prop := ∀ (l : Launch) (G : q_G), (∀ (a0 : Nat) (a1 : Int32) (a2 : Int32) (a3 : Int32) (M : q_Mem) (r : Unit) (M' : q_Mem), rec 0 a0 a1 a2 a3 M = some (r, M') → q_Met l G yX2_tryRows cX2_tryRows 8 (Option.none : Option Jvm.ClassFile.FieldType) (n0 + 6) 0 0 [.ref a0, .int a1, .int a2, .int a3] M none M')
noncomputable def J_X2_tryRows_139_35 (rec : (Nat → Nat → Int32 → Int32 → Int32 → q_Mem → Option (Unit × q_Mem))) (l0 : Nat) (l1 : Int32) (l2 : Int32) (l3 : Int32) (l4 : Nat) (l5 : Int32) (l6 : Int32) (M : q_Mem) : Option ((Int32 × q_Mem) ⊕ (q_Mem)) := some (.inl ((l6 + (1 : Int32)), M))
set_option maxRecDepth 100000 in
set_option maxHeartbeats 4000000 in
theorem jW_X2_tryRows_139_35 {K : q_K} {Q : State → Prop} {n0 : Nat} (C : q_C K yX2_tryRows cX2_tryRows 8 (Option.none : Option Jvm.ClassFile.FieldType) (n0 + 6 + 1) 0 0) {rec : (Nat → Nat → Int32 → Int32 → Int32 → q_Mem → Option (Unit × q_Mem))} (hr : Hr_X2_tryRows n0 rec) (l0 : Nat) (l1 : Int32) (l2 : Int32) (l3 : Int32) (l4 : Nat) (l5 : Int32) (l6 : Int32) (M : q_Mem) {stp : (Int32 × q_Mem) ⊕ (q_Mem)} (h : J_X2_tryRows_139_35 rec l0 l1 l2 l3 l4 l5 l6 M = some stp) (kC : ∀ (l6 : Int32) (M : q_Mem), stp = .inl (l6, M) → q_W K 8 Q 0 0 M 35 [some (.ref l0), some (.int l1), some (.int l2), some (.int l3), some (.ref l4), some (.int l5), some (.int l6), none] []) (kE0 : ∀ (M : q_Mem), stp = .inr M → q_W K 8 Q 0 0 M 145 [none, none, none, none, none, none, none, none] []) : q_W K 8 Q 0 0 M 139 [some (.ref l0), some (.int l1), some (.int l2), some (.int l3), some (.ref l4), some (.int l5), some (.int l6), none] [] := by
  unfold J_X2_tryRows_139_35 at h
  refine x_iinc (w := (1 : Int32)) (L' := [some (.ref l0), some (.int l1), some (.int l2), some (.int l3), some (.ref l4), some (.int l5), some (.int (l6 + (1 : Int32))), none]) C dX2_tryRows_139 rfl (by decide) (by decide) rfl rfl ?_
  refine q_goto (tgt := 35) C dX2_tryRows_142 (by decide) ?_
  exact q_msk [true, true, true, true, true, true, true, false] (kC _ _ (Option.some.inj h).symm)
noncomputable def B_X2_tryRows_102 (rec : (Nat → Nat → Int32 → Int32 → Int32 → q_Mem → Option (Unit × q_Mem))) (l0 : Nat) (l1 : Int32) (l2 : Int32) (l3 : Int32) (l4 : Nat) (l5 : Int32) (l6 : Int32) (l7 : Int32) (M : q_Mem) : Option ((Int32 × q_Mem) ⊕ (q_Mem)) := (if l7 < (3 : Int32) then (q_gR M l0 2 1 (fun c23 => q_nn c23 (fun r24 => (q_ob M r24 1 ((F_X1_pass r24 l4 M).bind (fun x => match x with | (_, M26) => some (.inl ((l7 + (1 : Int32)), M26)))))))) else some (.inr M))
set_option maxRecDepth 100000 in
set_option maxHeartbeats 4000000 in
theorem bW_X2_tryRows_102 {K : q_K} {Q : State → Prop} {n0 : Nat} (C : q_C K yX2_tryRows cX2_tryRows 8 (Option.none : Option Jvm.ClassFile.FieldType) (n0 + 6 + 1) 0 0) {rec : (Nat → Nat → Int32 → Int32 → Int32 → q_Mem → Option (Unit × q_Mem))} (hr : Hr_X2_tryRows n0 rec) (l0 : Nat) (l1 : Int32) (l2 : Int32) (l3 : Int32) (l4 : Nat) (l5 : Int32) (l6 : Int32) (l7 : Int32) (M : q_Mem) {stp : (Int32 × q_Mem) ⊕ (q_Mem)} (h : B_X2_tryRows_102 rec l0 l1 l2 l3 l4 l5 l6 l7 M = some stp) (kC : ∀ (l7 : Int32) (M : q_Mem), stp = .inl (l7, M) → q_W K 8 Q 0 0 M 102 [some (.ref l0), some (.int l1), some (.int l2), some (.int l3), some (.ref l4), some (.int l5), some (.int l6), some (.int l7)] []) (kE0 : ∀ (M : q_Mem), stp = .inr M → q_W K 8 Q 0 0 M 123 [some (.ref l0), some (.int l1), some (.int l2), some (.int l3), some (.ref l4), some (.int l5), some (.int l6), none] []) : q_W K 8 Q 0 0 M 102 [some (.ref l0), some (.int l1), some (.int l2), some (.int l3), some (.ref l4), some (.int l5), some (.int l6), some (.int l7)] [] := by
  unfold B_X2_tryRows_102 at h
  refine q_iload C dX2_tryRows_102 rfl ?_
  refine x_iconst (v := (3 : Int32)) C dX2_tryRows_104 (by decide) ?_
  refine q_icmp_ge (tgt := 123) C dX2_tryRows_105 (by decide) h (fun _ h => ?_) (fun _ h => ?_)
  · refine q_aload_n C dX2_tryRows_108 rfl ?_
    refine x_getR (ci := 2) (j := 1) C dX2_tryRows_109 lkF_X2_49 rfl h (fun c23 h => ?_)
    refine x_nn h (fun r24 h => ?_)
    refine q_aload C dX2_tryRows_112 rfl ?_
    obtain ⟨hk, h⟩ := q_obE h
    obtain ⟨⟨_, M26⟩, e1, h⟩ := q_bind h
    refine x_callVv0 C dX2_tryRows_114 lkM_X2_80 mV_X1_pass ⟨_, rfl, rfl⟩ hk (c_X1_pass _ _ _ _ _ e1) rfl rfl (Nat.le_of_ble_eq_true rfl) (⟨by omega, by decide⟩) (by decide) ?_
    refine x_iinc (w := (1 : Int32)) (L' := [some (.ref l0), some (.int l1), some (.int l2), some (.int l3), some (.ref l4), some (.int l5), some (.int l6), some (.int (l7 + (1 : Int32)))]) C dX2_tryRows_117 rfl (by decide) (by decide) rfl rfl ?_
    refine q_goto (tgt := 102) C dX2_tryRows_120 (by decide) ?_
    exact q_msk [true, true, true, true, true, true, true, true] (kC _ _ (Option.some.inj h).symm)
  · exact q_msk [true, true, true, true, true, true, true, false] (kE0 _ (Option.some.inj h).symm)
set_option maxRecDepth 100000 in
set_option maxHeartbeats 4000000 in
theorem lW_X2_tryRows_102 {K : q_K} {Q : State → Prop} {n0 : Nat} (C : q_C K yX2_tryRows cX2_tryRows 8 (Option.none : Option Jvm.ClassFile.FieldType) (n0 + 6 + 1) 0 0) {rec : (Nat → Nat → Int32 → Int32 → Int32 → q_Mem → Option (Unit × q_Mem))} (hr : Hr_X2_tryRows n0 rec) (l0 : Nat) (l1 : Int32) (l2 : Int32) (l3 : Int32) (l4 : Nat) (l5 : Int32) (l6 : Int32) (n : Nat) : ∀ (l7 : Int32) (M : q_Mem) (e : (q_Mem)), q_lp (fun s => B_X2_tryRows_102 rec l0 l1 l2 l3 l4 l5 l6 s.1 s.2) n (l7, M) = some e → (∀ (M : q_Mem), e = M → q_W K 8 Q 0 0 M 123 [some (.ref l0), some (.int l1), some (.int l2), some (.int l3), some (.ref l4), some (.int l5), some (.int l6), none] []) → q_W K 8 Q 0 0 M 102 [some (.ref l0), some (.int l1), some (.int l2), some (.int l3), some (.ref l4), some (.int l5), some (.int l6), some (.int l7)] [] := by
  induction n with
  | zero => intro l7 M e h; cases h
  | succ n ih =>
    intro l7 M e h kE0
    obtain ⟨stp, e1, e2⟩ := q_bind h
    refine bW_X2_tryRows_102 C hr l0 l1 l2 l3 l4 l5 l6 l7 M e1 (fun a0 a1 hs => ?_) (fun b0 hs => ?_)
    · subst hs; exact ih _ _ _ e2 kE0
    · subst hs; exact kE0 _ (Option.some.inj e2).symm
noncomputable def B_X2_tryRows_35 (rec : (Nat → Nat → Int32 → Int32 → Int32 → q_Mem → Option (Unit × q_Mem))) (l0 : Nat) (l1 : Int32) (l2 : Int32) (l3 : Int32) (l4 : Nat) (l5 : Int32) (l6 : Int32) (M : q_Mem) : Option ((Int32 × q_Mem) ⊕ (q_Mem)) := (q_gR M l0 2 0 (fun c5 => q_nn c5 (fun r6 => (q_gI M r6 3 4 (fun v7 => (if l6 < v7 then (q_gR M l0 2 4 (fun c8 => q_nn c8 (fun r9 => (q_lR M 5 r9 l1 (fun c10 => q_nn c10 (fun r11 => (q_ob M l4 8 ((F_X8_copyFrom l4 r11 M).bind (fun x => match x with | (_, M13) => (q_gR M13 l4 8 0 (fun c14 => q_nn c14 (fun r15 => (q_tI M13 r15 (3 : Int32) l6 (fun M16 => (q_gR M16 l0 2 1 (fun c17 => q_nn c17 (fun r18 => (q_ob M16 r18 1 ((F_X1_pass r18 l4 M16).bind (fun x => match x with | (_, M20) => (if l5 = 0 then (q_ob M20 l0 2 ((rec 0 l0 (l1 + (1 : Int32)) l2 ((l3 * (10 : Int32)) + l6) M20).bind (fun x => match x with | (_, M22) => J_X2_tryRows_139_35 rec l0 l1 l2 l3 l4 l5 l6 M22))) else (q_lp (fun s => B_X2_tryRows_102 rec l0 l1 l2 l3 l4 l5 l6 s.1 s.2) q_fu ((0 : Int32), M20)).bind (fun e27 => match e27 with | M28 => (q_ob M28 l4 8 ((F_X8_joyOfAll l4 M28).bind (fun u29 => (q_ob M28 l0 2 ((F_X2_weighRow l0 ((l3 * (10 : Int32)) + l6) u29 M28).bind (fun x => match x with | (_, M31) => J_X2_tryRows_139_35 rec l0 l1 l2 l3 l4 l5 l6 M31)))))))))))))))))))))))))))) else some (.inr M)))))))
set_option maxRecDepth 100000 in
set_option maxHeartbeats 4000000 in
theorem bW_X2_tryRows_35 {K : q_K} {Q : State → Prop} {n0 : Nat} (C : q_C K yX2_tryRows cX2_tryRows 8 (Option.none : Option Jvm.ClassFile.FieldType) (n0 + 6 + 1) 0 0) {rec : (Nat → Nat → Int32 → Int32 → Int32 → q_Mem → Option (Unit × q_Mem))} (hr : Hr_X2_tryRows n0 rec) (l0 : Nat) (l1 : Int32) (l2 : Int32) (l3 : Int32) (l4 : Nat) (l5 : Int32) (l6 : Int32) (M : q_Mem) {stp : (Int32 × q_Mem) ⊕ (q_Mem)} (h : B_X2_tryRows_35 rec l0 l1 l2 l3 l4 l5 l6 M = some stp) (kC : ∀ (l6 : Int32) (M : q_Mem), stp = .inl (l6, M) → q_W K 8 Q 0 0 M 35 [some (.ref l0), some (.int l1), some (.int l2), some (.int l3), some (.ref l4), some (.int l5), some (.int l6), none] []) (kE0 : ∀ (M : q_Mem), stp = .inr M → q_W K 8 Q 0 0 M 145 [none, none, none, none, none, none, none, none] []) : q_W K 8 Q 0 0 M 35 [some (.ref l0), some (.int l1), some (.int l2), some (.int l3), some (.ref l4), some (.int l5), some (.int l6), none] [] := by
  unfold B_X2_tryRows_35 at h
  refine q_iload C dX2_tryRows_35 rfl ?_
  refine q_aload_n C dX2_tryRows_37 rfl ?_
  refine x_getR (ci := 2) (j := 0) C dX2_tryRows_38 lkF_X2_45 rfl h (fun c5 h => ?_)
  refine x_nn h (fun r6 h => ?_)
  refine x_getI (ci := 3) (j := 4) C dX2_tryRows_41 lkF_X2_93 rfl h (fun v7 h => ?_)
  refine q_icmp_ge (tgt := 145) C dX2_tryRows_44 (by decide) h (fun _ h => ?_) (fun _ h => ?_)
  · refine q_aload C dX2_tryRows_47 rfl ?_
    refine q_aload_n C dX2_tryRows_49 rfl ?_
    refine x_getR (ci := 2) (j := 4) C dX2_tryRows_50 lkF_X2_18 rfl h (fun c8 h => ?_)
    refine x_nn h (fun r9 h => ?_)
    refine q_iload_n C dX2_tryRows_53 rfl ?_
    refine x_aald C dX2_tryRows_54 (by decide) h (fun c10 h => ?_)
    refine x_nn h (fun r11 h => ?_)
    obtain ⟨hk, h⟩ := q_obE h
    obtain ⟨⟨_, M13⟩, e1, h⟩ := q_bind h
    refine x_callVv0 C dX2_tryRows_55 lkM_X2_57 mV_X8_copyFrom ⟨_, rfl, rfl⟩ hk (c_X8_copyFrom _ _ _ _ _ e1) rfl rfl (Nat.le_of_ble_eq_true rfl) (⟨by omega, by decide⟩) (by decide) ?_
    refine q_aload C dX2_tryRows_58 rfl ?_
    refine x_getR (ci := 8) (j := 0) C dX2_tryRows_60 lkF_X2_98 rfl h (fun c14 h => ?_)
    refine x_nn h (fun r15 h => ?_)
    refine x_iconst (v := (3 : Int32)) C dX2_tryRows_63 (by decide) ?_
    refine q_iload C dX2_tryRows_64 rfl ?_
    refine x_iast C dX2_tryRows_66 h (fun M16 h => ?_)
    refine q_aload_n C dX2_tryRows_67 rfl ?_
    refine x_getR (ci := 2) (j := 1) C dX2_tryRows_68 lkF_X2_49 rfl h (fun c17 h => ?_)
    refine x_nn h (fun r18 h => ?_)
    refine q_aload C dX2_tryRows_71 rfl ?_
    obtain ⟨hk, h⟩ := q_obE h
    obtain ⟨⟨_, M20⟩, e1, h⟩ := q_bind h
    refine x_callVv0 C dX2_tryRows_73 lkM_X2_80 mV_X1_pass ⟨_, rfl, rfl⟩ hk (c_X1_pass _ _ _ _ _ e1) rfl rfl (Nat.le_of_ble_eq_true rfl) (⟨by omega, by decide⟩) (by decide) ?_
    refine q_iload C dX2_tryRows_76 rfl ?_
    refine q_if_ne (tgt := 99) C dX2_tryRows_78 (by decide) h (fun _ h => ?_) (fun _ h => ?_)
    · refine q_aload_n C dX2_tryRows_81 rfl ?_
      refine q_iload_n C dX2_tryRows_82 rfl ?_
      refine x_iconst (v := (1 : Int32)) C dX2_tryRows_83 (by decide) ?_
      refine q_iadd C dX2_tryRows_84 ?_
      refine q_iload_n C dX2_tryRows_85 rfl ?_
      refine q_iload_n C dX2_tryRows_86 rfl ?_
      refine x_bipush (v := (10 : Int32)) C dX2_tryRows_87 (by decide) ?_
      refine q_imul C dX2_tryRows_89 ?_
      refine q_iload C dX2_tryRows_90 rfl ?_
      refine q_iadd C dX2_tryRows_92 ?_
      obtain ⟨hk, h⟩ := q_obE h
      obtain ⟨⟨_, M22⟩, e1, h⟩ := q_bind h
      refine x_callVv0 C dX2_tryRows_93 lkM_X2_89 mV_X2_tryRows ⟨_, rfl, rfl⟩ hk ((hr _ _) _ _ _ _ _ _ _ e1) rfl rfl (Nat.le_of_ble_eq_true rfl) (⟨by omega, by decide⟩) (by decide) ?_
      refine q_goto (tgt := 139) C dX2_tryRows_96 (by decide) ?_
      exact q_msk [true, true, true, true, true, true, true, false] (jW_X2_tryRows_139_35 C hr l0 l1 l2 l3 l4 l5 l6 M22 h kC kE0)
    · refine x_iconst (v := (0 : Int32)) C dX2_tryRows_99 (by decide) ?_
      refine q_istore (L' := [some (.ref l0), some (.int l1), some (.int l2), some (.int l3), some (.ref l4), some (.int l5), some (.int l6), some (.int (0 : Int32))]) C dX2_tryRows_100 (by decide) rfl rfl ?_
      obtain ⟨e27, he, h⟩ := q_bind h
      refine q_msk [true, true, true, true, true, true, true, true] (lW_X2_tryRows_102 C hr l0 l1 l2 l3 l4 l5 l6 q_fu _ _ _ he (fun M28 hs => ?_))
      · have hs := hs.symm
        subst hs
        refine q_aload_n C dX2_tryRows_123 rfl ?_
        refine q_iload_n C dX2_tryRows_124 rfl ?_
        refine x_bipush (v := (10 : Int32)) C dX2_tryRows_125 (by decide) ?_
        refine q_imul C dX2_tryRows_127 ?_
        refine q_iload C dX2_tryRows_128 rfl ?_
        refine q_iadd C dX2_tryRows_130 ?_
        refine q_aload C dX2_tryRows_131 rfl ?_
        obtain ⟨hk, h⟩ := q_obE h
        obtain ⟨u29, e1, h⟩ := q_bind h
        refine x_callV0 C dX2_tryRows_133 lkM_X2_76 mV_X8_joyOfAll ⟨_, rfl, rfl⟩ hk (c_X8_joyOfAll _ _ _ _ e1) rfl rfl (Nat.le_of_ble_eq_true rfl) (⟨by omega, by decide⟩) (by decide) ?_
        obtain ⟨hk, h⟩ := q_obE h
        obtain ⟨⟨_, M31⟩, e1, h⟩ := q_bind h
        refine x_callVv0 C dX2_tryRows_136 lkM_X2_101 mV_X2_weighRow ⟨_, rfl, rfl⟩ hk (c_X2_weighRow _ _ _ _ _ _ e1) rfl rfl (Nat.le_of_ble_eq_true rfl) (⟨by omega, by decide⟩) (by decide) ?_
        exact q_msk [true, true, true, true, true, true, true, false] (jW_X2_tryRows_139_35 C hr l0 l1 l2 l3 l4 l5 l6 M31 h kC kE0)
  · exact q_msk [false, false, false, false, false, false, false, false] (kE0 _ (Option.some.inj h).symm)
set_option maxRecDepth 100000 in
set_option maxHeartbeats 4000000 in
theorem lW_X2_tryRows_35 {K : q_K} {Q : State → Prop} {n0 : Nat} (C : q_C K yX2_tryRows cX2_tryRows 8 (Option.none : Option Jvm.ClassFile.FieldType) (n0 + 6 + 1) 0 0) {rec : (Nat → Nat → Int32 → Int32 → Int32 → q_Mem → Option (Unit × q_Mem))} (hr : Hr_X2_tryRows n0 rec) (l0 : Nat) (l1 : Int32) (l2 : Int32) (l3 : Int32) (l4 : Nat) (l5 : Int32) (n : Nat) : ∀ (l6 : Int32) (M : q_Mem) (e : (q_Mem)), q_lp (fun s => B_X2_tryRows_35 rec l0 l1 l2 l3 l4 l5 s.1 s.2) n (l6, M) = some e → (∀ (M : q_Mem), e = M → q_W K 8 Q 0 0 M 145 [none, none, none, none, none, none, none, none] []) → q_W K 8 Q 0 0 M 35 [some (.ref l0), some (.int l1), some (.int l2), some (.int l3), some (.ref l4), some (.int l5), some (.int l6), none] [] := by
  induction n with
  | zero => intro l6 M e h; cases h
  | succ n ih =>
    intro l6 M e h kE0
    obtain ⟨stp, e1, e2⟩ := q_bind h
    refine bW_X2_tryRows_35 C hr l0 l1 l2 l3 l4 l5 l6 M e1 (fun a0 a1 hs => ?_) (fun b0 hs => ?_)
    · subst hs; exact ih _ _ _ e2 kE0
    · subst hs; exact kE0 _ (Option.some.inj e2).symm
noncomputable def J_X2_tryRows_30 (rec : (Nat → Nat → Int32 → Int32 → Int32 → q_Mem → Option (Unit × q_Mem))) (l0 : Nat) (l1 : Int32) (l2 : Int32) (l3 : Int32) (l4 : Nat) (s0 : Int32) (M : q_Mem) : Option (Unit × q_Mem) := (q_lp (fun s => B_X2_tryRows_35 rec l0 l1 l2 l3 l4 s0 s.1 s.2) q_fu ((0 : Int32), M)).bind (fun e32 => match e32 with | M33 => some ((), M33))
set_option maxRecDepth 100000 in
set_option maxHeartbeats 4000000 in
theorem jW_X2_tryRows_30 {K : q_K} {n0 : Nat} (C : q_C K yX2_tryRows cX2_tryRows 8 (Option.none : Option Jvm.ClassFile.FieldType) (n0 + 6 + 1) 0 0) {rec : (Nat → Nat → Int32 → Int32 → Int32 → q_Mem → Option (Unit × q_Mem))} (hr : Hr_X2_tryRows n0 rec) (l0 : Nat) (l1 : Int32) (l2 : Int32) (l3 : Int32) (l4 : Nat) (s0 : Int32) (M : q_Mem) {r : Unit} {M' : q_Mem} (h : J_X2_tryRows_30 rec l0 l1 l2 l3 l4 s0 M = some (r, M')) : q_W K 8 (q_Q K none M' 0 0) 0 0 M 30 [some (.ref l0), some (.int l1), some (.int l2), some (.int l3), some (.ref l4), none, none, none] [.int s0] := by
  unfold J_X2_tryRows_30 at h
  refine q_istore (L' := [some (.ref l0), some (.int l1), some (.int l2), some (.int l3), some (.ref l4), some (.int s0), none, none]) C dX2_tryRows_30 (by decide) rfl rfl ?_
  refine x_iconst (v := (0 : Int32)) C dX2_tryRows_32 (by decide) ?_
  refine q_istore (L' := [some (.ref l0), some (.int l1), some (.int l2), some (.int l3), some (.ref l4), some (.int s0), some (.int (0 : Int32)), none]) C dX2_tryRows_33 (by decide) rfl rfl ?_
  obtain ⟨e32, he, h⟩ := q_bind h
  refine q_msk [true, true, true, true, true, true, true, false] (lW_X2_tryRows_35 C hr l0 l1 l2 l3 l4 s0 q_fu _ _ _ he (fun M33 hs => ?_))
  · have hs := hs.symm
    subst hs
    exact q_vret C dX2_tryRows_145 rfl (by decide) (by decide) (Option.some.inj h)
noncomputable def F_X2_tryRows (rec : (Nat → Nat → Int32 → Int32 → Int32 → q_Mem → Option (Unit × q_Mem))) (l0 : Nat) (l1 : Int32) (l2 : Int32) (l3 : Int32) (M : q_Mem) : Option (Unit × q_Mem) := (if (l1 + (1 : Int32)) < (5 : Int32) then (q_gR M l0 2 4 (fun c1 => q_nn c1 (fun r2 => (q_lR M 5 r2 (l1 + (1 : Int32)) (fun c3 => q_nn c3 (fun r4 => (if (l1 + (1 : Int32)) < l2 then J_X2_tryRows_30 rec l0 l1 l2 l3 r4 (0 : Int32) M else J_X2_tryRows_30 rec l0 l1 l2 l3 r4 (1 : Int32) M))))))) else some ((), M))
set_option maxRecDepth 100000 in
set_option maxHeartbeats 4000000 in
theorem cr_X2_tryRows {l : Launch} {G : q_G} {n0 : Nat} {rec : (Nat → Nat → Int32 → Int32 → Int32 → q_Mem → Option (Unit × q_Mem))} (hr : Hr_X2_tryRows n0 rec) (l0 : Nat) (l1 : Int32) (l2 : Int32) (l3 : Int32) (M : q_Mem) {r : Unit} {M' : q_Mem} (h : F_X2_tryRows rec l0 l1 l2 l3 M = some (r, M')) : q_Met l G yX2_tryRows cX2_tryRows 8 (Option.none : Option Jvm.ClassFile.FieldType) (n0 + 6 + 1) 0 0 [.ref l0, .int l1, .int l2, .int l3] M none M' := by
  unfold F_X2_tryRows at h
  refine q_enter [some (.ref l0), some (.int l1), some (.int l2), some (.int l3), none, none, none, none] (by decide) (Nat.le_of_ble_eq_true rfl) rfl (fun K C => ?_)
  refine q_iload_n C dX2_tryRows_0 rfl ?_
  refine x_iconst (v := (1 : Int32)) C dX2_tryRows_1 (by decide) ?_
  refine q_iadd C dX2_tryRows_2 ?_
  refine x_iconst (v := (5 : Int32)) C dX2_tryRows_3 (by decide) ?_
  refine q_icmp_lt (tgt := 8) C dX2_tryRows_4 (by decide) h (fun _ h => ?_) (fun _ h => ?_)
  · refine q_aload_n C dX2_tryRows_8 rfl ?_
    refine x_getR (ci := 2) (j := 4) C dX2_tryRows_9 lkF_X2_18 rfl h (fun c1 h => ?_)
    refine x_nn h (fun r2 h => ?_)
    refine q_iload_n C dX2_tryRows_12 rfl ?_
    refine x_iconst (v := (1 : Int32)) C dX2_tryRows_13 (by decide) ?_
    refine q_iadd C dX2_tryRows_14 ?_
    refine x_aald C dX2_tryRows_15 (by decide) h (fun c3 h => ?_)
    refine x_nn h (fun r4 h => ?_)
    refine q_astore (L' := [some (.ref l0), some (.int l1), some (.int l2), some (.int l3), some (.ref r4), none, none, none]) C dX2_tryRows_16 (by decide) rfl rfl ?_
    refine q_iload_n C dX2_tryRows_18 rfl ?_
    refine x_iconst (v := (1 : Int32)) C dX2_tryRows_19 (by decide) ?_
    refine q_iadd C dX2_tryRows_20 ?_
    refine q_iload_n C dX2_tryRows_21 rfl ?_
    refine q_icmp_lt (tgt := 29) C dX2_tryRows_22 (by decide) h (fun _ h => ?_) (fun _ h => ?_)
    · refine x_iconst (v := (0 : Int32)) C dX2_tryRows_29 (by decide) ?_
      exact q_msk [true, true, true, true, true, false, false, false] (jW_X2_tryRows_30 C hr l0 l1 l2 l3 r4 (0 : Int32) M h)
    · refine x_iconst (v := (1 : Int32)) C dX2_tryRows_25 (by decide) ?_
      refine q_goto (tgt := 30) C dX2_tryRows_26 (by decide) ?_
      exact q_msk [true, true, true, true, true, false, false, false] (jW_X2_tryRows_30 C hr l0 l1 l2 l3 r4 (1 : Int32) M h)
  · exact q_vret C dX2_tryRows_7 rfl (by decide) (by decide) (Option.some.inj h)
noncomputable def R_X2_tryRows : Nat → Nat → Nat → Int32 → Int32 → Int32 → q_Mem → Option (Unit × q_Mem)
  | 0 => fun _ _ _ _ _ _ => none
  | n + 1 => fun tag a0 b0 b1 b2 M => match tag with | _ => F_X2_tryRows (R_X2_tryRows n) a0 b0 b1 b2 M
set_option maxRecDepth 100000 in
theorem Rok_X2_tryRows (n : Nat) : Hr_X2_tryRows n (R_X2_tryRows n) := by
  induction n with
  | zero => exact fun l G => (fun a0 a1 a2 a3 M r M' h => by cases h)
  | succ n ih => exact fun l G => (fun a0 a1 a2 a3 M r M' h => cr_X2_tryRows ih a0 a1 a2 a3 M h)
theorem c_X2_tryRows (l : Launch) (G : q_G) (a0 : Nat) (a1 : Int32) (a2 : Int32) (a3 : Int32) (M : q_Mem) {r : Unit} {M' : q_Mem} (h : R_X2_tryRows 60 0 a0 a1 a2 a3 M = some (r, M')) : q_Met l G yX2_tryRows cX2_tryRows 8 (Option.none : Option Jvm.ClassFile.FieldType) 66 0 0 [.ref a0, .int a1, .int a2, .int a3] M none M' := (Rok_X2_tryRows 60 l G) a0 a1 a2 a3 M r M' h
noncomputable def F_X2_seekBest (l0 : Nat) (l1 : Nat) (l2 : Int32) (M : q_Mem) : Option (Unit × q_Mem) := (q_gR M l0 2 4 (fun c1 => q_nn c1 (fun r2 => (q_lR M 5 r2 (0 : Int32) (fun c3 => q_nn c3 (fun r4 => (q_ob M r4 8 ((F_X8_copyFrom r4 l1 M).bind (fun x => match x with | (_, M6) => (q_pI M6 l0 2 8 (0 : Int32) (fun M7 => (q_pI M7 l0 2 9 (-1000000 : Int32) (fun M8 => (q_ob M8 l0 2 ((R_X2_tryRows 60 0 l0 (0 : Int32) l2 (0 : Int32) M8).bind (fun x => match x with | (_, M10) => some ((), M10)))))))))))))))))
set_option maxRecDepth 100000 in
set_option maxHeartbeats 4000000 in
theorem c_X2_seekBest (l : Launch) (G : q_G) (l0 : Nat) (l1 : Nat) (l2 : Int32) (M : q_Mem) {r : Unit} {M' : q_Mem} (h : F_X2_seekBest l0 l1 l2 M = some (r, M')) : q_Met l G yX2_seekBest cX2_seekBest 3 (Option.none : Option Jvm.ClassFile.FieldType) 67 0 0 [.ref l0, .ref l1, .int l2] M none M' := by
  unfold F_X2_seekBest at h
  refine q_enter [some (.ref l0), some (.ref l1), some (.int l2)] (by decide) (Nat.le_of_ble_eq_true rfl) rfl (fun K C => ?_)
  refine q_aload_n C dX2_seekBest_0 rfl ?_
  refine x_getR (ci := 2) (j := 4) C dX2_seekBest_1 lkF_X2_18 rfl h (fun c1 h => ?_)
  refine x_nn h (fun r2 h => ?_)
  refine x_iconst (v := (0 : Int32)) C dX2_seekBest_4 (by decide) ?_
  refine x_aald C dX2_seekBest_5 (by decide) h (fun c3 h => ?_)
  refine x_nn h (fun r4 h => ?_)
  refine q_aload_n C dX2_seekBest_6 rfl ?_
  obtain ⟨hk, h⟩ := q_obE h
  obtain ⟨⟨_, M6⟩, e1, h⟩ := q_bind h
  refine x_callVv0 C dX2_seekBest_7 lkM_X2_57 mV_X8_copyFrom ⟨_, rfl, rfl⟩ hk (c_X8_copyFrom _ _ _ _ _ e1) rfl rfl (Nat.le_of_ble_eq_true rfl) (by decide) (by decide) ?_
  refine q_aload_n C dX2_seekBest_10 rfl ?_
  refine x_iconst (v := (0 : Int32)) C dX2_seekBest_11 (by decide) ?_
  refine x_putI (ci := 2) (j := 8) C dX2_seekBest_12 lkF_X2_33 (fun r hr => by cases hr; rfl) rfl h (fun M7 h => ?_)
  refine q_aload_n C dX2_seekBest_15 rfl ?_
  refine q_ldc (v := (-1000000 : Int32)) C dX2_seekBest_16 wd_929 ?_
  refine x_putI (ci := 2) (j := 9) C dX2_seekBest_18 lkF_X2_36 (fun r hr => by cases hr; rfl) rfl h (fun M8 h => ?_)
  refine q_aload_n C dX2_seekBest_21 rfl ?_
  refine x_iconst (v := (0 : Int32)) C dX2_seekBest_22 (by decide) ?_
  refine q_iload_n C dX2_seekBest_23 rfl ?_
  refine x_iconst (v := (0 : Int32)) C dX2_seekBest_24 (by decide) ?_
  obtain ⟨hk, h⟩ := q_obE h
  obtain ⟨⟨_, M10⟩, e1, h⟩ := q_bind h
  refine x_callVv0 C dX2_seekBest_25 lkM_X2_89 mV_X2_tryRows ⟨_, rfl, rfl⟩ hk (c_X2_tryRows _ _ _ _ _ _ _ e1) rfl rfl (Nat.le_of_ble_eq_true rfl) (by decide) (by decide) ?_
  exact q_vret C dX2_seekBest_28 rfl (by decide) (by decide) (Option.some.inj h)
noncomputable def J_X2_fewestMadeUp_72_10 (l0 : Nat) (l1 : Nat) (l2 : Int32) (l3 : Int32) (M : q_Mem) : Option ((Int32 × q_Mem) ⊕ ((Int32 × q_Mem) ⊕ (q_Mem))) := some (.inl ((l3 + (1 : Int32)), M))
set_option maxRecDepth 100000 in
set_option maxHeartbeats 4000000 in
theorem jW_X2_fewestMadeUp_72_10 {K : q_K} {Q : State → Prop} (C : q_C K yX2_fewestMadeUp cX2_fewestMadeUp 4 (Option.some Jvm.ClassFile.FieldType.int) 4 0 0) (l0 : Nat) (l1 : Nat) (l2 : Int32) (l3 : Int32) (M : q_Mem) {stp : (Int32 × q_Mem) ⊕ ((Int32 × q_Mem) ⊕ (q_Mem))} (h : J_X2_fewestMadeUp_72_10 l0 l1 l2 l3 M = some stp) (kC : ∀ (l3 : Int32) (M : q_Mem), stp = .inl (l3, M) → q_W K 4 Q 0 0 M 10 [some (.ref l0), some (.ref l1), some (.int l2), some (.int l3)] []) (kE0 : ∀ (l3 : Int32) (M : q_Mem), stp = .inr (.inl (l3, M)) → q_W K 4 Q 0 0 M 70 [none, none, none, some (.int l3)] []) (kE1 : ∀ (M : q_Mem), stp = .inr (.inr M) → q_W K 4 Q 0 0 M 78 [none, none, none, none] []) : q_W K 4 Q 0 0 M 72 [some (.ref l0), some (.ref l1), some (.int l2), some (.int l3)] [] := by
  unfold J_X2_fewestMadeUp_72_10 at h
  refine x_iinc (w := (1 : Int32)) (L' := [some (.ref l0), some (.ref l1), some (.int l2), some (.int (l3 + (1 : Int32)))]) C dX2_fewestMadeUp_72 rfl (by decide) (by decide) rfl rfl ?_
  refine q_goto (tgt := 10) C dX2_fewestMadeUp_75 (by decide) ?_
  exact q_msk [true, true, true, true] (kC _ _ (Option.some.inj h).symm)
noncomputable def B_X2_fewestMadeUp_10 (l0 : Nat) (l1 : Nat) (l2 : Int32) (l3 : Int32) (M : q_Mem) : Option ((Int32 × q_Mem) ⊕ ((Int32 × q_Mem) ⊕ (q_Mem))) := (q_gR M l1 8 0 (fun c5 => q_nn c5 (fun r6 => (q_lI M 0 r6 (1 : Int32) (fun v7 => (if v7 < l3 then some (.inr (.inr M)) else (q_gR M l0 2 3 (fun c8 => q_nn c8 (fun r9 => (q_gR M r9 8 0 (fun c10 => q_nn c10 (fun r11 => (q_gR M l1 8 0 (fun c12 => q_nn c12 (fun r13 => (q_lI M 0 r13 (1 : Int32) (fun v14 => (q_tI M r11 (1 : Int32) (v14 - l3) (fun M15 => (q_gR M15 l0 2 1 (fun c16 => q_nn c16 (fun r17 => (q_gR M15 l0 2 3 (fun c18 => q_nn c18 (fun r19 => (q_ob M15 r17 1 ((F_X1_lay r17 r19 M15).bind (fun x => match x with | (_, M21) => (q_gR M21 l0 2 1 (fun c22 => q_nn c22 (fun r23 => (q_gI M21 r23 1 7 (fun v24 => (if v24 = (-1 : Int32) then J_X2_fewestMadeUp_72_10 l0 l1 l2 l3 M21 else (q_gR M21 l0 2 1 (fun c25 => q_nn c25 (fun r26 => (q_gI M21 r26 1 8 (fun v27 => (if v27 < l2 then J_X2_fewestMadeUp_72_10 l0 l1 l2 l3 M21 else some (.inr (.inl (l3, M21)))))))))))))))))))))))))))))))))))))))))))
set_option maxRecDepth 100000 in
set_option maxHeartbeats 4000000 in
theorem bW_X2_fewestMadeUp_10 {K : q_K} {Q : State → Prop} (C : q_C K yX2_fewestMadeUp cX2_fewestMadeUp 4 (Option.some Jvm.ClassFile.FieldType.int) 4 0 0) (l0 : Nat) (l1 : Nat) (l2 : Int32) (l3 : Int32) (M : q_Mem) {stp : (Int32 × q_Mem) ⊕ ((Int32 × q_Mem) ⊕ (q_Mem))} (h : B_X2_fewestMadeUp_10 l0 l1 l2 l3 M = some stp) (kC : ∀ (l3 : Int32) (M : q_Mem), stp = .inl (l3, M) → q_W K 4 Q 0 0 M 10 [some (.ref l0), some (.ref l1), some (.int l2), some (.int l3)] []) (kE0 : ∀ (l3 : Int32) (M : q_Mem), stp = .inr (.inl (l3, M)) → q_W K 4 Q 0 0 M 70 [none, none, none, some (.int l3)] []) (kE1 : ∀ (M : q_Mem), stp = .inr (.inr M) → q_W K 4 Q 0 0 M 78 [none, none, none, none] []) : q_W K 4 Q 0 0 M 10 [some (.ref l0), some (.ref l1), some (.int l2), some (.int l3)] [] := by
  unfold B_X2_fewestMadeUp_10 at h
  refine q_iload_n C dX2_fewestMadeUp_10 rfl ?_
  refine q_aload_n C dX2_fewestMadeUp_11 rfl ?_
  refine x_getR (ci := 8) (j := 0) C dX2_fewestMadeUp_12 lkF_X2_98 rfl h (fun c5 h => ?_)
  refine x_nn h (fun r6 h => ?_)
  refine x_iconst (v := (1 : Int32)) C dX2_fewestMadeUp_15 (by decide) ?_
  refine x_iald C dX2_fewestMadeUp_16 h (fun v7 h => ?_)
  refine q_icmp_gt (tgt := 78) C dX2_fewestMadeUp_17 (by decide) h (fun _ h => ?_) (fun _ h => ?_)
  · exact q_msk [false, false, false, false] (kE1 _ (Option.some.inj h).symm)
  · refine q_aload_n C dX2_fewestMadeUp_20 rfl ?_
    refine x_getR (ci := 2) (j := 3) C dX2_fewestMadeUp_21 lkF_X2_14 rfl h (fun c8 h => ?_)
    refine x_nn h (fun r9 h => ?_)
    refine x_getR (ci := 8) (j := 0) C dX2_fewestMadeUp_24 lkF_X2_98 rfl h (fun c10 h => ?_)
    refine x_nn h (fun r11 h => ?_)
    refine x_iconst (v := (1 : Int32)) C dX2_fewestMadeUp_27 (by decide) ?_
    refine q_aload_n C dX2_fewestMadeUp_28 rfl ?_
    refine x_getR (ci := 8) (j := 0) C dX2_fewestMadeUp_29 lkF_X2_98 rfl h (fun c12 h => ?_)
    refine x_nn h (fun r13 h => ?_)
    refine x_iconst (v := (1 : Int32)) C dX2_fewestMadeUp_32 (by decide) ?_
    refine x_iald C dX2_fewestMadeUp_33 h (fun v14 h => ?_)
    refine q_iload_n C dX2_fewestMadeUp_34 rfl ?_
    refine q_isub C dX2_fewestMadeUp_35 ?_
    refine x_iast C dX2_fewestMadeUp_36 h (fun M15 h => ?_)
    refine q_aload_n C dX2_fewestMadeUp_37 rfl ?_
    refine x_getR (ci := 2) (j := 1) C dX2_fewestMadeUp_38 lkF_X2_49 rfl h (fun c16 h => ?_)
    refine x_nn h (fun r17 h => ?_)
    refine q_aload_n C dX2_fewestMadeUp_41 rfl ?_
    refine x_getR (ci := 2) (j := 3) C dX2_fewestMadeUp_42 lkF_X2_14 rfl h (fun c18 h => ?_)
    refine x_nn h (fun r19 h => ?_)
    obtain ⟨hk, h⟩ := q_obE h
    obtain ⟨⟨_, M21⟩, e1, h⟩ := q_bind h
    refine x_callVv0 C dX2_fewestMadeUp_45 lkM_X2_85 mV_X1_lay ⟨_, rfl, rfl⟩ hk (c_X1_lay _ _ _ _ _ e1) rfl rfl (Nat.le_of_ble_eq_true rfl) (by decide) (by decide) ?_
    refine q_aload_n C dX2_fewestMadeUp_48 rfl ?_
    refine x_getR (ci := 2) (j := 1) C dX2_fewestMadeUp_49 lkF_X2_49 rfl h (fun c22 h => ?_)
    refine x_nn h (fun r23 h => ?_)
    refine x_getI (ci := 1) (j := 7) C dX2_fewestMadeUp_52 lkF_X2_105 rfl h (fun v24 h => ?_)
    refine x_iconst (v := (-1 : Int32)) C dX2_fewestMadeUp_55 (by decide) ?_
    refine q_icmp_eq (tgt := 72) C dX2_fewestMadeUp_56 (by decide) h (fun _ h => ?_) (fun _ h => ?_)
    · exact q_msk [true, true, true, true] (jW_X2_fewestMadeUp_72_10 C l0 l1 l2 l3 M21 h kC kE0 kE1)
    · refine q_aload_n C dX2_fewestMadeUp_59 rfl ?_
      refine x_getR (ci := 2) (j := 1) C dX2_fewestMadeUp_60 lkF_X2_49 rfl h (fun c25 h => ?_)
      refine x_nn h (fun r26 h => ?_)
      refine x_getI (ci := 1) (j := 8) C dX2_fewestMadeUp_63 lkF_X2_108 rfl h (fun v27 h => ?_)
      refine q_iload_n C dX2_fewestMadeUp_66 rfl ?_
      refine q_icmp_lt (tgt := 72) C dX2_fewestMadeUp_67 (by decide) h (fun _ h => ?_) (fun _ h => ?_)
      · exact q_msk [true, true, true, true] (jW_X2_fewestMadeUp_72_10 C l0 l1 l2 l3 M21 h kC kE0 kE1)
      · exact q_msk [false, false, false, true] (kE0 _ _ (Option.some.inj h).symm)
set_option maxRecDepth 100000 in
set_option maxHeartbeats 4000000 in
theorem lW_X2_fewestMadeUp_10 {K : q_K} {Q : State → Prop} (C : q_C K yX2_fewestMadeUp cX2_fewestMadeUp 4 (Option.some Jvm.ClassFile.FieldType.int) 4 0 0) (l0 : Nat) (l1 : Nat) (l2 : Int32) (n : Nat) : ∀ (l3 : Int32) (M : q_Mem) (e : ((Int32 × q_Mem) ⊕ (q_Mem))), q_lp (fun s => B_X2_fewestMadeUp_10 l0 l1 l2 s.1 s.2) n (l3, M) = some e → (∀ (l3 : Int32) (M : q_Mem), e = (.inl (l3, M)) → q_W K 4 Q 0 0 M 70 [none, none, none, some (.int l3)] []) → (∀ (M : q_Mem), e = (.inr M) → q_W K 4 Q 0 0 M 78 [none, none, none, none] []) → q_W K 4 Q 0 0 M 10 [some (.ref l0), some (.ref l1), some (.int l2), some (.int l3)] [] := by
  induction n with
  | zero => intro l3 M e h; cases h
  | succ n ih =>
    intro l3 M e h kE0 kE1
    obtain ⟨stp, e1, e2⟩ := q_bind h
    refine bW_X2_fewestMadeUp_10 C l0 l1 l2 l3 M e1 (fun a0 a1 hs => ?_) (fun b0 b1 hs => ?_) (fun b0 hs => ?_)
    · subst hs; exact ih _ _ _ e2 kE0 kE1
    · subst hs; exact kE0 _ _ (Option.some.inj e2).symm
    · subst hs; exact kE1 _ (Option.some.inj e2).symm
noncomputable def F_X2_fewestMadeUp (l0 : Nat) (l1 : Nat) (l2 : Int32) (M : q_Mem) : Option (Int32 × q_Mem) := (q_gR M l0 2 3 (fun c1 => q_nn c1 (fun r2 => (q_ob M r2 8 ((F_X8_copyFrom r2 l1 M).bind (fun x => match x with | (_, M4) => (q_lp (fun s => B_X2_fewestMadeUp_10 l0 l1 l2 s.1 s.2) q_fu ((0 : Int32), M4)).bind (fun e28 => match e28 with | .inl (w29, M30) => some (w29, M30) | .inr M31 => some ((-1 : Int32), M31))))))))
set_option maxRecDepth 100000 in
set_option maxHeartbeats 4000000 in
theorem c_X2_fewestMadeUp (l : Launch) (G : q_G) (l0 : Nat) (l1 : Nat) (l2 : Int32) (M : q_Mem) {r : Int32} {M' : q_Mem} (h : F_X2_fewestMadeUp l0 l1 l2 M = some (r, M')) : q_Met l G yX2_fewestMadeUp cX2_fewestMadeUp 4 (Option.some Jvm.ClassFile.FieldType.int) 4 0 0 [.ref l0, .ref l1, .int l2] M (some (.int r)) M' := by
  unfold F_X2_fewestMadeUp at h
  refine q_enter [some (.ref l0), some (.ref l1), some (.int l2), none] (by decide) (Nat.le_of_ble_eq_true rfl) rfl (fun K C => ?_)
  refine q_aload_n C dX2_fewestMadeUp_0 rfl ?_
  refine x_getR (ci := 2) (j := 3) C dX2_fewestMadeUp_1 lkF_X2_14 rfl h (fun c1 h => ?_)
  refine x_nn h (fun r2 h => ?_)
  refine q_aload_n C dX2_fewestMadeUp_4 rfl ?_
  obtain ⟨hk, h⟩ := q_obE h
  obtain ⟨⟨_, M4⟩, e1, h⟩ := q_bind h
  refine x_callVv0 C dX2_fewestMadeUp_5 lkM_X2_57 mV_X8_copyFrom ⟨_, rfl, rfl⟩ hk (c_X8_copyFrom _ _ _ _ _ e1) rfl rfl (Nat.le_of_ble_eq_true rfl) (by decide) (by decide) ?_
  refine x_iconst (v := (0 : Int32)) C dX2_fewestMadeUp_8 (by decide) ?_
  refine q_istore_n (L' := [some (.ref l0), some (.ref l1), some (.int l2), some (.int (0 : Int32))]) C dX2_fewestMadeUp_9 (by decide) rfl rfl ?_
  obtain ⟨e28, he, h⟩ := q_bind h
  refine q_msk [true, true, true, true] (lW_X2_fewestMadeUp_10 C l0 l1 l2 q_fu _ _ _ he (fun w29 M30 hs => ?_) (fun M31 hs => ?_))
  · have hs := hs.symm
    subst hs
    refine q_iload_n C dX2_fewestMadeUp_70 rfl ?_
    exact q_iret C dX2_fewestMadeUp_71 rfl (by decide) (by decide) (Option.some.inj h)
  · have hs := hs.symm
    subst hs
    refine x_iconst (v := (-1 : Int32)) C dX2_fewestMadeUp_78 (by decide) ?_
    exact q_iret C dX2_fewestMadeUp_79 rfl (by decide) (by decide) (Option.some.inj h)
noncomputable def B_X2_daysToLeaving_10 (l0 : Nat) (l2 : Int32) (l3 : Int32) (M : q_Mem) : Option ((Int32 × q_Mem) ⊕ ((Int32 × q_Mem) ⊕ (q_Mem))) := (if (60 : Int32) < l3 then some (.inr (.inr M)) else (q_gR M l0 2 1 (fun c5 => q_nn c5 (fun r6 => (q_gR M l0 2 3 (fun c7 => q_nn c7 (fun r8 => (q_ob M r6 1 ((F_X1_pass r6 r8 M).bind (fun x => match x with | (_, M10) => (q_gR M10 l0 2 3 (fun c11 => q_nn c11 (fun r12 => (q_ob M10 r12 8 ((F_X8_hasLeft r12 l2 M10).bind (fun u13 => (if u13 = 0 then some (.inl ((l3 + (1 : Int32)), M10)) else some (.inr (.inl (l3, M10))))))))))))))))))))
set_option maxRecDepth 100000 in
set_option maxHeartbeats 4000000 in
theorem bW_X2_daysToLeaving_10 {K : q_K} {Q : State → Prop} (C : q_C K yX2_daysToLeaving cX2_daysToLeaving 4 (Option.some Jvm.ClassFile.FieldType.int) 6 0 0) (l0 : Nat) (l2 : Int32) (l3 : Int32) (M : q_Mem) {stp : (Int32 × q_Mem) ⊕ ((Int32 × q_Mem) ⊕ (q_Mem))} (h : B_X2_daysToLeaving_10 l0 l2 l3 M = some stp) (kC : ∀ (l3 : Int32) (M : q_Mem), stp = .inl (l3, M) → q_W K 4 Q 0 0 M 10 [some (.ref l0), none, some (.int l2), some (.int l3)] []) (kE0 : ∀ (l3 : Int32) (M : q_Mem), stp = .inr (.inl (l3, M)) → q_W K 4 Q 0 0 M 38 [none, none, none, some (.int l3)] []) (kE1 : ∀ (M : q_Mem), stp = .inr (.inr M) → q_W K 4 Q 0 0 M 46 [none, none, none, none] []) : q_W K 4 Q 0 0 M 10 [some (.ref l0), none, some (.int l2), some (.int l3)] [] := by
  unfold B_X2_daysToLeaving_10 at h
  refine q_iload_n C dX2_daysToLeaving_10 rfl ?_
  refine x_bipush (v := (60 : Int32)) C dX2_daysToLeaving_11 (by decide) ?_
  refine q_icmp_gt (tgt := 46) C dX2_daysToLeaving_13 (by decide) h (fun _ h => ?_) (fun _ h => ?_)
  · exact q_msk [false, false, false, false] (kE1 _ (Option.some.inj h).symm)
  · refine q_aload_n C dX2_daysToLeaving_16 rfl ?_
    refine x_getR (ci := 2) (j := 1) C dX2_daysToLeaving_17 lkF_X2_49 rfl h (fun c5 h => ?_)
    refine x_nn h (fun r6 h => ?_)
    refine q_aload_n C dX2_daysToLeaving_20 rfl ?_
    refine x_getR (ci := 2) (j := 3) C dX2_daysToLeaving_21 lkF_X2_14 rfl h (fun c7 h => ?_)
    refine x_nn h (fun r8 h => ?_)
    obtain ⟨hk, h⟩ := q_obE h
    obtain ⟨⟨_, M10⟩, e1, h⟩ := q_bind h
    refine x_callVv0 C dX2_daysToLeaving_24 lkM_X2_80 mV_X1_pass ⟨_, rfl, rfl⟩ hk (c_X1_pass _ _ _ _ _ e1) rfl rfl (Nat.le_of_ble_eq_true rfl) (by decide) (by decide) ?_
    refine q_aload_n C dX2_daysToLeaving_27 rfl ?_
    refine x_getR (ci := 2) (j := 3) C dX2_daysToLeaving_28 lkF_X2_14 rfl h (fun c11 h => ?_)
    refine x_nn h (fun r12 h => ?_)
    refine q_iload_n C dX2_daysToLeaving_31 rfl ?_
    obtain ⟨hk, h⟩ := q_obE h
    obtain ⟨u13, e1, h⟩ := q_bind h
    refine x_callV0 C dX2_daysToLeaving_32 lkM_X2_111 mV_X8_hasLeft ⟨_, rfl, rfl⟩ hk (c_X8_hasLeft _ _ _ _ _ e1) rfl rfl (Nat.le_of_ble_eq_true rfl) (by decide) (by decide) ?_
    refine q_if_eq (tgt := 40) C dX2_daysToLeaving_35 (by decide) h (fun _ h => ?_) (fun _ h => ?_)
    · refine x_iinc (w := (1 : Int32)) (L' := [some (.ref l0), none, some (.int l2), some (.int (l3 + (1 : Int32)))]) C dX2_daysToLeaving_40 rfl (by decide) (by decide) rfl rfl ?_
      refine q_goto (tgt := 10) C dX2_daysToLeaving_43 (by decide) ?_
      exact q_msk [true, false, true, true] (kC _ _ (Option.some.inj h).symm)
    · exact q_msk [false, false, false, true] (kE0 _ _ (Option.some.inj h).symm)
set_option maxRecDepth 100000 in
set_option maxHeartbeats 4000000 in
theorem lW_X2_daysToLeaving_10 {K : q_K} {Q : State → Prop} (C : q_C K yX2_daysToLeaving cX2_daysToLeaving 4 (Option.some Jvm.ClassFile.FieldType.int) 6 0 0) (l0 : Nat) (l2 : Int32) (n : Nat) : ∀ (l3 : Int32) (M : q_Mem) (e : ((Int32 × q_Mem) ⊕ (q_Mem))), q_lp (fun s => B_X2_daysToLeaving_10 l0 l2 s.1 s.2) n (l3, M) = some e → (∀ (l3 : Int32) (M : q_Mem), e = (.inl (l3, M)) → q_W K 4 Q 0 0 M 38 [none, none, none, some (.int l3)] []) → (∀ (M : q_Mem), e = (.inr M) → q_W K 4 Q 0 0 M 46 [none, none, none, none] []) → q_W K 4 Q 0 0 M 10 [some (.ref l0), none, some (.int l2), some (.int l3)] [] := by
  induction n with
  | zero => intro l3 M e h; cases h
  | succ n ih =>
    intro l3 M e h kE0 kE1
    obtain ⟨stp, e1, e2⟩ := q_bind h
    refine bW_X2_daysToLeaving_10 C l0 l2 l3 M e1 (fun a0 a1 hs => ?_) (fun b0 b1 hs => ?_) (fun b0 hs => ?_)
    · subst hs; exact ih _ _ _ e2 kE0 kE1
    · subst hs; exact kE0 _ _ (Option.some.inj e2).symm
    · subst hs; exact kE1 _ (Option.some.inj e2).symm
noncomputable def F_X2_daysToLeaving (l0 : Nat) (l1 : Nat) (l2 : Int32) (M : q_Mem) : Option (Int32 × q_Mem) := (q_gR M l0 2 3 (fun c1 => q_nn c1 (fun r2 => (q_ob M r2 8 ((F_X8_copyFrom r2 l1 M).bind (fun x => match x with | (_, M4) => (q_lp (fun s => B_X2_daysToLeaving_10 l0 l2 s.1 s.2) q_fu ((1 : Int32), M4)).bind (fun e14 => match e14 with | .inl (w15, M16) => some (w15, M16) | .inr M17 => some ((-1 : Int32), M17))))))))
set_option maxRecDepth 100000 in
set_option maxHeartbeats 4000000 in
theorem c_X2_daysToLeaving (l : Launch) (G : q_G) (l0 : Nat) (l1 : Nat) (l2 : Int32) (M : q_Mem) {r : Int32} {M' : q_Mem} (h : F_X2_daysToLeaving l0 l1 l2 M = some (r, M')) : q_Met l G yX2_daysToLeaving cX2_daysToLeaving 4 (Option.some Jvm.ClassFile.FieldType.int) 6 0 0 [.ref l0, .ref l1, .int l2] M (some (.int r)) M' := by
  unfold F_X2_daysToLeaving at h
  refine q_enter [some (.ref l0), some (.ref l1), some (.int l2), none] (by decide) (Nat.le_of_ble_eq_true rfl) rfl (fun K C => ?_)
  refine q_aload_n C dX2_daysToLeaving_0 rfl ?_
  refine x_getR (ci := 2) (j := 3) C dX2_daysToLeaving_1 lkF_X2_14 rfl h (fun c1 h => ?_)
  refine x_nn h (fun r2 h => ?_)
  refine q_aload_n C dX2_daysToLeaving_4 rfl ?_
  obtain ⟨hk, h⟩ := q_obE h
  obtain ⟨⟨_, M4⟩, e1, h⟩ := q_bind h
  refine x_callVv0 C dX2_daysToLeaving_5 lkM_X2_57 mV_X8_copyFrom ⟨_, rfl, rfl⟩ hk (c_X8_copyFrom _ _ _ _ _ e1) rfl rfl (Nat.le_of_ble_eq_true rfl) (by decide) (by decide) ?_
  refine x_iconst (v := (1 : Int32)) C dX2_daysToLeaving_8 (by decide) ?_
  refine q_istore_n (L' := [some (.ref l0), some (.ref l1), some (.int l2), some (.int (1 : Int32))]) C dX2_daysToLeaving_9 (by decide) rfl rfl ?_
  obtain ⟨e14, he, h⟩ := q_bind h
  refine q_msk [true, false, true, true] (lW_X2_daysToLeaving_10 C l0 l2 q_fu _ _ _ he (fun w15 M16 hs => ?_) (fun M17 hs => ?_))
  · have hs := hs.symm
    subst hs
    refine q_iload_n C dX2_daysToLeaving_38 rfl ?_
    exact q_iret C dX2_daysToLeaving_39 rfl (by decide) (by decide) (Option.some.inj h)
  · have hs := hs.symm
    subst hs
    refine x_iconst (v := (-1 : Int32)) C dX2_daysToLeaving_46 (by decide) ?_
    exact q_iret C dX2_daysToLeaving_47 rfl (by decide) (by decide) (Option.some.inj h)
noncomputable def J_X2_daysToNothing_49_10 (l0 : Nat) (l2 : Int32) (M : q_Mem) : Option ((Int32 × q_Mem) ⊕ ((Int32 × q_Mem) ⊕ (q_Mem))) := some (.inl ((l2 + (1 : Int32)), M))
set_option maxRecDepth 100000 in
set_option maxHeartbeats 4000000 in
theorem jW_X2_daysToNothing_49_10 {K : q_K} {Q : State → Prop} (C : q_C K yX2_daysToNothing cX2_daysToNothing 3 (Option.some Jvm.ClassFile.FieldType.int) 6 0 0) (l0 : Nat) (l2 : Int32) (M : q_Mem) {stp : (Int32 × q_Mem) ⊕ ((Int32 × q_Mem) ⊕ (q_Mem))} (h : J_X2_daysToNothing_49_10 l0 l2 M = some stp) (kC : ∀ (l2 : Int32) (M : q_Mem), stp = .inl (l2, M) → q_W K 3 Q 0 0 M 10 [some (.ref l0), none, some (.int l2)] []) (kE0 : ∀ (l2 : Int32) (M : q_Mem), stp = .inr (.inl (l2, M)) → q_W K 3 Q 0 0 M 47 [none, none, some (.int l2)] []) (kE1 : ∀ (M : q_Mem), stp = .inr (.inr M) → q_W K 3 Q 0 0 M 55 [none, none, none] []) : q_W K 3 Q 0 0 M 49 [some (.ref l0), none, some (.int l2)] [] := by
  unfold J_X2_daysToNothing_49_10 at h
  refine x_iinc (w := (1 : Int32)) (L' := [some (.ref l0), none, some (.int (l2 + (1 : Int32)))]) C dX2_daysToNothing_49 rfl (by decide) (by decide) rfl rfl ?_
  refine q_goto (tgt := 10) C dX2_daysToNothing_52 (by decide) ?_
  exact q_msk [true, false, true] (kC _ _ (Option.some.inj h).symm)
noncomputable def B_X2_daysToNothing_10 (l0 : Nat) (l2 : Int32) (M : q_Mem) : Option ((Int32 × q_Mem) ⊕ ((Int32 × q_Mem) ⊕ (q_Mem))) := (if (60 : Int32) < l2 then some (.inr (.inr M)) else (q_gR M l0 2 1 (fun c5 => q_nn c5 (fun r6 => (q_gR M l0 2 3 (fun c7 => q_nn c7 (fun r8 => (q_ob M r6 1 ((F_X1_pass r6 r8 M).bind (fun x => match x with | (_, M10) => (q_gR M10 l0 2 1 (fun c11 => q_nn c11 (fun r12 => (q_gI M10 r12 1 4 (fun v13 => (if v13 = 0 then J_X2_daysToNothing_49_10 l0 l2 M10 else (q_gR M10 l0 2 1 (fun c14 => q_nn c14 (fun r15 => (q_gI M10 r15 1 10 (fun v16 => (if v16 = 0 then some (.inr (.inl (l2, M10))) else J_X2_daysToNothing_49_10 l0 l2 M10))))))))))))))))))))))
set_option maxRecDepth 100000 in
set_option maxHeartbeats 4000000 in
theorem bW_X2_daysToNothing_10 {K : q_K} {Q : State → Prop} (C : q_C K yX2_daysToNothing cX2_daysToNothing 3 (Option.some Jvm.ClassFile.FieldType.int) 6 0 0) (l0 : Nat) (l2 : Int32) (M : q_Mem) {stp : (Int32 × q_Mem) ⊕ ((Int32 × q_Mem) ⊕ (q_Mem))} (h : B_X2_daysToNothing_10 l0 l2 M = some stp) (kC : ∀ (l2 : Int32) (M : q_Mem), stp = .inl (l2, M) → q_W K 3 Q 0 0 M 10 [some (.ref l0), none, some (.int l2)] []) (kE0 : ∀ (l2 : Int32) (M : q_Mem), stp = .inr (.inl (l2, M)) → q_W K 3 Q 0 0 M 47 [none, none, some (.int l2)] []) (kE1 : ∀ (M : q_Mem), stp = .inr (.inr M) → q_W K 3 Q 0 0 M 55 [none, none, none] []) : q_W K 3 Q 0 0 M 10 [some (.ref l0), none, some (.int l2)] [] := by
  unfold B_X2_daysToNothing_10 at h
  refine q_iload_n C dX2_daysToNothing_10 rfl ?_
  refine x_bipush (v := (60 : Int32)) C dX2_daysToNothing_11 (by decide) ?_
  refine q_icmp_gt (tgt := 55) C dX2_daysToNothing_13 (by decide) h (fun _ h => ?_) (fun _ h => ?_)
  · exact q_msk [false, false, false] (kE1 _ (Option.some.inj h).symm)
  · refine q_aload_n C dX2_daysToNothing_16 rfl ?_
    refine x_getR (ci := 2) (j := 1) C dX2_daysToNothing_17 lkF_X2_49 rfl h (fun c5 h => ?_)
    refine x_nn h (fun r6 h => ?_)
    refine q_aload_n C dX2_daysToNothing_20 rfl ?_
    refine x_getR (ci := 2) (j := 3) C dX2_daysToNothing_21 lkF_X2_14 rfl h (fun c7 h => ?_)
    refine x_nn h (fun r8 h => ?_)
    obtain ⟨hk, h⟩ := q_obE h
    obtain ⟨⟨_, M10⟩, e1, h⟩ := q_bind h
    refine x_callVv0 C dX2_daysToNothing_24 lkM_X2_80 mV_X1_pass ⟨_, rfl, rfl⟩ hk (c_X1_pass _ _ _ _ _ e1) rfl rfl (Nat.le_of_ble_eq_true rfl) (by decide) (by decide) ?_
    refine q_aload_n C dX2_daysToNothing_27 rfl ?_
    refine x_getR (ci := 2) (j := 1) C dX2_daysToNothing_28 lkF_X2_49 rfl h (fun c11 h => ?_)
    refine x_nn h (fun r12 h => ?_)
    refine x_getI (ci := 1) (j := 4) C dX2_daysToNothing_31 lkF_X2_115 rfl h (fun v13 h => ?_)
    refine q_if_eq (tgt := 49) C dX2_daysToNothing_34 (by decide) h (fun _ h => ?_) (fun _ h => ?_)
    · exact q_msk [true, false, true] (jW_X2_daysToNothing_49_10 C l0 l2 M10 h kC kE0 kE1)
    · refine q_aload_n C dX2_daysToNothing_37 rfl ?_
      refine x_getR (ci := 2) (j := 1) C dX2_daysToNothing_38 lkF_X2_49 rfl h (fun c14 h => ?_)
      refine x_nn h (fun r15 h => ?_)
      refine x_getI (ci := 1) (j := 10) C dX2_daysToNothing_41 lkF_X2_118 rfl h (fun v16 h => ?_)
      refine q_if_ne (tgt := 49) C dX2_daysToNothing_44 (by decide) h (fun _ h => ?_) (fun _ h => ?_)
      · exact q_msk [false, false, true] (kE0 _ _ (Option.some.inj h).symm)
      · exact q_msk [true, false, true] (jW_X2_daysToNothing_49_10 C l0 l2 M10 h kC kE0 kE1)
set_option maxRecDepth 100000 in
set_option maxHeartbeats 4000000 in
theorem lW_X2_daysToNothing_10 {K : q_K} {Q : State → Prop} (C : q_C K yX2_daysToNothing cX2_daysToNothing 3 (Option.some Jvm.ClassFile.FieldType.int) 6 0 0) (l0 : Nat) (n : Nat) : ∀ (l2 : Int32) (M : q_Mem) (e : ((Int32 × q_Mem) ⊕ (q_Mem))), q_lp (fun s => B_X2_daysToNothing_10 l0 s.1 s.2) n (l2, M) = some e → (∀ (l2 : Int32) (M : q_Mem), e = (.inl (l2, M)) → q_W K 3 Q 0 0 M 47 [none, none, some (.int l2)] []) → (∀ (M : q_Mem), e = (.inr M) → q_W K 3 Q 0 0 M 55 [none, none, none] []) → q_W K 3 Q 0 0 M 10 [some (.ref l0), none, some (.int l2)] [] := by
  induction n with
  | zero => intro l2 M e h; cases h
  | succ n ih =>
    intro l2 M e h kE0 kE1
    obtain ⟨stp, e1, e2⟩ := q_bind h
    refine bW_X2_daysToNothing_10 C l0 l2 M e1 (fun a0 a1 hs => ?_) (fun b0 b1 hs => ?_) (fun b0 hs => ?_)
    · subst hs; exact ih _ _ _ e2 kE0 kE1
    · subst hs; exact kE0 _ _ (Option.some.inj e2).symm
    · subst hs; exact kE1 _ (Option.some.inj e2).symm
noncomputable def F_X2_daysToNothing (l0 : Nat) (l1 : Nat) (M : q_Mem) : Option (Int32 × q_Mem) := (q_gR M l0 2 3 (fun c1 => q_nn c1 (fun r2 => (q_ob M r2 8 ((F_X8_copyFrom r2 l1 M).bind (fun x => match x with | (_, M4) => (q_lp (fun s => B_X2_daysToNothing_10 l0 s.1 s.2) q_fu ((0 : Int32), M4)).bind (fun e17 => match e17 with | .inl (w18, M19) => some (w18, M19) | .inr M20 => some ((-1 : Int32), M20))))))))
set_option maxRecDepth 100000 in
set_option maxHeartbeats 4000000 in
theorem c_X2_daysToNothing (l : Launch) (G : q_G) (l0 : Nat) (l1 : Nat) (M : q_Mem) {r : Int32} {M' : q_Mem} (h : F_X2_daysToNothing l0 l1 M = some (r, M')) : q_Met l G yX2_daysToNothing cX2_daysToNothing 3 (Option.some Jvm.ClassFile.FieldType.int) 6 0 0 [.ref l0, .ref l1] M (some (.int r)) M' := by
  unfold F_X2_daysToNothing at h
  refine q_enter [some (.ref l0), some (.ref l1), none] (by decide) (Nat.le_of_ble_eq_true rfl) rfl (fun K C => ?_)
  refine q_aload_n C dX2_daysToNothing_0 rfl ?_
  refine x_getR (ci := 2) (j := 3) C dX2_daysToNothing_1 lkF_X2_14 rfl h (fun c1 h => ?_)
  refine x_nn h (fun r2 h => ?_)
  refine q_aload_n C dX2_daysToNothing_4 rfl ?_
  obtain ⟨hk, h⟩ := q_obE h
  obtain ⟨⟨_, M4⟩, e1, h⟩ := q_bind h
  refine x_callVv0 C dX2_daysToNothing_5 lkM_X2_57 mV_X8_copyFrom ⟨_, rfl, rfl⟩ hk (c_X8_copyFrom _ _ _ _ _ e1) rfl rfl (Nat.le_of_ble_eq_true rfl) (by decide) (by decide) ?_
  refine x_iconst (v := (0 : Int32)) C dX2_daysToNothing_8 (by decide) ?_
  refine q_istore_n (L' := [some (.ref l0), some (.ref l1), some (.int (0 : Int32))]) C dX2_daysToNothing_9 (by decide) rfl rfl ?_
  obtain ⟨e17, he, h⟩ := q_bind h
  refine q_msk [true, false, true] (lW_X2_daysToNothing_10 C l0 q_fu _ _ _ he (fun w18 M19 hs => ?_) (fun M20 hs => ?_))
  · have hs := hs.symm
    subst hs
    refine q_iload_n C dX2_daysToNothing_47 rfl ?_
    exact q_iret C dX2_daysToNothing_48 rfl (by decide) (by decide) (Option.some.inj h)
  · have hs := hs.symm
    subst hs
    refine x_iconst (v := (-1 : Int32)) C dX2_daysToNothing_55 (by decide) ?_
    exact q_iret C dX2_daysToNothing_56 rfl (by decide) (by decide) (Option.some.inj h)
noncomputable def J_X2_fullestDay_55_15 (l0 : Nat) (l2 : Int32) (l3 : Int32) (l4 : Int32) (M : q_Mem) : Option ((Int32 × Int32 × Int32 × q_Mem) ⊕ (Int32 × q_Mem)) := some (.inl (l2, l3, (l4 + (1 : Int32)), M))
set_option maxRecDepth 100000 in
set_option maxHeartbeats 4000000 in
theorem jW_X2_fullestDay_55_15 {K : q_K} {Q : State → Prop} (C : q_C K yX2_fullestDay cX2_fullestDay 5 (Option.some Jvm.ClassFile.FieldType.int) 6 0 0) (l0 : Nat) (l2 : Int32) (l3 : Int32) (l4 : Int32) (M : q_Mem) {stp : (Int32 × Int32 × Int32 × q_Mem) ⊕ (Int32 × q_Mem)} (h : J_X2_fullestDay_55_15 l0 l2 l3 l4 M = some stp) (kC : ∀ (l2 : Int32) (l3 : Int32) (l4 : Int32) (M : q_Mem), stp = .inl (l2, l3, l4, M) → q_W K 5 Q 0 0 M 15 [some (.ref l0), none, some (.int l2), some (.int l3), some (.int l4)] []) (kE0 : ∀ (l2 : Int32) (M : q_Mem), stp = .inr (l2, M) → q_W K 5 Q 0 0 M 61 [none, none, some (.int l2), none, none] []) : q_W K 5 Q 0 0 M 55 [some (.ref l0), none, some (.int l2), some (.int l3), some (.int l4)] [] := by
  unfold J_X2_fullestDay_55_15 at h
  refine x_iinc (w := (1 : Int32)) (L' := [some (.ref l0), none, some (.int l2), some (.int l3), some (.int (l4 + (1 : Int32)))]) C dX2_fullestDay_55 rfl (by decide) (by decide) rfl rfl ?_
  refine q_goto (tgt := 15) C dX2_fullestDay_58 (by decide) ?_
  exact q_msk [true, false, true, true, true] (kC _ _ _ _ (Option.some.inj h).symm)
noncomputable def B_X2_fullestDay_15 (l0 : Nat) (l2 : Int32) (l3 : Int32) (l4 : Int32) (M : q_Mem) : Option ((Int32 × Int32 × Int32 × q_Mem) ⊕ (Int32 × q_Mem)) := (if l4 < (20 : Int32) then (q_gR M l0 2 1 (fun c5 => q_nn c5 (fun r6 => (q_gR M l0 2 3 (fun c7 => q_nn c7 (fun r8 => (q_ob M r6 1 ((F_X1_pass r6 r8 M).bind (fun x => match x with | (_, M10) => (q_gR M10 l0 2 1 (fun c11 => q_nn c11 (fun r12 => (q_gI M10 r12 1 6 (fun v13 => (if l3 < v13 then (q_gR M10 l0 2 1 (fun c14 => q_nn c14 (fun r15 => (q_gI M10 r15 1 6 (fun v16 => J_X2_fullestDay_55_15 l0 l4 v16 l4 M10))))) else J_X2_fullestDay_55_15 l0 l2 l3 l4 M10))))))))))))))) else some (.inr (l2, M)))
set_option maxRecDepth 100000 in
set_option maxHeartbeats 4000000 in
theorem bW_X2_fullestDay_15 {K : q_K} {Q : State → Prop} (C : q_C K yX2_fullestDay cX2_fullestDay 5 (Option.some Jvm.ClassFile.FieldType.int) 6 0 0) (l0 : Nat) (l2 : Int32) (l3 : Int32) (l4 : Int32) (M : q_Mem) {stp : (Int32 × Int32 × Int32 × q_Mem) ⊕ (Int32 × q_Mem)} (h : B_X2_fullestDay_15 l0 l2 l3 l4 M = some stp) (kC : ∀ (l2 : Int32) (l3 : Int32) (l4 : Int32) (M : q_Mem), stp = .inl (l2, l3, l4, M) → q_W K 5 Q 0 0 M 15 [some (.ref l0), none, some (.int l2), some (.int l3), some (.int l4)] []) (kE0 : ∀ (l2 : Int32) (M : q_Mem), stp = .inr (l2, M) → q_W K 5 Q 0 0 M 61 [none, none, some (.int l2), none, none] []) : q_W K 5 Q 0 0 M 15 [some (.ref l0), none, some (.int l2), some (.int l3), some (.int l4)] [] := by
  unfold B_X2_fullestDay_15 at h
  refine q_iload C dX2_fullestDay_15 rfl ?_
  refine x_bipush (v := (20 : Int32)) C dX2_fullestDay_17 (by decide) ?_
  refine q_icmp_ge (tgt := 61) C dX2_fullestDay_19 (by decide) h (fun _ h => ?_) (fun _ h => ?_)
  · refine q_aload_n C dX2_fullestDay_22 rfl ?_
    refine x_getR (ci := 2) (j := 1) C dX2_fullestDay_23 lkF_X2_49 rfl h (fun c5 h => ?_)
    refine x_nn h (fun r6 h => ?_)
    refine q_aload_n C dX2_fullestDay_26 rfl ?_
    refine x_getR (ci := 2) (j := 3) C dX2_fullestDay_27 lkF_X2_14 rfl h (fun c7 h => ?_)
    refine x_nn h (fun r8 h => ?_)
    obtain ⟨hk, h⟩ := q_obE h
    obtain ⟨⟨_, M10⟩, e1, h⟩ := q_bind h
    refine x_callVv0 C dX2_fullestDay_30 lkM_X2_80 mV_X1_pass ⟨_, rfl, rfl⟩ hk (c_X1_pass _ _ _ _ _ e1) rfl rfl (Nat.le_of_ble_eq_true rfl) (by decide) (by decide) ?_
    refine q_aload_n C dX2_fullestDay_33 rfl ?_
    refine x_getR (ci := 2) (j := 1) C dX2_fullestDay_34 lkF_X2_49 rfl h (fun c11 h => ?_)
    refine x_nn h (fun r12 h => ?_)
    refine x_getI (ci := 1) (j := 6) C dX2_fullestDay_37 lkF_X2_121 rfl h (fun v13 h => ?_)
    refine q_iload_n C dX2_fullestDay_40 rfl ?_
    refine q_icmp_le (tgt := 55) C dX2_fullestDay_41 (by decide) h (fun _ h => ?_) (fun _ h => ?_)
    · refine q_aload_n C dX2_fullestDay_44 rfl ?_
      refine x_getR (ci := 2) (j := 1) C dX2_fullestDay_45 lkF_X2_49 rfl h (fun c14 h => ?_)
      refine x_nn h (fun r15 h => ?_)
      refine x_getI (ci := 1) (j := 6) C dX2_fullestDay_48 lkF_X2_121 rfl h (fun v16 h => ?_)
      refine q_istore_n (L' := [some (.ref l0), none, some (.int l2), some (.int v16), some (.int l4)]) C dX2_fullestDay_51 (by decide) rfl rfl ?_
      refine q_iload C dX2_fullestDay_52 rfl ?_
      refine q_istore_n (L' := [some (.ref l0), none, some (.int l4), some (.int v16), some (.int l4)]) C dX2_fullestDay_54 (by decide) rfl rfl ?_
      exact q_msk [true, false, true, true, true] (jW_X2_fullestDay_55_15 C l0 l4 v16 l4 M10 h kC kE0)
    · exact q_msk [true, false, true, true, true] (jW_X2_fullestDay_55_15 C l0 l2 l3 l4 M10 h kC kE0)
  · exact q_msk [false, false, true, false, false] (kE0 _ _ (Option.some.inj h).symm)
set_option maxRecDepth 100000 in
set_option maxHeartbeats 4000000 in
theorem lW_X2_fullestDay_15 {K : q_K} {Q : State → Prop} (C : q_C K yX2_fullestDay cX2_fullestDay 5 (Option.some Jvm.ClassFile.FieldType.int) 6 0 0) (l0 : Nat) (n : Nat) : ∀ (l2 : Int32) (l3 : Int32) (l4 : Int32) (M : q_Mem) (e : (Int32 × q_Mem)), q_lp (fun s => B_X2_fullestDay_15 l0 s.1 s.2.1 s.2.2.1 s.2.2.2) n (l2, l3, l4, M) = some e → (∀ (l2 : Int32) (M : q_Mem), e = (l2, M) → q_W K 5 Q 0 0 M 61 [none, none, some (.int l2), none, none] []) → q_W K 5 Q 0 0 M 15 [some (.ref l0), none, some (.int l2), some (.int l3), some (.int l4)] [] := by
  induction n with
  | zero => intro l2 l3 l4 M e h; cases h
  | succ n ih =>
    intro l2 l3 l4 M e h kE0
    obtain ⟨stp, e1, e2⟩ := q_bind h
    refine bW_X2_fullestDay_15 C l0 l2 l3 l4 M e1 (fun a0 a1 a2 a3 hs => ?_) (fun b0 b1 hs => ?_)
    · subst hs; exact ih _ _ _ _ _ e2 kE0
    · subst hs; exact kE0 _ _ (Option.some.inj e2).symm
noncomputable def F_X2_fullestDay (l0 : Nat) (l1 : Nat) (M : q_Mem) : Option (Int32 × q_Mem) := (q_gR M l0 2 3 (fun c1 => q_nn c1 (fun r2 => (q_ob M r2 8 ((F_X8_copyFrom r2 l1 M).bind (fun x => match x with | (_, M4) => (q_lp (fun s => B_X2_fullestDay_15 l0 s.1 s.2.1 s.2.2.1 s.2.2.2) q_fu ((0 : Int32), (-1 : Int32), (0 : Int32), M4)).bind (fun e17 => match e17 with | (w18, M19) => some (w18, M19))))))))
set_option maxRecDepth 100000 in
set_option maxHeartbeats 4000000 in
theorem c_X2_fullestDay (l : Launch) (G : q_G) (l0 : Nat) (l1 : Nat) (M : q_Mem) {r : Int32} {M' : q_Mem} (h : F_X2_fullestDay l0 l1 M = some (r, M')) : q_Met l G yX2_fullestDay cX2_fullestDay 5 (Option.some Jvm.ClassFile.FieldType.int) 6 0 0 [.ref l0, .ref l1] M (some (.int r)) M' := by
  unfold F_X2_fullestDay at h
  refine q_enter [some (.ref l0), some (.ref l1), none, none, none] (by decide) (Nat.le_of_ble_eq_true rfl) rfl (fun K C => ?_)
  refine q_aload_n C dX2_fullestDay_0 rfl ?_
  refine x_getR (ci := 2) (j := 3) C dX2_fullestDay_1 lkF_X2_14 rfl h (fun c1 h => ?_)
  refine x_nn h (fun r2 h => ?_)
  refine q_aload_n C dX2_fullestDay_4 rfl ?_
  obtain ⟨hk, h⟩ := q_obE h
  obtain ⟨⟨_, M4⟩, e1, h⟩ := q_bind h
  refine x_callVv0 C dX2_fullestDay_5 lkM_X2_57 mV_X8_copyFrom ⟨_, rfl, rfl⟩ hk (c_X8_copyFrom _ _ _ _ _ e1) rfl rfl (Nat.le_of_ble_eq_true rfl) (by decide) (by decide) ?_
  refine x_iconst (v := (0 : Int32)) C dX2_fullestDay_8 (by decide) ?_
  refine q_istore_n (L' := [some (.ref l0), some (.ref l1), some (.int (0 : Int32)), none, none]) C dX2_fullestDay_9 (by decide) rfl rfl ?_
  refine x_iconst (v := (-1 : Int32)) C dX2_fullestDay_10 (by decide) ?_
  refine q_istore_n (L' := [some (.ref l0), some (.ref l1), some (.int (0 : Int32)), some (.int (-1 : Int32)), none]) C dX2_fullestDay_11 (by decide) rfl rfl ?_
  refine x_iconst (v := (0 : Int32)) C dX2_fullestDay_12 (by decide) ?_
  refine q_istore (L' := [some (.ref l0), some (.ref l1), some (.int (0 : Int32)), some (.int (-1 : Int32)), some (.int (0 : Int32))]) C dX2_fullestDay_13 (by decide) rfl rfl ?_
  obtain ⟨e17, he, h⟩ := q_bind h
  refine q_msk [true, false, true, true, true] (lW_X2_fullestDay_15 C l0 q_fu _ _ _ _ _ he (fun w18 M19 hs => ?_))
  · have hs := hs.symm
    subst hs
    refine q_iload_n C dX2_fullestDay_61 rfl ?_
    exact q_iret C dX2_fullestDay_62 rfl (by decide) (by decide) (Option.some.inj h)
noncomputable def J_X2_gainBesideJoy_19 (l0 : Nat) (l1 : Int32) (s0 : Int32) (M : q_Mem) : Option (Int32) := (q_gR M l0 2 1 (fun c4 => q_nn c4 (fun r5 => (q_gI M r5 1 4 (fun v6 => (if ((v6 >>> (l1 &&& 31)) &&& (1 : Int32)) = 0 then some s0 else (q_gR M l0 2 0 (fun c7 => q_nn c7 (fun r8 => (q_ob M r8 3 ((F_X3_ofGuest r8 l1 (3 : Int32) M).bind (fun u9 => some (s0 - u9)))))))))))))
set_option maxRecDepth 100000 in
set_option maxHeartbeats 4000000 in
theorem jW_X2_gainBesideJoy_19 {K : q_K} (C : q_C K yX2_gainBesideJoy cX2_gainBesideJoy 3 (Option.some Jvm.ClassFile.FieldType.int) 2 0 0) (l0 : Nat) (l1 : Int32) (s0 : Int32) (M : q_Mem) {r : Int32} (h : J_X2_gainBesideJoy_19 l0 l1 s0 M = some r) : q_W K 3 (q_Q K (some (.int r)) M 0 0) 0 0 M 19 [some (.ref l0), some (.int l1), none] [.int s0] := by
  unfold J_X2_gainBesideJoy_19 at h
  refine q_istore_n (L' := [some (.ref l0), some (.int l1), some (.int s0)]) C dX2_gainBesideJoy_19 (by decide) rfl rfl ?_
  refine q_aload_n C dX2_gainBesideJoy_20 rfl ?_
  refine x_getR (ci := 2) (j := 1) C dX2_gainBesideJoy_21 lkF_X2_49 rfl h (fun c4 h => ?_)
  refine x_nn h (fun r5 h => ?_)
  refine x_getI (ci := 1) (j := 4) C dX2_gainBesideJoy_24 lkF_X2_115 rfl h (fun v6 h => ?_)
  refine q_iload_n C dX2_gainBesideJoy_27 rfl ?_
  refine q_ishr C dX2_gainBesideJoy_28 ?_
  refine x_iconst (v := (1 : Int32)) C dX2_gainBesideJoy_29 (by decide) ?_
  refine q_iand C dX2_gainBesideJoy_30 ?_
  refine q_if_eq (tgt := 48) C dX2_gainBesideJoy_31 (by decide) h (fun _ h => ?_) (fun _ h => ?_)
  · refine q_iload_n C dX2_gainBesideJoy_48 rfl ?_
    exact q_iret (res := (r, M)) C dX2_gainBesideJoy_49 rfl (by decide) (by decide) (congrArg (fun z => (z, M)) (Option.some.inj h))
  · refine q_iload_n C dX2_gainBesideJoy_34 rfl ?_
    refine q_aload_n C dX2_gainBesideJoy_35 rfl ?_
    refine x_getR (ci := 2) (j := 0) C dX2_gainBesideJoy_36 lkF_X2_45 rfl h (fun c7 h => ?_)
    refine x_nn h (fun r8 h => ?_)
    refine q_iload_n C dX2_gainBesideJoy_39 rfl ?_
    refine x_iconst (v := (3 : Int32)) C dX2_gainBesideJoy_40 (by decide) ?_
    obtain ⟨hk, h⟩ := q_obE h
    obtain ⟨u9, e1, h⟩ := q_bind h
    refine x_callV0 C dX2_gainBesideJoy_41 lkM_X2_128 mV_X3_ofGuest ⟨_, rfl, rfl⟩ hk (c_X3_ofGuest _ _ _ _ _ _ e1) rfl rfl (Nat.le_of_ble_eq_true rfl) (by decide) (by decide) ?_
    refine q_isub C dX2_gainBesideJoy_44 ?_
    refine q_goto (tgt := 49) C dX2_gainBesideJoy_45 (by decide) ?_
    exact q_iret (res := (r, M)) C dX2_gainBesideJoy_49 rfl (by decide) (by decide) (congrArg (fun z => (z, M)) (Option.some.inj h))
noncomputable def F_X2_gainBesideJoy (l0 : Nat) (l1 : Int32) (M : q_Mem) : Option (Int32) := (q_gR M l0 2 1 (fun c1 => q_nn c1 (fun r2 => (q_gI M r2 1 10 (fun v3 => (if ((v3 >>> (l1 &&& 31)) &&& (1 : Int32)) = 0 then J_X2_gainBesideJoy_19 l0 l1 (0 : Int32) M else J_X2_gainBesideJoy_19 l0 l1 (2 : Int32) M))))))
set_option maxRecDepth 100000 in
set_option maxHeartbeats 4000000 in
theorem c_X2_gainBesideJoy (l : Launch) (G : q_G) (l0 : Nat) (l1 : Int32) (M : q_Mem) {r : Int32} (h : F_X2_gainBesideJoy l0 l1 M = some r) : q_Met l G yX2_gainBesideJoy cX2_gainBesideJoy 3 (Option.some Jvm.ClassFile.FieldType.int) 2 0 0 [.ref l0, .int l1] M (some (.int r)) M := by
  unfold F_X2_gainBesideJoy at h
  refine q_enter [some (.ref l0), some (.int l1), none] (by decide) (Nat.le_of_ble_eq_true rfl) rfl (fun K C => ?_)
  refine q_aload_n C dX2_gainBesideJoy_0 rfl ?_
  refine x_getR (ci := 2) (j := 1) C dX2_gainBesideJoy_1 lkF_X2_49 rfl h (fun c1 h => ?_)
  refine x_nn h (fun r2 h => ?_)
  refine x_getI (ci := 1) (j := 10) C dX2_gainBesideJoy_4 lkF_X2_118 rfl h (fun v3 h => ?_)
  refine q_iload_n C dX2_gainBesideJoy_7 rfl ?_
  refine q_ishr C dX2_gainBesideJoy_8 ?_
  refine x_iconst (v := (1 : Int32)) C dX2_gainBesideJoy_9 (by decide) ?_
  refine q_iand C dX2_gainBesideJoy_10 ?_
  refine q_if_eq (tgt := 18) C dX2_gainBesideJoy_11 (by decide) h (fun _ h => ?_) (fun _ h => ?_)
  · refine x_iconst (v := (0 : Int32)) C dX2_gainBesideJoy_18 (by decide) ?_
    exact q_msk [true, true, false] (jW_X2_gainBesideJoy_19 C l0 l1 (0 : Int32) M h)
  · refine x_iconst (v := (2 : Int32)) C dX2_gainBesideJoy_14 (by decide) ?_
    refine q_goto (tgt := 19) C dX2_gainBesideJoy_15 (by decide) ?_
    exact q_msk [true, true, false] (jW_X2_gainBesideJoy_19 C l0 l1 (2 : Int32) M h)
noncomputable def B_X2_play_55 (l0 : Nat) (l1 : Nat) (l2 : Int32) (l3 : Int32) (l6 : Int32) (M : q_Mem) : Option ((Int32 × q_Mem) ⊕ (q_Mem)) := (if l6 < (8 : Int32) then (q_gR M l0 2 1 (fun c19 => q_nn c19 (fun r20 => (q_gR M l0 2 3 (fun c21 => q_nn c21 (fun r22 => (q_ob M r20 1 ((F_X1_pass r20 r22 M).bind (fun x => match x with | (_, M24) => (q_gI M24 l0 2 10 (fun v25 => (q_ob M24 l0 2 ((F_X2_gainBesideJoy l0 l2 M24).bind (fun u26 => (q_pI M24 l0 2 10 (v25 + u26) (fun M27 => (q_gI M27 l0 2 11 (fun v28 => (q_ob M27 l0 2 ((F_X2_gainBesideJoy l0 l3 M27).bind (fun u29 => (q_pI M27 l0 2 11 (v28 + u29) (fun M30 => some (.inl ((l6 + (1 : Int32)), M30))))))))))))))))))))))))) else some (.inr M))
set_option maxRecDepth 100000 in
set_option maxHeartbeats 4000000 in
theorem bW_X2_play_55 {K : q_K} {Q : State → Prop} (C : q_C K yX2_play cX2_play 7 (Option.none : Option Jvm.ClassFile.FieldType) 6 0 0) (l0 : Nat) (l1 : Nat) (l2 : Int32) (l3 : Int32) (l6 : Int32) (M : q_Mem) {stp : (Int32 × q_Mem) ⊕ (q_Mem)} (h : B_X2_play_55 l0 l1 l2 l3 l6 M = some stp) (kC : ∀ (l6 : Int32) (M : q_Mem), stp = .inl (l6, M) → q_W K 7 Q 0 0 M 55 [some (.ref l0), some (.ref l1), some (.int l2), some (.int l3), none, none, some (.int l6)] []) (kE0 : ∀ (M : q_Mem), stp = .inr M → q_W K 7 Q 0 0 M 107 [some (.ref l0), some (.ref l1), some (.int l2), some (.int l3), none, none, none] []) : q_W K 7 Q 0 0 M 55 [some (.ref l0), some (.ref l1), some (.int l2), some (.int l3), none, none, some (.int l6)] [] := by
  unfold B_X2_play_55 at h
  refine q_iload C dX2_play_55 rfl ?_
  refine x_bipush (v := (8 : Int32)) C dX2_play_57 (by decide) ?_
  refine q_icmp_ge (tgt := 107) C dX2_play_59 (by decide) h (fun _ h => ?_) (fun _ h => ?_)
  · refine q_aload_n C dX2_play_62 rfl ?_
    refine x_getR (ci := 2) (j := 1) C dX2_play_63 lkF_X2_49 rfl h (fun c19 h => ?_)
    refine x_nn h (fun r20 h => ?_)
    refine q_aload_n C dX2_play_66 rfl ?_
    refine x_getR (ci := 2) (j := 3) C dX2_play_67 lkF_X2_14 rfl h (fun c21 h => ?_)
    refine x_nn h (fun r22 h => ?_)
    obtain ⟨hk, h⟩ := q_obE h
    obtain ⟨⟨_, M24⟩, e1, h⟩ := q_bind h
    refine x_callVv0 C dX2_play_70 lkM_X2_80 mV_X1_pass ⟨_, rfl, rfl⟩ hk (c_X1_pass _ _ _ _ _ e1) rfl rfl (Nat.le_of_ble_eq_true rfl) (by decide) (by decide) ?_
    refine q_aload_n C dX2_play_73 rfl ?_
    refine q_dup C dX2_play_74 rfl ?_
    refine x_getI (ci := 2) (j := 10) C dX2_play_75 lkF_X2_39 rfl h (fun v25 h => ?_)
    refine q_aload_n C dX2_play_78 rfl ?_
    refine q_iload_n C dX2_play_79 rfl ?_
    obtain ⟨hk, h⟩ := q_obE h
    obtain ⟨u26, e1, h⟩ := q_bind h
    refine x_callV0 C dX2_play_80 lkM_X2_124 mV_X2_gainBesideJoy ⟨_, rfl, rfl⟩ hk (c_X2_gainBesideJoy _ _ _ _ _ e1) rfl rfl (Nat.le_of_ble_eq_true rfl) (by decide) (by decide) ?_
    refine q_iadd C dX2_play_83 ?_
    refine x_putI (ci := 2) (j := 10) C dX2_play_84 lkF_X2_39 (fun r hr => by cases hr; rfl) rfl h (fun M27 h => ?_)
    refine q_aload_n C dX2_play_87 rfl ?_
    refine q_dup C dX2_play_88 rfl ?_
    refine x_getI (ci := 2) (j := 11) C dX2_play_89 lkF_X2_42 rfl h (fun v28 h => ?_)
    refine q_aload_n C dX2_play_92 rfl ?_
    refine q_iload_n C dX2_play_93 rfl ?_
    obtain ⟨hk, h⟩ := q_obE h
    obtain ⟨u29, e1, h⟩ := q_bind h
    refine x_callV0 C dX2_play_94 lkM_X2_124 mV_X2_gainBesideJoy ⟨_, rfl, rfl⟩ hk (c_X2_gainBesideJoy _ _ _ _ _ e1) rfl rfl (Nat.le_of_ble_eq_true rfl) (by decide) (by decide) ?_
    refine q_iadd C dX2_play_97 ?_
    refine x_putI (ci := 2) (j := 11) C dX2_play_98 lkF_X2_42 (fun r hr => by cases hr; rfl) rfl h (fun M30 h => ?_)
    refine x_iinc (w := (1 : Int32)) (L' := [some (.ref l0), some (.ref l1), some (.int l2), some (.int l3), none, none, some (.int (l6 + (1 : Int32)))]) C dX2_play_101 rfl (by decide) (by decide) rfl rfl ?_
    refine q_goto (tgt := 55) C dX2_play_104 (by decide) ?_
    exact q_msk [true, true, true, true, false, false, true] (kC _ _ (Option.some.inj h).symm)
  · exact q_msk [true, true, true, true, false, false, false] (kE0 _ (Option.some.inj h).symm)
set_option maxRecDepth 100000 in
set_option maxHeartbeats 4000000 in
theorem lW_X2_play_55 {K : q_K} {Q : State → Prop} (C : q_C K yX2_play cX2_play 7 (Option.none : Option Jvm.ClassFile.FieldType) 6 0 0) (l0 : Nat) (l1 : Nat) (l2 : Int32) (l3 : Int32) (n : Nat) : ∀ (l6 : Int32) (M : q_Mem) (e : (q_Mem)), q_lp (fun s => B_X2_play_55 l0 l1 l2 l3 s.1 s.2) n (l6, M) = some e → (∀ (M : q_Mem), e = M → q_W K 7 Q 0 0 M 107 [some (.ref l0), some (.ref l1), some (.int l2), some (.int l3), none, none, none] []) → q_W K 7 Q 0 0 M 55 [some (.ref l0), some (.ref l1), some (.int l2), some (.int l3), none, none, some (.int l6)] [] := by
  induction n with
  | zero => intro l6 M e h; cases h
  | succ n ih =>
    intro l6 M e h kE0
    obtain ⟨stp, e1, e2⟩ := q_bind h
    refine bW_X2_play_55 C l0 l1 l2 l3 l6 M e1 (fun a0 a1 hs => ?_) (fun b0 hs => ?_)
    · subst hs; exact ih _ _ _ e2 kE0
    · subst hs; exact kE0 _ (Option.some.inj e2).symm
noncomputable def F_X2_play (l0 : Nat) (l1 : Nat) (l2 : Int32) (l3 : Int32) (l4 : Int32) (l5 : Int32) (M : q_Mem) : Option (Unit × q_Mem) := (q_gR M l0 2 3 (fun c1 => q_nn c1 (fun r2 => (q_ob M r2 8 ((F_X8_copyFrom r2 l1 M).bind (fun x => match x with | (_, M4) => (q_gR M4 l0 2 3 (fun c5 => q_nn c5 (fun r6 => (q_gR M4 r6 8 0 (fun c7 => q_nn c7 (fun r8 => (q_lI M4 0 r8 ((13 : Int32) + l2) (fun v9 => (q_tI M4 r8 ((13 : Int32) + l2) (v9 + l4) (fun M10 => (q_gR M10 l0 2 3 (fun c11 => q_nn c11 (fun r12 => (q_gR M10 r12 8 0 (fun c13 => q_nn c13 (fun r14 => (q_lI M10 0 r14 ((13 : Int32) + l3) (fun v15 => (q_tI M10 r14 ((13 : Int32) + l3) (v15 + l5) (fun M16 => (q_pI M16 l0 2 10 (0 : Int32) (fun M17 => (q_pI M17 l0 2 11 (0 : Int32) (fun M18 => (q_lp (fun s => B_X2_play_55 l0 l1 l2 l3 s.1 s.2) q_fu ((0 : Int32), M18)).bind (fun e31 => match e31 with | M32 => (q_gI M32 l0 2 10 (fun v33 => (q_gR M32 l0 2 3 (fun c34 => q_nn c34 (fun r35 => (q_gR M32 r35 8 0 (fun c36 => q_nn c36 (fun r37 => (q_lI M32 0 r37 ((25 : Int32) + l2) (fun v38 => (q_gR M32 l1 8 0 (fun c39 => q_nn c39 (fun r40 => (q_lI M32 0 r40 ((25 : Int32) + l2) (fun v41 => (q_pI M32 l0 2 10 (v33 + (v38 - v41)) (fun M42 => (q_gI M42 l0 2 11 (fun v43 => (q_gR M42 l0 2 3 (fun c44 => q_nn c44 (fun r45 => (q_gR M42 r45 8 0 (fun c46 => q_nn c46 (fun r47 => (q_lI M42 0 r47 ((25 : Int32) + l3) (fun v48 => (q_gR M42 l1 8 0 (fun c49 => q_nn c49 (fun r50 => (q_lI M42 0 r50 ((25 : Int32) + l3) (fun v51 => (q_pI M42 l0 2 11 (v43 + (v48 - v51)) (fun M52 => some ((), M52))))))))))))))))))))))))))))))))))))))))))))))))))))))))))))))))))
set_option maxRecDepth 100000 in
set_option maxHeartbeats 4000000 in
theorem c_X2_play (l : Launch) (G : q_G) (l0 : Nat) (l1 : Nat) (l2 : Int32) (l3 : Int32) (l4 : Int32) (l5 : Int32) (M : q_Mem) {r : Unit} {M' : q_Mem} (h : F_X2_play l0 l1 l2 l3 l4 l5 M = some (r, M')) : q_Met l G yX2_play cX2_play 7 (Option.none : Option Jvm.ClassFile.FieldType) 6 0 0 [.ref l0, .ref l1, .int l2, .int l3, .int l4, .int l5] M none M' := by
  unfold F_X2_play at h
  refine q_enter [some (.ref l0), some (.ref l1), some (.int l2), some (.int l3), some (.int l4), some (.int l5), none] (by decide) (Nat.le_of_ble_eq_true rfl) rfl (fun K C => ?_)
  refine q_aload_n C dX2_play_0 rfl ?_
  refine x_getR (ci := 2) (j := 3) C dX2_play_1 lkF_X2_14 rfl h (fun c1 h => ?_)
  refine x_nn h (fun r2 h => ?_)
  refine q_aload_n C dX2_play_4 rfl ?_
  obtain ⟨hk, h⟩ := q_obE h
  obtain ⟨⟨_, M4⟩, e1, h⟩ := q_bind h
  refine x_callVv0 C dX2_play_5 lkM_X2_57 mV_X8_copyFrom ⟨_, rfl, rfl⟩ hk (c_X8_copyFrom _ _ _ _ _ e1) rfl rfl (Nat.le_of_ble_eq_true rfl) (by decide) (by decide) ?_
  refine q_aload_n C dX2_play_8 rfl ?_
  refine x_getR (ci := 2) (j := 3) C dX2_play_9 lkF_X2_14 rfl h (fun c5 h => ?_)
  refine x_nn h (fun r6 h => ?_)
  refine x_getR (ci := 8) (j := 0) C dX2_play_12 lkF_X2_98 rfl h (fun c7 h => ?_)
  refine x_nn h (fun r8 h => ?_)
  refine x_bipush (v := (13 : Int32)) C dX2_play_15 (by decide) ?_
  refine q_iload_n C dX2_play_17 rfl ?_
  refine q_iadd C dX2_play_18 ?_
  refine q_dup2 C dX2_play_19 rfl rfl ?_
  refine x_iald C dX2_play_20 h (fun v9 h => ?_)
  refine q_iload C dX2_play_21 rfl ?_
  refine q_iadd C dX2_play_23 ?_
  refine x_iast C dX2_play_24 h (fun M10 h => ?_)
  refine q_aload_n C dX2_play_25 rfl ?_
  refine x_getR (ci := 2) (j := 3) C dX2_play_26 lkF_X2_14 rfl h (fun c11 h => ?_)
  refine x_nn h (fun r12 h => ?_)
  refine x_getR (ci := 8) (j := 0) C dX2_play_29 lkF_X2_98 rfl h (fun c13 h => ?_)
  refine x_nn h (fun r14 h => ?_)
  refine x_bipush (v := (13 : Int32)) C dX2_play_32 (by decide) ?_
  refine q_iload_n C dX2_play_34 rfl ?_
  refine q_iadd C dX2_play_35 ?_
  refine q_dup2 C dX2_play_36 rfl rfl ?_
  refine x_iald C dX2_play_37 h (fun v15 h => ?_)
  refine q_iload C dX2_play_38 rfl ?_
  refine q_iadd C dX2_play_40 ?_
  refine x_iast C dX2_play_41 h (fun M16 h => ?_)
  refine q_aload_n C dX2_play_42 rfl ?_
  refine x_iconst (v := (0 : Int32)) C dX2_play_43 (by decide) ?_
  refine x_putI (ci := 2) (j := 10) C dX2_play_44 lkF_X2_39 (fun r hr => by cases hr; rfl) rfl h (fun M17 h => ?_)
  refine q_aload_n C dX2_play_47 rfl ?_
  refine x_iconst (v := (0 : Int32)) C dX2_play_48 (by decide) ?_
  refine x_putI (ci := 2) (j := 11) C dX2_play_49 lkF_X2_42 (fun r hr => by cases hr; rfl) rfl h (fun M18 h => ?_)
  refine x_iconst (v := (0 : Int32)) C dX2_play_52 (by decide) ?_
  refine q_istore (L' := [some (.ref l0), some (.ref l1), some (.int l2), some (.int l3), some (.int l4), some (.int l5), some (.int (0 : Int32))]) C dX2_play_53 (by decide) rfl rfl ?_
  obtain ⟨e31, he, h⟩ := q_bind h
  refine q_msk [true, true, true, true, false, false, true] (lW_X2_play_55 C l0 l1 l2 l3 q_fu _ _ _ he (fun M32 hs => ?_))
  · have hs := hs.symm
    subst hs
    refine q_aload_n C dX2_play_107 rfl ?_
    refine q_dup C dX2_play_108 rfl ?_
    refine x_getI (ci := 2) (j := 10) C dX2_play_109 lkF_X2_39 rfl h (fun v33 h => ?_)
    refine q_aload_n C dX2_play_112 rfl ?_
    refine x_getR (ci := 2) (j := 3) C dX2_play_113 lkF_X2_14 rfl h (fun c34 h => ?_)
    refine x_nn h (fun r35 h => ?_)
    refine x_getR (ci := 8) (j := 0) C dX2_play_116 lkF_X2_98 rfl h (fun c36 h => ?_)
    refine x_nn h (fun r37 h => ?_)
    refine x_bipush (v := (25 : Int32)) C dX2_play_119 (by decide) ?_
    refine q_iload_n C dX2_play_121 rfl ?_
    refine q_iadd C dX2_play_122 ?_
    refine x_iald C dX2_play_123 h (fun v38 h => ?_)
    refine q_aload_n C dX2_play_124 rfl ?_
    refine x_getR (ci := 8) (j := 0) C dX2_play_125 lkF_X2_98 rfl h (fun c39 h => ?_)
    refine x_nn h (fun r40 h => ?_)
    refine x_bipush (v := (25 : Int32)) C dX2_play_128 (by decide) ?_
    refine q_iload_n C dX2_play_130 rfl ?_
    refine q_iadd C dX2_play_131 ?_
    refine x_iald C dX2_play_132 h (fun v41 h => ?_)
    refine q_isub C dX2_play_133 ?_
    refine q_iadd C dX2_play_134 ?_
    refine x_putI (ci := 2) (j := 10) C dX2_play_135 lkF_X2_39 (fun r hr => by cases hr; rfl) rfl h (fun M42 h => ?_)
    refine q_aload_n C dX2_play_138 rfl ?_
    refine q_dup C dX2_play_139 rfl ?_
    refine x_getI (ci := 2) (j := 11) C dX2_play_140 lkF_X2_42 rfl h (fun v43 h => ?_)
    refine q_aload_n C dX2_play_143 rfl ?_
    refine x_getR (ci := 2) (j := 3) C dX2_play_144 lkF_X2_14 rfl h (fun c44 h => ?_)
    refine x_nn h (fun r45 h => ?_)
    refine x_getR (ci := 8) (j := 0) C dX2_play_147 lkF_X2_98 rfl h (fun c46 h => ?_)
    refine x_nn h (fun r47 h => ?_)
    refine x_bipush (v := (25 : Int32)) C dX2_play_150 (by decide) ?_
    refine q_iload_n C dX2_play_152 rfl ?_
    refine q_iadd C dX2_play_153 ?_
    refine x_iald C dX2_play_154 h (fun v48 h => ?_)
    refine q_aload_n C dX2_play_155 rfl ?_
    refine x_getR (ci := 8) (j := 0) C dX2_play_156 lkF_X2_98 rfl h (fun c49 h => ?_)
    refine x_nn h (fun r50 h => ?_)
    refine x_bipush (v := (25 : Int32)) C dX2_play_159 (by decide) ?_
    refine q_iload_n C dX2_play_161 rfl ?_
    refine q_iadd C dX2_play_162 ?_
    refine x_iald C dX2_play_163 h (fun v51 h => ?_)
    refine q_isub C dX2_play_164 ?_
    refine q_iadd C dX2_play_165 ?_
    refine x_putI (ci := 2) (j := 11) C dX2_play_166 lkF_X2_42 (fun r hr => by cases hr; rfl) rfl h (fun M52 h => ?_)
    exact q_vret C dX2_play_169 rfl (by decide) (by decide) (Option.some.inj h)
noncomputable def B_X2_playAll_3 (l0 : Nat) (l1 : Nat) (l2 : Int32) (l3 : Int32) (l4 : Int32) (M : q_Mem) : Option ((Int32 × q_Mem) ⊕ (q_Mem)) := (if l4 < (16 : Int32) then (q_dvi l4 (4 : Int32) (fun v1 => (q_rmi l4 (4 : Int32) (fun v2 => (q_ob M l0 2 ((F_X2_play l0 l1 l2 l3 v1 v2 M).bind (fun x => match x with | (_, M4) => (q_gR M4 l0 2 5 (fun c5 => q_nn c5 (fun r6 => (q_gI M4 l0 2 10 (fun v7 => (q_tI M4 r6 l4 v7 (fun M8 => (q_gR M8 l0 2 6 (fun c9 => q_nn c9 (fun r10 => (q_gI M8 l0 2 11 (fun v11 => (q_tI M8 r10 l4 v11 (fun M12 => some (.inl ((l4 + (1 : Int32)), M12))))))))))))))))))))))) else some (.inr M))
set_option maxRecDepth 100000 in
set_option maxHeartbeats 4000000 in
theorem bW_X2_playAll_3 {K : q_K} {Q : State → Prop} (C : q_C K yX2_playAll cX2_playAll 5 (Option.none : Option Jvm.ClassFile.FieldType) 7 0 0) (l0 : Nat) (l1 : Nat) (l2 : Int32) (l3 : Int32) (l4 : Int32) (M : q_Mem) {stp : (Int32 × q_Mem) ⊕ (q_Mem)} (h : B_X2_playAll_3 l0 l1 l2 l3 l4 M = some stp) (kC : ∀ (l4 : Int32) (M : q_Mem), stp = .inl (l4, M) → q_W K 5 Q 0 0 M 3 [some (.ref l0), some (.ref l1), some (.int l2), some (.int l3), some (.int l4)] []) (kE0 : ∀ (M : q_Mem), stp = .inr M → q_W K 5 Q 0 0 M 53 [none, none, none, none, none] []) : q_W K 5 Q 0 0 M 3 [some (.ref l0), some (.ref l1), some (.int l2), some (.int l3), some (.int l4)] [] := by
  unfold B_X2_playAll_3 at h
  refine q_iload C dX2_playAll_3 rfl ?_
  refine x_bipush (v := (16 : Int32)) C dX2_playAll_5 (by decide) ?_
  refine q_icmp_ge (tgt := 53) C dX2_playAll_7 (by decide) h (fun _ h => ?_) (fun _ h => ?_)
  · refine q_aload_n C dX2_playAll_10 rfl ?_
    refine q_aload_n C dX2_playAll_11 rfl ?_
    refine q_iload_n C dX2_playAll_12 rfl ?_
    refine q_iload_n C dX2_playAll_13 rfl ?_
    refine q_iload C dX2_playAll_14 rfl ?_
    refine x_iconst (v := (4 : Int32)) C dX2_playAll_16 (by decide) ?_
    refine q_idiv C dX2_playAll_17 h (fun v1 h => ?_)
    refine q_iload C dX2_playAll_18 rfl ?_
    refine x_iconst (v := (4 : Int32)) C dX2_playAll_20 (by decide) ?_
    refine q_irem C dX2_playAll_21 h (fun v2 h => ?_)
    obtain ⟨hk, h⟩ := q_obE h
    obtain ⟨⟨_, M4⟩, e1, h⟩ := q_bind h
    refine x_callVv0 C dX2_playAll_22 lkM_X2_131 mV_X2_play ⟨_, rfl, rfl⟩ hk (c_X2_play _ _ _ _ _ _ _ _ _ e1) rfl rfl (Nat.le_of_ble_eq_true rfl) (by decide) (by decide) ?_
    refine q_aload_n C dX2_playAll_25 rfl ?_
    refine x_getR (ci := 2) (j := 5) C dX2_playAll_26 lkF_X2_22 rfl h (fun c5 h => ?_)
    refine x_nn h (fun r6 h => ?_)
    refine q_iload C dX2_playAll_29 rfl ?_
    refine q_aload_n C dX2_playAll_31 rfl ?_
    refine x_getI (ci := 2) (j := 10) C dX2_playAll_32 lkF_X2_39 rfl h (fun v7 h => ?_)
    refine x_iast C dX2_playAll_35 h (fun M8 h => ?_)
    refine q_aload_n C dX2_playAll_36 rfl ?_
    refine x_getR (ci := 2) (j := 6) C dX2_playAll_37 lkF_X2_26 rfl h (fun c9 h => ?_)
    refine x_nn h (fun r10 h => ?_)
    refine q_iload C dX2_playAll_40 rfl ?_
    refine q_aload_n C dX2_playAll_42 rfl ?_
    refine x_getI (ci := 2) (j := 11) C dX2_playAll_43 lkF_X2_42 rfl h (fun v11 h => ?_)
    refine x_iast C dX2_playAll_46 h (fun M12 h => ?_)
    refine x_iinc (w := (1 : Int32)) (L' := [some (.ref l0), some (.ref l1), some (.int l2), some (.int l3), some (.int (l4 + (1 : Int32)))]) C dX2_playAll_47 rfl (by decide) (by decide) rfl rfl ?_
    refine q_goto (tgt := 3) C dX2_playAll_50 (by decide) ?_
    exact q_msk [true, true, true, true, true] (kC _ _ (Option.some.inj h).symm)
  · exact q_msk [false, false, false, false, false] (kE0 _ (Option.some.inj h).symm)
set_option maxRecDepth 100000 in
set_option maxHeartbeats 4000000 in
theorem lW_X2_playAll_3 {K : q_K} {Q : State → Prop} (C : q_C K yX2_playAll cX2_playAll 5 (Option.none : Option Jvm.ClassFile.FieldType) 7 0 0) (l0 : Nat) (l1 : Nat) (l2 : Int32) (l3 : Int32) (n : Nat) : ∀ (l4 : Int32) (M : q_Mem) (e : (q_Mem)), q_lp (fun s => B_X2_playAll_3 l0 l1 l2 l3 s.1 s.2) n (l4, M) = some e → (∀ (M : q_Mem), e = M → q_W K 5 Q 0 0 M 53 [none, none, none, none, none] []) → q_W K 5 Q 0 0 M 3 [some (.ref l0), some (.ref l1), some (.int l2), some (.int l3), some (.int l4)] [] := by
  induction n with
  | zero => intro l4 M e h; cases h
  | succ n ih =>
    intro l4 M e h kE0
    obtain ⟨stp, e1, e2⟩ := q_bind h
    refine bW_X2_playAll_3 C l0 l1 l2 l3 l4 M e1 (fun a0 a1 hs => ?_) (fun b0 hs => ?_)
    · subst hs; exact ih _ _ _ e2 kE0
    · subst hs; exact kE0 _ (Option.some.inj e2).symm
noncomputable def F_X2_playAll (l0 : Nat) (l1 : Nat) (l2 : Int32) (l3 : Int32) (M : q_Mem) : Option (Unit × q_Mem) := (q_lp (fun s => B_X2_playAll_3 l0 l1 l2 l3 s.1 s.2) q_fu ((0 : Int32), M)).bind (fun e13 => match e13 with | M14 => some ((), M14))
set_option maxRecDepth 100000 in
set_option maxHeartbeats 4000000 in
theorem c_X2_playAll (l : Launch) (G : q_G) (l0 : Nat) (l1 : Nat) (l2 : Int32) (l3 : Int32) (M : q_Mem) {r : Unit} {M' : q_Mem} (h : F_X2_playAll l0 l1 l2 l3 M = some (r, M')) : q_Met l G yX2_playAll cX2_playAll 5 (Option.none : Option Jvm.ClassFile.FieldType) 7 0 0 [.ref l0, .ref l1, .int l2, .int l3] M none M' := by
  unfold F_X2_playAll at h
  refine q_enter [some (.ref l0), some (.ref l1), some (.int l2), some (.int l3), none] (by decide) (Nat.le_of_ble_eq_true rfl) rfl (fun K C => ?_)
  refine x_iconst (v := (0 : Int32)) C dX2_playAll_0 (by decide) ?_
  refine q_istore (L' := [some (.ref l0), some (.ref l1), some (.int l2), some (.int l3), some (.int (0 : Int32))]) C dX2_playAll_1 (by decide) rfl rfl ?_
  obtain ⟨e13, he, h⟩ := q_bind h
  refine q_msk [true, true, true, true, true] (lW_X2_playAll_3 C l0 l1 l2 l3 q_fu _ _ _ he (fun M14 hs => ?_))
  · have hs := hs.symm
    subst hs
    exact q_vret C dX2_playAll_53 rfl (by decide) (by decide) (Option.some.inj h)
noncomputable def B_X2_isRest_9 (l0 : Nat) (l1 : Int32) (l2 : Int32) (l3 : Int32) (l4 : Int32) (M : q_Mem) : Option ((Int32) ⊕ ((Unit) ⊕ (Unit))) := (if l4 < (4 : Int32) then (q_gR M l0 2 5 (fun c1 => q_nn c1 (fun r2 => (q_lI M 0 r2 ((l4 * (4 : Int32)) + l2) (fun v3 => (q_gR M l0 2 5 (fun c4 => q_nn c4 (fun r5 => (q_lI M 0 r5 l3 (fun v6 => (if v6 < v3 then some (.inr (.inl ())) else (q_gR M l0 2 6 (fun c7 => q_nn c7 (fun r8 => (q_lI M 0 r8 ((l1 * (4 : Int32)) + l4) (fun v9 => (q_gR M l0 2 6 (fun c10 => q_nn c10 (fun r11 => (q_lI M 0 r11 l3 (fun v12 => (if v12 < v9 then some (.inr (.inl ())) else some (.inl (l4 + (1 : Int32))))))))))))))))))))))))) else some (.inr (.inr ())))
set_option maxRecDepth 100000 in
set_option maxHeartbeats 4000000 in
theorem bW_X2_isRest_9 {K : q_K} {Q : State → Prop} (C : q_C K yX2_isRest cX2_isRest 5 (Option.some Jvm.ClassFile.FieldType.boolean) 1 0 0) (l0 : Nat) (l1 : Int32) (l2 : Int32) (l3 : Int32) (l4 : Int32) (M : q_Mem) {stp : (Int32) ⊕ ((Unit) ⊕ (Unit))} (h : B_X2_isRest_9 l0 l1 l2 l3 l4 M = some stp) (kC : ∀ (l4 : Int32), stp = .inl l4 → q_W K 5 Q 0 0 M 9 [some (.ref l0), some (.int l1), some (.int l2), some (.int l3), some (.int l4)] []) (kE0 : stp = .inr (.inl ()) → q_W K 5 Q 0 0 M 55 [none, none, none, none, none] []) (kE1 : stp = .inr (.inr ()) → q_W K 5 Q 0 0 M 63 [none, none, none, none, none] []) : q_W K 5 Q 0 0 M 9 [some (.ref l0), some (.int l1), some (.int l2), some (.int l3), some (.int l4)] [] := by
  unfold B_X2_isRest_9 at h
  refine q_iload C dX2_isRest_9 rfl ?_
  refine x_iconst (v := (4 : Int32)) C dX2_isRest_11 (by decide) ?_
  refine q_icmp_ge (tgt := 63) C dX2_isRest_12 (by decide) h (fun _ h => ?_) (fun _ h => ?_)
  · refine q_aload_n C dX2_isRest_15 rfl ?_
    refine x_getR (ci := 2) (j := 5) C dX2_isRest_16 lkF_X2_22 rfl h (fun c1 h => ?_)
    refine x_nn h (fun r2 h => ?_)
    refine q_iload C dX2_isRest_19 rfl ?_
    refine x_iconst (v := (4 : Int32)) C dX2_isRest_21 (by decide) ?_
    refine q_imul C dX2_isRest_22 ?_
    refine q_iload_n C dX2_isRest_23 rfl ?_
    refine q_iadd C dX2_isRest_24 ?_
    refine x_iald C dX2_isRest_25 h (fun v3 h => ?_)
    refine q_aload_n C dX2_isRest_26 rfl ?_
    refine x_getR (ci := 2) (j := 5) C dX2_isRest_27 lkF_X2_22 rfl h (fun c4 h => ?_)
    refine x_nn h (fun r5 h => ?_)
    refine q_iload_n C dX2_isRest_30 rfl ?_
    refine x_iald C dX2_isRest_31 h (fun v6 h => ?_)
    refine q_icmp_gt (tgt := 55) C dX2_isRest_32 (by decide) h (fun _ h => ?_) (fun _ h => ?_)
    · exact q_msk [false, false, false, false, false] (kE0 (Option.some.inj h).symm)
    · refine q_aload_n C dX2_isRest_35 rfl ?_
      refine x_getR (ci := 2) (j := 6) C dX2_isRest_36 lkF_X2_26 rfl h (fun c7 h => ?_)
      refine x_nn h (fun r8 h => ?_)
      refine q_iload_n C dX2_isRest_39 rfl ?_
      refine x_iconst (v := (4 : Int32)) C dX2_isRest_40 (by decide) ?_
      refine q_imul C dX2_isRest_41 ?_
      refine q_iload C dX2_isRest_42 rfl ?_
      refine q_iadd C dX2_isRest_44 ?_
      refine x_iald C dX2_isRest_45 h (fun v9 h => ?_)
      refine q_aload_n C dX2_isRest_46 rfl ?_
      refine x_getR (ci := 2) (j := 6) C dX2_isRest_47 lkF_X2_26 rfl h (fun c10 h => ?_)
      refine x_nn h (fun r11 h => ?_)
      refine q_iload_n C dX2_isRest_50 rfl ?_
      refine x_iald C dX2_isRest_51 h (fun v12 h => ?_)
      refine q_icmp_le (tgt := 57) C dX2_isRest_52 (by decide) h (fun _ h => ?_) (fun _ h => ?_)
      · exact q_msk [false, false, false, false, false] (kE0 (Option.some.inj h).symm)
      · refine x_iinc (w := (1 : Int32)) (L' := [some (.ref l0), some (.int l1), some (.int l2), some (.int l3), some (.int (l4 + (1 : Int32)))]) C dX2_isRest_57 rfl (by decide) (by decide) rfl rfl ?_
        refine q_goto (tgt := 9) C dX2_isRest_60 (by decide) ?_
        exact q_msk [true, true, true, true, true] (kC _ (Option.some.inj h).symm)
  · exact q_msk [false, false, false, false, false] (kE1 (Option.some.inj h).symm)
set_option maxRecDepth 100000 in
set_option maxHeartbeats 4000000 in
theorem lW_X2_isRest_9 {K : q_K} {Q : State → Prop} (C : q_C K yX2_isRest cX2_isRest 5 (Option.some Jvm.ClassFile.FieldType.boolean) 1 0 0) (l0 : Nat) (l1 : Int32) (l2 : Int32) (l3 : Int32) (M : q_Mem) (n : Nat) : ∀ (l4 : Int32) (e : ((Unit) ⊕ (Unit))), q_lp (fun s => B_X2_isRest_9 l0 l1 l2 l3 s M) n l4 = some e → (e = (.inl ()) → q_W K 5 Q 0 0 M 55 [none, none, none, none, none] []) → (e = (.inr ()) → q_W K 5 Q 0 0 M 63 [none, none, none, none, none] []) → q_W K 5 Q 0 0 M 9 [some (.ref l0), some (.int l1), some (.int l2), some (.int l3), some (.int l4)] [] := by
  induction n with
  | zero => intro l4 e h; cases h
  | succ n ih =>
    intro l4 e h kE0 kE1
    obtain ⟨stp, e1, e2⟩ := q_bind h
    refine bW_X2_isRest_9 C l0 l1 l2 l3 l4 M e1 (fun a0 hs => ?_) (fun hs => ?_) (fun hs => ?_)
    · subst hs; exact ih _ _ e2 kE0 kE1
    · subst hs; exact kE0 (Option.some.inj e2).symm
    · subst hs; exact kE1 (Option.some.inj e2).symm
noncomputable def F_X2_isRest (l0 : Nat) (l1 : Int32) (l2 : Int32) (M : q_Mem) : Option (Int32) := (q_lp (fun s => B_X2_isRest_9 l0 l1 l2 ((l1 * (4 : Int32)) + l2) s M) q_fu (0 : Int32)).bind (fun e13 => match e13 with | .inl () => q_rq (0 : Int32) | .inr () => q_rq (1 : Int32))
set_option maxRecDepth 100000 in
set_option maxHeartbeats 4000000 in
theorem c_X2_isRest (l : Launch) (G : q_G) (l0 : Nat) (l1 : Int32) (l2 : Int32) (M : q_Mem) {r : Int32} (h : F_X2_isRest l0 l1 l2 M = some r) : q_Met l G yX2_isRest cX2_isRest 5 (Option.some Jvm.ClassFile.FieldType.boolean) 1 0 0 [.ref l0, .int l1, .int l2] M (some (.int r)) M := by
  unfold F_X2_isRest at h
  refine q_enter [some (.ref l0), some (.int l1), some (.int l2), none, none] (by decide) (Nat.le_of_ble_eq_true rfl) rfl (fun K C => ?_)
  refine q_iload_n C dX2_isRest_0 rfl ?_
  refine x_iconst (v := (4 : Int32)) C dX2_isRest_1 (by decide) ?_
  refine q_imul C dX2_isRest_2 ?_
  refine q_iload_n C dX2_isRest_3 rfl ?_
  refine q_iadd C dX2_isRest_4 ?_
  refine q_istore_n (L' := [some (.ref l0), some (.int l1), some (.int l2), some (.int ((l1 * (4 : Int32)) + l2)), none]) C dX2_isRest_5 (by decide) rfl rfl ?_
  refine x_iconst (v := (0 : Int32)) C dX2_isRest_6 (by decide) ?_
  refine q_istore (L' := [some (.ref l0), some (.int l1), some (.int l2), some (.int ((l1 * (4 : Int32)) + l2)), some (.int (0 : Int32))]) C dX2_isRest_7 (by decide) rfl rfl ?_
  obtain ⟨e13, he, h⟩ := q_bind h
  refine q_msk [true, true, true, true, true] (lW_X2_isRest_9 C l0 l1 l2 ((l1 * (4 : Int32)) + l2) M q_fu _ _ he (fun hs => ?_) (fun hs => ?_))
  · have hs := hs.symm
    subst hs
    refine x_iconst (v := (0 : Int32)) C dX2_isRest_55 (by decide) ?_
    exact q_zret (res := (r, M)) C dX2_isRest_56 rfl (by decide) (by decide) (q_rqE h).1 (congrArg (fun z => (z, M)) (q_rqE h).2)
  · have hs := hs.symm
    subst hs
    refine x_iconst (v := (1 : Int32)) C dX2_isRest_63 (by decide) ?_
    exact q_zret (res := (r, M)) C dX2_isRest_64 rfl (by decide) (by decide) (q_rqE h).1 (congrArg (fun z => (z, M)) (q_rqE h).2)
noncomputable def J_X2_restCount_26_4 (l0 : Nat) (l1 : Int32) (l2 : Int32) (M : q_Mem) : Option ((Int32 × Int32) ⊕ (Int32)) := some (.inl (l1, (l2 + (1 : Int32))))
set_option maxRecDepth 100000 in
set_option maxHeartbeats 4000000 in
theorem jW_X2_restCount_26_4 {K : q_K} {Q : State → Prop} (C : q_C K yX2_restCount cX2_restCount 3 (Option.some Jvm.ClassFile.FieldType.int) 2 0 0) (l0 : Nat) (l1 : Int32) (l2 : Int32) (M : q_Mem) {stp : (Int32 × Int32) ⊕ (Int32)} (h : J_X2_restCount_26_4 l0 l1 l2 M = some stp) (kC : ∀ (l1 : Int32) (l2 : Int32), stp = .inl (l1, l2) → q_W K 3 Q 0 0 M 4 [some (.ref l0), some (.int l1), some (.int l2)] []) (kE0 : ∀ (l1 : Int32), stp = .inr l1 → q_W K 3 Q 0 0 M 32 [none, some (.int l1), none] []) : q_W K 3 Q 0 0 M 26 [some (.ref l0), some (.int l1), some (.int l2)] [] := by
  unfold J_X2_restCount_26_4 at h
  refine x_iinc (w := (1 : Int32)) (L' := [some (.ref l0), some (.int l1), some (.int (l2 + (1 : Int32)))]) C dX2_restCount_26 rfl (by decide) (by decide) rfl rfl ?_
  refine q_goto (tgt := 4) C dX2_restCount_29 (by decide) ?_
  exact q_msk [true, true, true] (kC _ _ (Option.some.inj h).symm)
noncomputable def B_X2_restCount_4 (l0 : Nat) (l1 : Int32) (l2 : Int32) (M : q_Mem) : Option ((Int32 × Int32) ⊕ (Int32)) := (if l2 < (16 : Int32) then (q_dvi l2 (4 : Int32) (fun v1 => (q_rmi l2 (4 : Int32) (fun v2 => (q_ob M l0 2 ((F_X2_isRest l0 v1 v2 M).bind (fun u3 => (if u3 = 0 then J_X2_restCount_26_4 l0 l1 l2 M else J_X2_restCount_26_4 l0 (l1 + (1 : Int32)) l2 M)))))))) else some (.inr l1))
set_option maxRecDepth 100000 in
set_option maxHeartbeats 4000000 in
theorem bW_X2_restCount_4 {K : q_K} {Q : State → Prop} (C : q_C K yX2_restCount cX2_restCount 3 (Option.some Jvm.ClassFile.FieldType.int) 2 0 0) (l0 : Nat) (l1 : Int32) (l2 : Int32) (M : q_Mem) {stp : (Int32 × Int32) ⊕ (Int32)} (h : B_X2_restCount_4 l0 l1 l2 M = some stp) (kC : ∀ (l1 : Int32) (l2 : Int32), stp = .inl (l1, l2) → q_W K 3 Q 0 0 M 4 [some (.ref l0), some (.int l1), some (.int l2)] []) (kE0 : ∀ (l1 : Int32), stp = .inr l1 → q_W K 3 Q 0 0 M 32 [none, some (.int l1), none] []) : q_W K 3 Q 0 0 M 4 [some (.ref l0), some (.int l1), some (.int l2)] [] := by
  unfold B_X2_restCount_4 at h
  refine q_iload_n C dX2_restCount_4 rfl ?_
  refine x_bipush (v := (16 : Int32)) C dX2_restCount_5 (by decide) ?_
  refine q_icmp_ge (tgt := 32) C dX2_restCount_7 (by decide) h (fun _ h => ?_) (fun _ h => ?_)
  · refine q_aload_n C dX2_restCount_10 rfl ?_
    refine q_iload_n C dX2_restCount_11 rfl ?_
    refine x_iconst (v := (4 : Int32)) C dX2_restCount_12 (by decide) ?_
    refine q_idiv C dX2_restCount_13 h (fun v1 h => ?_)
    refine q_iload_n C dX2_restCount_14 rfl ?_
    refine x_iconst (v := (4 : Int32)) C dX2_restCount_15 (by decide) ?_
    refine q_irem C dX2_restCount_16 h (fun v2 h => ?_)
    obtain ⟨hk, h⟩ := q_obE h
    obtain ⟨u3, e1, h⟩ := q_bind h
    refine x_callV0 C dX2_restCount_17 lkM_X2_135 mV_X2_isRest ⟨_, rfl, rfl⟩ hk (c_X2_isRest _ _ _ _ _ _ e1) rfl rfl (Nat.le_of_ble_eq_true rfl) (by decide) (by decide) ?_
    refine q_if_eq (tgt := 26) C dX2_restCount_20 (by decide) h (fun _ h => ?_) (fun _ h => ?_)
    · exact q_msk [true, true, true] (jW_X2_restCount_26_4 C l0 l1 l2 M h kC kE0)
    · refine x_iinc (w := (1 : Int32)) (L' := [some (.ref l0), some (.int (l1 + (1 : Int32))), some (.int l2)]) C dX2_restCount_23 rfl (by decide) (by decide) rfl rfl ?_
      exact q_msk [true, true, true] (jW_X2_restCount_26_4 C l0 (l1 + (1 : Int32)) l2 M h kC kE0)
  · exact q_msk [false, true, false] (kE0 _ (Option.some.inj h).symm)
set_option maxRecDepth 100000 in
set_option maxHeartbeats 4000000 in
theorem lW_X2_restCount_4 {K : q_K} {Q : State → Prop} (C : q_C K yX2_restCount cX2_restCount 3 (Option.some Jvm.ClassFile.FieldType.int) 2 0 0) (l0 : Nat) (M : q_Mem) (n : Nat) : ∀ (l1 : Int32) (l2 : Int32) (e : (Int32)), q_lp (fun s => B_X2_restCount_4 l0 s.1 s.2 M) n (l1, l2) = some e → (∀ (l1 : Int32), e = l1 → q_W K 3 Q 0 0 M 32 [none, some (.int l1), none] []) → q_W K 3 Q 0 0 M 4 [some (.ref l0), some (.int l1), some (.int l2)] [] := by
  induction n with
  | zero => intro l1 l2 e h; cases h
  | succ n ih =>
    intro l1 l2 e h kE0
    obtain ⟨stp, e1, e2⟩ := q_bind h
    refine bW_X2_restCount_4 C l0 l1 l2 M e1 (fun a0 a1 hs => ?_) (fun b0 hs => ?_)
    · subst hs; exact ih _ _ _ e2 kE0
    · subst hs; exact kE0 _ (Option.some.inj e2).symm
noncomputable def F_X2_restCount (l0 : Nat) (M : q_Mem) : Option (Int32) := (q_lp (fun s => B_X2_restCount_4 l0 s.1 s.2 M) q_fu ((0 : Int32), (0 : Int32))).bind (fun e4 => match e4 with | w5 => some w5)
set_option maxRecDepth 100000 in
set_option maxHeartbeats 4000000 in
theorem c_X2_restCount (l : Launch) (G : q_G) (l0 : Nat) (M : q_Mem) {r : Int32} (h : F_X2_restCount l0 M = some r) : q_Met l G yX2_restCount cX2_restCount 3 (Option.some Jvm.ClassFile.FieldType.int) 2 0 0 [.ref l0] M (some (.int r)) M := by
  unfold F_X2_restCount at h
  refine q_enter [some (.ref l0), none, none] (by decide) (Nat.le_of_ble_eq_true rfl) rfl (fun K C => ?_)
  refine x_iconst (v := (0 : Int32)) C dX2_restCount_0 (by decide) ?_
  refine q_istore_n (L' := [some (.ref l0), some (.int (0 : Int32)), none]) C dX2_restCount_1 (by decide) rfl rfl ?_
  refine x_iconst (v := (0 : Int32)) C dX2_restCount_2 (by decide) ?_
  refine q_istore_n (L' := [some (.ref l0), some (.int (0 : Int32)), some (.int (0 : Int32))]) C dX2_restCount_3 (by decide) rfl rfl ?_
  obtain ⟨e4, he, h⟩ := q_bind h
  refine q_msk [true, true, true] (lW_X2_restCount_4 C l0 M q_fu _ _ _ he (fun w5 hs => ?_))
  · have hs := hs.symm
    subst hs
    refine q_iload_n C dX2_restCount_32 rfl ?_
    exact q_iret (res := (r, M)) C dX2_restCount_33 rfl (by decide) (by decide) (congrArg (fun z => (z, M)) (Option.some.inj h))
noncomputable def J_X2_restAt_48_4 (l0 : Nat) (l1 : Int32) (l2 : Int32) (l3 : Int32) (M : q_Mem) : Option ((Int32 × Int32) ⊕ ((Int32 × Int32) ⊕ (Unit))) := some (.inl (l2, (l3 + (1 : Int32))))
set_option maxRecDepth 100000 in
set_option maxHeartbeats 4000000 in
theorem jW_X2_restAt_48_4 {K : q_K} {Q : State → Prop} (C : q_C K yX2_restAt cX2_restAt 6 (Option.some Jvm.ClassFile.FieldType.int) 2 0 0) (l0 : Nat) (l1 : Int32) (l2 : Int32) (l3 : Int32) (M : q_Mem) {stp : (Int32 × Int32) ⊕ ((Int32 × Int32) ⊕ (Unit))} (h : J_X2_restAt_48_4 l0 l1 l2 l3 M = some stp) (kC : ∀ (l2 : Int32) (l3 : Int32), stp = .inl (l2, l3) → q_W K 6 Q 0 0 M 4 [some (.ref l0), some (.int l1), some (.int l2), some (.int l3), none, none] []) (kE0 : ∀ (l4 : Int32) (l5 : Int32), stp = .inr (.inl (l4, l5)) → q_W K 6 Q 0 0 M 36 [none, none, none, none, some (.int l4), some (.int l5)] []) (kE1 : stp = .inr (.inr ()) → q_W K 6 Q 0 0 M 54 [none, none, none, none, none, none] []) : q_W K 6 Q 0 0 M 48 [some (.ref l0), some (.int l1), some (.int l2), some (.int l3), none, none] [] := by
  unfold J_X2_restAt_48_4 at h
  refine x_iinc (w := (1 : Int32)) (L' := [some (.ref l0), some (.int l1), some (.int l2), some (.int (l3 + (1 : Int32))), none, none]) C dX2_restAt_48 rfl (by decide) (by decide) rfl rfl ?_
  refine q_goto (tgt := 4) C dX2_restAt_51 (by decide) ?_
  exact q_msk [true, true, true, true, false, false] (kC _ _ (Option.some.inj h).symm)
noncomputable def B_X2_restAt_4 (l0 : Nat) (l1 : Int32) (l2 : Int32) (l3 : Int32) (M : q_Mem) : Option ((Int32 × Int32) ⊕ ((Int32 × Int32) ⊕ (Unit))) := (if l3 < (16 : Int32) then (q_dvi l3 (4 : Int32) (fun v1 => (q_rmi l3 (4 : Int32) (fun v2 => (q_ob M l0 2 ((F_X2_isRest l0 v1 v2 M).bind (fun u3 => (if u3 = 0 then J_X2_restAt_48_4 l0 l1 l2 l3 M else (if l2 = l1 then some (.inr (.inl (v1, v2))) else J_X2_restAt_48_4 l0 l1 (l2 + (1 : Int32)) l3 M))))))))) else some (.inr (.inr ())))
set_option maxRecDepth 100000 in
set_option maxHeartbeats 4000000 in
theorem bW_X2_restAt_4 {K : q_K} {Q : State → Prop} (C : q_C K yX2_restAt cX2_restAt 6 (Option.some Jvm.ClassFile.FieldType.int) 2 0 0) (l0 : Nat) (l1 : Int32) (l2 : Int32) (l3 : Int32) (M : q_Mem) {stp : (Int32 × Int32) ⊕ ((Int32 × Int32) ⊕ (Unit))} (h : B_X2_restAt_4 l0 l1 l2 l3 M = some stp) (kC : ∀ (l2 : Int32) (l3 : Int32), stp = .inl (l2, l3) → q_W K 6 Q 0 0 M 4 [some (.ref l0), some (.int l1), some (.int l2), some (.int l3), none, none] []) (kE0 : ∀ (l4 : Int32) (l5 : Int32), stp = .inr (.inl (l4, l5)) → q_W K 6 Q 0 0 M 36 [none, none, none, none, some (.int l4), some (.int l5)] []) (kE1 : stp = .inr (.inr ()) → q_W K 6 Q 0 0 M 54 [none, none, none, none, none, none] []) : q_W K 6 Q 0 0 M 4 [some (.ref l0), some (.int l1), some (.int l2), some (.int l3), none, none] [] := by
  unfold B_X2_restAt_4 at h
  refine q_iload_n C dX2_restAt_4 rfl ?_
  refine x_bipush (v := (16 : Int32)) C dX2_restAt_5 (by decide) ?_
  refine q_icmp_ge (tgt := 54) C dX2_restAt_7 (by decide) h (fun _ h => ?_) (fun _ h => ?_)
  · refine q_iload_n C dX2_restAt_10 rfl ?_
    refine x_iconst (v := (4 : Int32)) C dX2_restAt_11 (by decide) ?_
    refine q_idiv C dX2_restAt_12 h (fun v1 h => ?_)
    refine q_istore (L' := [some (.ref l0), some (.int l1), some (.int l2), some (.int l3), some (.int v1), none]) C dX2_restAt_13 (by decide) rfl rfl ?_
    refine q_iload_n C dX2_restAt_15 rfl ?_
    refine x_iconst (v := (4 : Int32)) C dX2_restAt_16 (by decide) ?_
    refine q_irem C dX2_restAt_17 h (fun v2 h => ?_)
    refine q_istore (L' := [some (.ref l0), some (.int l1), some (.int l2), some (.int l3), some (.int v1), some (.int v2)]) C dX2_restAt_18 (by decide) rfl rfl ?_
    refine q_aload_n C dX2_restAt_20 rfl ?_
    refine q_iload C dX2_restAt_21 rfl ?_
    refine q_iload C dX2_restAt_23 rfl ?_
    obtain ⟨hk, h⟩ := q_obE h
    obtain ⟨u3, e1, h⟩ := q_bind h
    refine x_callV0 C dX2_restAt_25 lkM_X2_135 mV_X2_isRest ⟨_, rfl, rfl⟩ hk (c_X2_isRest _ _ _ _ _ _ e1) rfl rfl (Nat.le_of_ble_eq_true rfl) (by decide) (by decide) ?_
    refine q_if_eq (tgt := 48) C dX2_restAt_28 (by decide) h (fun _ h => ?_) (fun _ h => ?_)
    · exact q_msk [true, true, true, true, false, false] (jW_X2_restAt_48_4 C l0 l1 l2 l3 M h kC kE0 kE1)
    · refine q_iload_n C dX2_restAt_31 rfl ?_
      refine q_iload_n C dX2_restAt_32 rfl ?_
      refine q_icmp_ne (tgt := 45) C dX2_restAt_33 (by decide) h (fun _ h => ?_) (fun _ h => ?_)
      · exact q_msk [false, false, false, false, true, true] (kE0 _ _ (Option.some.inj h).symm)
      · refine x_iinc (w := (1 : Int32)) (L' := [some (.ref l0), some (.int l1), some (.int (l2 + (1 : Int32))), some (.int l3), some (.int v1), some (.int v2)]) C dX2_restAt_45 rfl (by decide) (by decide) rfl rfl ?_
        exact q_msk [true, true, true, true, false, false] (jW_X2_restAt_48_4 C l0 l1 (l2 + (1 : Int32)) l3 M h kC kE0 kE1)
  · exact q_msk [false, false, false, false, false, false] (kE1 (Option.some.inj h).symm)
set_option maxRecDepth 100000 in
set_option maxHeartbeats 4000000 in
theorem lW_X2_restAt_4 {K : q_K} {Q : State → Prop} (C : q_C K yX2_restAt cX2_restAt 6 (Option.some Jvm.ClassFile.FieldType.int) 2 0 0) (l0 : Nat) (l1 : Int32) (M : q_Mem) (n : Nat) : ∀ (l2 : Int32) (l3 : Int32) (e : ((Int32 × Int32) ⊕ (Unit))), q_lp (fun s => B_X2_restAt_4 l0 l1 s.1 s.2 M) n (l2, l3) = some e → (∀ (l4 : Int32) (l5 : Int32), e = (.inl (l4, l5)) → q_W K 6 Q 0 0 M 36 [none, none, none, none, some (.int l4), some (.int l5)] []) → (e = (.inr ()) → q_W K 6 Q 0 0 M 54 [none, none, none, none, none, none] []) → q_W K 6 Q 0 0 M 4 [some (.ref l0), some (.int l1), some (.int l2), some (.int l3), none, none] [] := by
  induction n with
  | zero => intro l2 l3 e h; cases h
  | succ n ih =>
    intro l2 l3 e h kE0 kE1
    obtain ⟨stp, e1, e2⟩ := q_bind h
    refine bW_X2_restAt_4 C l0 l1 l2 l3 M e1 (fun a0 a1 hs => ?_) (fun b0 b1 hs => ?_) (fun hs => ?_)
    · subst hs; exact ih _ _ _ e2 kE0 kE1
    · subst hs; exact kE0 _ _ (Option.some.inj e2).symm
    · subst hs; exact kE1 (Option.some.inj e2).symm
noncomputable def F_X2_restAt (l0 : Nat) (l1 : Int32) (M : q_Mem) : Option (Int32) := (q_lp (fun s => B_X2_restAt_4 l0 l1 s.1 s.2 M) q_fu ((0 : Int32), (0 : Int32))).bind (fun e4 => match e4 with | .inl (w5, w6) => some (((10 : Int32) * w5) + w6) | .inr () => some (-1 : Int32))
set_option maxRecDepth 100000 in
set_option maxHeartbeats 4000000 in
theorem c_X2_restAt (l : Launch) (G : q_G) (l0 : Nat) (l1 : Int32) (M : q_Mem) {r : Int32} (h : F_X2_restAt l0 l1 M = some r) : q_Met l G yX2_restAt cX2_restAt 6 (Option.some Jvm.ClassFile.FieldType.int) 2 0 0 [.ref l0, .int l1] M (some (.int r)) M := by
  unfold F_X2_restAt at h
  refine q_enter [some (.ref l0), some (.int l1), none, none, none, none] (by decide) (Nat.le_of_ble_eq_true rfl) rfl (fun K C => ?_)
  refine x_iconst (v := (0 : Int32)) C dX2_restAt_0 (by decide) ?_
  refine q_istore_n (L' := [some (.ref l0), some (.int l1), some (.int (0 : Int32)), none, none, none]) C dX2_restAt_1 (by decide) rfl rfl ?_
  refine x_iconst (v := (0 : Int32)) C dX2_restAt_2 (by decide) ?_
  refine q_istore_n (L' := [some (.ref l0), some (.int l1), some (.int (0 : Int32)), some (.int (0 : Int32)), none, none]) C dX2_restAt_3 (by decide) rfl rfl ?_
  obtain ⟨e4, he, h⟩ := q_bind h
  refine q_msk [true, true, true, true, false, false] (lW_X2_restAt_4 C l0 l1 M q_fu _ _ _ he (fun w5 w6 hs => ?_) (fun hs => ?_))
  · have hs := hs.symm
    subst hs
    refine x_bipush (v := (10 : Int32)) C dX2_restAt_36 (by decide) ?_
    refine q_iload C dX2_restAt_38 rfl ?_
    refine q_imul C dX2_restAt_40 ?_
    refine q_iload C dX2_restAt_41 rfl ?_
    refine q_iadd C dX2_restAt_43 ?_
    exact q_iret (res := (r, M)) C dX2_restAt_44 rfl (by decide) (by decide) (congrArg (fun z => (z, M)) (Option.some.inj h))
  · have hs := hs.symm
    subst hs
    refine x_iconst (v := (-1 : Int32)) C dX2_restAt_54 (by decide) ?_
    exact q_iret (res := (r, M)) C dX2_restAt_55 rfl (by decide) (by decide) (congrArg (fun z => (z, M)) (Option.some.inj h))
def Hr_X2_partsFed (n0 : Nat) (rec : (Nat → Nat → Int32 → Int32 → Int32 → Int32 → Int64 → q_Mem → Option (Int64 × q_Mem))) : Prop := ∀ (l : Launch) (G : q_G), (∀ (a0 : Nat) (a1 : Int32) (a2 : Int32) (a3 : Int32) (a4 : Int32) (a5 : Int64) (M : q_Mem) (r : Int64) (M' : q_Mem), rec 0 a0 a1 a2 a3 a4 a5 M = some (r, M') → q_Met l G yX2_partsFed cX2_partsFed 12 (Option.some Jvm.ClassFile.FieldType.long) (n0 + 7) 0 0 [.ref a0, .int a1, .int a2, .int a3, .int a4, .long a5] M (some (.long r)) M')
noncomputable def J_X2_partsFed_133 (rec : (Nat → Nat → Int32 → Int32 → Int32 → Int32 → Int64 → q_Mem → Option (Int64 × q_Mem))) (l0 : Nat) (l1 : Int32) (l2 : Int32) (l3 : Int32) (l4 : Int32) (l5 : Int64) (l7 : Nat) (l8 : Int64) (l10 : Int64) (M : q_Mem) : Option (Int64 × q_Mem) := (q_gR M l0 2 4 (fun c15 => q_nn c15 (fun r16 => (q_lR M 5 r16 l1 (fun c17 => q_nn c17 (fun r18 => (q_ob M l7 8 ((F_X8_copyFrom l7 r18 M).bind (fun x => match x with | (_, M20) => (q_gR M20 l0 2 1 (fun c21 => q_nn c21 (fun r22 => (q_ob M20 r22 1 ((F_X1_pass r22 l7 M20).bind (fun x => match x with | (_, M24) => (q_ob M24 l0 2 ((rec 0 l0 (l1 + (1 : Int32)) l2 l3 l4 (l5 - l10) M24).bind (fun x => match x with | (u25, M26) => some ((l8 + u25), M26)))))))))))))))))))
set_option maxRecDepth 100000 in
set_option maxHeartbeats 4000000 in
theorem jW_X2_partsFed_133 {K : q_K} {n0 : Nat} (C : q_C K yX2_partsFed cX2_partsFed 12 (Option.some Jvm.ClassFile.FieldType.long) (n0 + 7 + 1) 0 0) {rec : (Nat → Nat → Int32 → Int32 → Int32 → Int32 → Int64 → q_Mem → Option (Int64 × q_Mem))} (hr : Hr_X2_partsFed n0 rec) (l0 : Nat) (l1 : Int32) (l2 : Int32) (l3 : Int32) (l4 : Int32) (l5 : Int64) (l7 : Nat) (l8 : Int64) (l10 : Int64) (M : q_Mem) {r : Int64} {M' : q_Mem} (h : J_X2_partsFed_133 rec l0 l1 l2 l3 l4 l5 l7 l8 l10 M = some (r, M')) : q_W K 12 (q_Q K (some (.long r)) M' 0 0) 0 0 M 133 [some (.ref l0), some (.int l1), some (.int l2), some (.int l3), some (.int l4), some (.long l5), none, some (.ref l7), some (.long l8), none, some (.long l10), none] [] := by
  unfold J_X2_partsFed_133 at h
  refine q_aload C dX2_partsFed_133 rfl ?_
  refine q_aload_n C dX2_partsFed_135 rfl ?_
  refine x_getR (ci := 2) (j := 4) C dX2_partsFed_136 lkF_X2_18 rfl h (fun c15 h => ?_)
  refine x_nn h (fun r16 h => ?_)
  refine q_iload_n C dX2_partsFed_139 rfl ?_
  refine x_aald C dX2_partsFed_140 (by decide) h (fun c17 h => ?_)
  refine x_nn h (fun r18 h => ?_)
  obtain ⟨hk, h⟩ := q_obE h
  obtain ⟨⟨_, M20⟩, e1, h⟩ := q_bind h
  refine x_callVv0 C dX2_partsFed_141 lkM_X2_57 mV_X8_copyFrom ⟨_, rfl, rfl⟩ hk (c_X8_copyFrom _ _ _ _ _ e1) rfl rfl (Nat.le_of_ble_eq_true rfl) (⟨by omega, by decide⟩) (by decide) ?_
  refine q_aload_n C dX2_partsFed_144 rfl ?_
  refine x_getR (ci := 2) (j := 1) C dX2_partsFed_145 lkF_X2_49 rfl h (fun c21 h => ?_)
  refine x_nn h (fun r22 h => ?_)
  refine q_aload C dX2_partsFed_148 rfl ?_
  obtain ⟨hk, h⟩ := q_obE h
  obtain ⟨⟨_, M24⟩, e1, h⟩ := q_bind h
  refine x_callVv0 C dX2_partsFed_150 lkM_X2_80 mV_X1_pass ⟨_, rfl, rfl⟩ hk (c_X1_pass _ _ _ _ _ e1) rfl rfl (Nat.le_of_ble_eq_true rfl) (⟨by omega, by decide⟩) (by decide) ?_
  refine q_lload C dX2_partsFed_153 rfl ?_
  refine q_aload_n C dX2_partsFed_155 rfl ?_
  refine q_iload_n C dX2_partsFed_156 rfl ?_
  refine x_iconst (v := (1 : Int32)) C dX2_partsFed_157 (by decide) ?_
  refine q_iadd C dX2_partsFed_158 ?_
  refine q_iload_n C dX2_partsFed_159 rfl ?_
  refine q_iload_n C dX2_partsFed_160 rfl ?_
  refine q_iload C dX2_partsFed_161 rfl ?_
  refine q_lload C dX2_partsFed_163 rfl ?_
  refine q_lload C dX2_partsFed_165 rfl ?_
  refine q_lsub C dX2_partsFed_167 ?_
  obtain ⟨hk, h⟩ := q_obE h
  obtain ⟨⟨u25, M26⟩, e1, h⟩ := q_bind h
  refine x_callV0 C dX2_partsFed_168 lkM_X2_141 mV_X2_partsFed ⟨_, rfl, rfl⟩ hk ((hr _ _) _ _ _ _ _ _ _ _ _ e1) rfl rfl (Nat.le_of_ble_eq_true rfl) (⟨by omega, by decide⟩) (by decide) ?_
  refine q_ladd C dX2_partsFed_171 ?_
  exact q_lret C dX2_partsFed_172 rfl (by decide) (by decide) (Option.some.inj h)
noncomputable def J_X2_partsFed_21 (rec : (Nat → Nat → Int32 → Int32 → Int32 → Int32 → Int64 → q_Mem → Option (Int64 × q_Mem))) (l0 : Nat) (l1 : Int32) (l2 : Int32) (l5 : Int64) (M : q_Mem) : Option (Int64 × q_Mem) := (q_gR M l0 2 1 (fun c34 => q_nn c34 (fun r35 => (q_gR M l0 2 4 (fun c36 => q_nn c36 (fun r37 => (q_lR M 5 r37 l1 (fun c38 => q_nn c38 (fun r39 => (q_ob M r35 1 ((F_X1_lay r35 r39 M).bind (fun x => match x with | (_, M41) => (q_gR M41 l0 2 1 (fun c42 => q_nn c42 (fun r43 => (q_gI M41 r43 1 10 (fun v44 => (if ((v44 >>> (l2 &&& 31)) &&& (1 : Int32)) = 0 then some ((0 : Int64), M41) else some (l5, M41)))))))))))))))))))
set_option maxRecDepth 100000 in
set_option maxHeartbeats 4000000 in
theorem jW_X2_partsFed_21 {K : q_K} {n0 : Nat} (C : q_C K yX2_partsFed cX2_partsFed 12 (Option.some Jvm.ClassFile.FieldType.long) (n0 + 7 + 1) 0 0) {rec : (Nat → Nat → Int32 → Int32 → Int32 → Int32 → Int64 → q_Mem → Option (Int64 × q_Mem))} (hr : Hr_X2_partsFed n0 rec) (l0 : Nat) (l1 : Int32) (l2 : Int32) (l5 : Int64) (M : q_Mem) {r : Int64} {M' : q_Mem} (h : J_X2_partsFed_21 rec l0 l1 l2 l5 M = some (r, M')) : q_W K 12 (q_Q K (some (.long r)) M' 0 0) 0 0 M 21 [some (.ref l0), some (.int l1), some (.int l2), none, none, some (.long l5), none, none, none, none, none, none] [] := by
  unfold J_X2_partsFed_21 at h
  refine q_aload_n C dX2_partsFed_21 rfl ?_
  refine x_getR (ci := 2) (j := 1) C dX2_partsFed_22 lkF_X2_49 rfl h (fun c34 h => ?_)
  refine x_nn h (fun r35 h => ?_)
  refine q_aload_n C dX2_partsFed_25 rfl ?_
  refine x_getR (ci := 2) (j := 4) C dX2_partsFed_26 lkF_X2_18 rfl h (fun c36 h => ?_)
  refine x_nn h (fun r37 h => ?_)
  refine q_iload_n C dX2_partsFed_29 rfl ?_
  refine x_aald C dX2_partsFed_30 (by decide) h (fun c38 h => ?_)
  refine x_nn h (fun r39 h => ?_)
  obtain ⟨hk, h⟩ := q_obE h
  obtain ⟨⟨_, M41⟩, e1, h⟩ := q_bind h
  refine x_callVv0 C dX2_partsFed_31 lkM_X2_85 mV_X1_lay ⟨_, rfl, rfl⟩ hk (c_X1_lay _ _ _ _ _ e1) rfl rfl (Nat.le_of_ble_eq_true rfl) (⟨by omega, by decide⟩) (by decide) ?_
  refine q_aload_n C dX2_partsFed_34 rfl ?_
  refine x_getR (ci := 2) (j := 1) C dX2_partsFed_35 lkF_X2_49 rfl h (fun c42 h => ?_)
  refine x_nn h (fun r43 h => ?_)
  refine x_getI (ci := 1) (j := 10) C dX2_partsFed_38 lkF_X2_118 rfl h (fun v44 h => ?_)
  refine q_iload_n C dX2_partsFed_41 rfl ?_
  refine q_ishr C dX2_partsFed_42 ?_
  refine x_iconst (v := (1 : Int32)) C dX2_partsFed_43 (by decide) ?_
  refine q_iand C dX2_partsFed_44 ?_
  refine q_if_eq (tgt := 53) C dX2_partsFed_45 (by decide) h (fun _ h => ?_) (fun _ h => ?_)
  · refine x_lconst (v := (0 : Int64)) C dX2_partsFed_53 (by decide) ?_
    exact q_lret C dX2_partsFed_54 rfl (by decide) (by decide) (Option.some.inj h)
  · refine q_lload C dX2_partsFed_48 rfl ?_
    refine q_goto (tgt := 54) C dX2_partsFed_50 (by decide) ?_
    exact q_lret C dX2_partsFed_54 rfl (by decide) (by decide) (Option.some.inj h)
noncomputable def F_X2_partsFed (rec : (Nat → Nat → Int32 → Int32 → Int32 → Int32 → Int64 → q_Mem → Option (Int64 × q_Mem))) (l0 : Nat) (l1 : Int32) (l2 : Int32) (l3 : Int32) (l4 : Int32) (l5 : Int64) (M : q_Mem) : Option (Int64 × q_Mem) := (if (lg_cmp l5 (0 : Int64)) = 0 then some ((0 : Int64), M) else (if l1 < l3 then (if (l1 + (1 : Int32)) < (5 : Int32) then (q_gR M l0 2 4 (fun c1 => q_nn c1 (fun r2 => (q_lR M 5 r2 (l1 + (1 : Int32)) (fun c3 => q_nn c3 (fun r4 => (q_gR M l0 2 4 (fun c5 => q_nn c5 (fun r6 => (q_lR M 5 r6 l1 (fun c7 => q_nn c7 (fun r8 => (q_ob M r4 8 ((F_X8_copyFrom r4 r8 M).bind (fun x => match x with | (_, M10) => (q_gR M10 l0 2 2 (fun c11 => q_nn c11 (fun r12 => (q_ob M10 r12 0 ((F_X0_carryOut r12 r4 (2 : Int32) (-1 : Int32) (-1 : Int32) M10).bind (fun x => match x with | (u13, M14) => (if u13 = 0 then J_X2_partsFed_133 rec l0 l1 l2 l3 l4 l5 r4 (0 : Int64) (0 : Int64) M14 else (q_dvl (l5 * l4.toInt64) (100 : Int64) (fun v27 => (q_gR M14 l0 2 1 (fun c28 => q_nn c28 (fun r29 => (q_ob M14 r29 1 ((F_X1_pass r29 r4 M14).bind (fun x => match x with | (_, M31) => (q_ob M31 l0 2 ((rec 0 l0 (l1 + (1 : Int32)) l2 l3 l4 v27 M31).bind (fun x => match x with | (u32, M33) => J_X2_partsFed_133 rec l0 l1 l2 l3 l4 l5 r4 u32 v27 M33))))))))))))))))))))))))))))))))) else J_X2_partsFed_21 rec l0 l1 l2 l5 M) else J_X2_partsFed_21 rec l0 l1 l2 l5 M))
set_option maxRecDepth 100000 in
set_option maxHeartbeats 4000000 in
theorem cr_X2_partsFed {l : Launch} {G : q_G} {n0 : Nat} {rec : (Nat → Nat → Int32 → Int32 → Int32 → Int32 → Int64 → q_Mem → Option (Int64 × q_Mem))} (hr : Hr_X2_partsFed n0 rec) (l0 : Nat) (l1 : Int32) (l2 : Int32) (l3 : Int32) (l4 : Int32) (l5 : Int64) (M : q_Mem) {r : Int64} {M' : q_Mem} (h : F_X2_partsFed rec l0 l1 l2 l3 l4 l5 M = some (r, M')) : q_Met l G yX2_partsFed cX2_partsFed 12 (Option.some Jvm.ClassFile.FieldType.long) (n0 + 7 + 1) 0 0 [.ref l0, .int l1, .int l2, .int l3, .int l4, .long l5] M (some (.long r)) M' := by
  unfold F_X2_partsFed at h
  refine q_enter [some (.ref l0), some (.int l1), some (.int l2), some (.int l3), some (.int l4), some (.long l5), none, none, none, none, none, none] (by decide) (Nat.le_of_ble_eq_true rfl) rfl (fun K C => ?_)
  refine q_lload C dX2_partsFed_0 rfl ?_
  refine x_lconst (v := (0 : Int64)) C dX2_partsFed_2 (by decide) ?_
  refine q_lcmp C dX2_partsFed_3 ?_
  refine q_if_ne (tgt := 9) C dX2_partsFed_4 (by decide) h (fun _ h => ?_) (fun _ h => ?_)
  · refine x_lconst (v := (0 : Int64)) C dX2_partsFed_7 (by decide) ?_
    exact q_lret C dX2_partsFed_8 rfl (by decide) (by decide) (Option.some.inj h)
  · refine q_iload_n C dX2_partsFed_9 rfl ?_
    refine q_iload_n C dX2_partsFed_10 rfl ?_
    refine q_icmp_ge (tgt := 21) C dX2_partsFed_11 (by decide) h (fun _ h => ?_) (fun _ h => ?_)
    · refine q_iload_n C dX2_partsFed_14 rfl ?_
      refine x_iconst (v := (1 : Int32)) C dX2_partsFed_15 (by decide) ?_
      refine q_iadd C dX2_partsFed_16 ?_
      refine x_iconst (v := (5 : Int32)) C dX2_partsFed_17 (by decide) ?_
      refine q_icmp_lt (tgt := 55) C dX2_partsFed_18 (by decide) h (fun _ h => ?_) (fun _ h => ?_)
      · refine q_aload_n C dX2_partsFed_55 rfl ?_
        refine x_getR (ci := 2) (j := 4) C dX2_partsFed_56 lkF_X2_18 rfl h (fun c1 h => ?_)
        refine x_nn h (fun r2 h => ?_)
        refine q_iload_n C dX2_partsFed_59 rfl ?_
        refine x_iconst (v := (1 : Int32)) C dX2_partsFed_60 (by decide) ?_
        refine q_iadd C dX2_partsFed_61 ?_
        refine x_aald C dX2_partsFed_62 (by decide) h (fun c3 h => ?_)
        refine x_nn h (fun r4 h => ?_)
        refine q_astore (L' := [some (.ref l0), some (.int l1), some (.int l2), some (.int l3), some (.int l4), some (.long l5), none, some (.ref r4), none, none, none, none]) C dX2_partsFed_63 (by decide) rfl rfl ?_
        refine x_lconst (v := (0 : Int64)) C dX2_partsFed_65 (by decide) ?_
        refine q_lstore (L' := [some (.ref l0), some (.int l1), some (.int l2), some (.int l3), some (.int l4), some (.long l5), none, some (.ref r4), some (.long (0 : Int64)), none, none, none]) C dX2_partsFed_66 (by decide) rfl rfl ?_
        refine x_lconst (v := (0 : Int64)) C dX2_partsFed_68 (by decide) ?_
        refine q_lstore (L' := [some (.ref l0), some (.int l1), some (.int l2), some (.int l3), some (.int l4), some (.long l5), none, some (.ref r4), some (.long (0 : Int64)), none, some (.long (0 : Int64)), none]) C dX2_partsFed_69 (by decide) rfl rfl ?_
        refine q_aload C dX2_partsFed_71 rfl ?_
        refine q_aload_n C dX2_partsFed_73 rfl ?_
        refine x_getR (ci := 2) (j := 4) C dX2_partsFed_74 lkF_X2_18 rfl h (fun c5 h => ?_)
        refine x_nn h (fun r6 h => ?_)
        refine q_iload_n C dX2_partsFed_77 rfl ?_
        refine x_aald C dX2_partsFed_78 (by decide) h (fun c7 h => ?_)
        refine x_nn h (fun r8 h => ?_)
        obtain ⟨hk, h⟩ := q_obE h
        obtain ⟨⟨_, M10⟩, e1, h⟩ := q_bind h
        refine x_callVv0 C dX2_partsFed_79 lkM_X2_57 mV_X8_copyFrom ⟨_, rfl, rfl⟩ hk (c_X8_copyFrom _ _ _ _ _ e1) rfl rfl (Nat.le_of_ble_eq_true rfl) (⟨by omega, by decide⟩) (by decide) ?_
        refine q_aload_n C dX2_partsFed_82 rfl ?_
        refine x_getR (ci := 2) (j := 2) C dX2_partsFed_83 lkF_X2_53 rfl h (fun c11 h => ?_)
        refine x_nn h (fun r12 h => ?_)
        refine q_aload C dX2_partsFed_86 rfl ?_
        refine x_iconst (v := (2 : Int32)) C dX2_partsFed_88 (by decide) ?_
        refine x_iconst (v := (-1 : Int32)) C dX2_partsFed_89 (by decide) ?_
        refine x_iconst (v := (-1 : Int32)) C dX2_partsFed_90 (by decide) ?_
        obtain ⟨hk, h⟩ := q_obE h
        obtain ⟨⟨u13, M14⟩, e1, h⟩ := q_bind h
        refine x_callV0 C dX2_partsFed_91 lkM_X2_70 mV_X0_carryOut ⟨_, rfl, rfl⟩ hk (c_X0_carryOut _ _ _ _ _ _ _ _ e1) rfl rfl (Nat.le_of_ble_eq_true rfl) (⟨by omega, by decide⟩) (by decide) ?_
        refine q_if_eq (tgt := 133) C dX2_partsFed_94 (by decide) h (fun _ h => ?_) (fun _ h => ?_)
        · exact q_msk [true, true, true, true, true, true, false, true, true, false, true, false] (jW_X2_partsFed_133 C hr l0 l1 l2 l3 l4 l5 r4 (0 : Int64) (0 : Int64) M14 h)
        · refine q_lload C dX2_partsFed_97 rfl ?_
          refine q_iload C dX2_partsFed_99 rfl ?_
          refine q_i2l C dX2_partsFed_101 ?_
          refine q_lmul C dX2_partsFed_102 ?_
          refine q_ldc2 (v := (100 : Int64)) C dX2_partsFed_103 wd_1053 ?_
          refine q_ldiv C dX2_partsFed_106 h (fun v27 h => ?_)
          refine q_lstore (L' := [some (.ref l0), some (.int l1), some (.int l2), some (.int l3), some (.int l4), some (.long l5), none, some (.ref r4), some (.long (0 : Int64)), none, some (.long v27), none]) C dX2_partsFed_107 (by decide) rfl rfl ?_
          refine q_aload_n C dX2_partsFed_109 rfl ?_
          refine x_getR (ci := 2) (j := 1) C dX2_partsFed_110 lkF_X2_49 rfl h (fun c28 h => ?_)
          refine x_nn h (fun r29 h => ?_)
          refine q_aload C dX2_partsFed_113 rfl ?_
          obtain ⟨hk, h⟩ := q_obE h
          obtain ⟨⟨_, M31⟩, e1, h⟩ := q_bind h
          refine x_callVv0 C dX2_partsFed_115 lkM_X2_80 mV_X1_pass ⟨_, rfl, rfl⟩ hk (c_X1_pass _ _ _ _ _ e1) rfl rfl (Nat.le_of_ble_eq_true rfl) (⟨by omega, by decide⟩) (by decide) ?_
          refine q_aload_n C dX2_partsFed_118 rfl ?_
          refine q_iload_n C dX2_partsFed_119 rfl ?_
          refine x_iconst (v := (1 : Int32)) C dX2_partsFed_120 (by decide) ?_
          refine q_iadd C dX2_partsFed_121 ?_
          refine q_iload_n C dX2_partsFed_122 rfl ?_
          refine q_iload_n C dX2_partsFed_123 rfl ?_
          refine q_iload C dX2_partsFed_124 rfl ?_
          refine q_lload C dX2_partsFed_126 rfl ?_
          obtain ⟨hk, h⟩ := q_obE h
          obtain ⟨⟨u32, M33⟩, e1, h⟩ := q_bind h
          refine x_callV0 C dX2_partsFed_128 lkM_X2_141 mV_X2_partsFed ⟨_, rfl, rfl⟩ hk ((hr _ _) _ _ _ _ _ _ _ _ _ e1) rfl rfl (Nat.le_of_ble_eq_true rfl) (⟨by omega, by decide⟩) (by decide) ?_
          refine q_lstore (L' := [some (.ref l0), some (.int l1), some (.int l2), some (.int l3), some (.int l4), some (.long l5), none, some (.ref r4), some (.long u32), none, some (.long v27), none]) C dX2_partsFed_131 (by decide) rfl rfl ?_
          exact q_msk [true, true, true, true, true, true, false, true, true, false, true, false] (jW_X2_partsFed_133 C hr l0 l1 l2 l3 l4 l5 r4 u32 v27 M33 h)
      · exact q_msk [true, true, true, false, false, true, false, false, false, false, false, false] (jW_X2_partsFed_21 C hr l0 l1 l2 l5 M h)
    · exact q_msk [true, true, true, false, false, true, false, false, false, false, false, false] (jW_X2_partsFed_21 C hr l0 l1 l2 l5 M h)
noncomputable def R_X2_partsFed : Nat → Nat → Nat → Int32 → Int32 → Int32 → Int32 → Int64 → q_Mem → Option (Int64 × q_Mem)
  | 0 => fun _ _ _ _ _ _ _ _ => none
  | n + 1 => fun tag a0 b0 b1 b2 b3 b4 M => match tag with | _ => F_X2_partsFed (R_X2_partsFed n) a0 b0 b1 b2 b3 b4 M
set_option maxRecDepth 100000 in
theorem Rok_X2_partsFed (n : Nat) : Hr_X2_partsFed n (R_X2_partsFed n) := by
  induction n with
  | zero => exact fun l G => (fun a0 a1 a2 a3 a4 a5 M r M' h => by cases h)
  | succ n ih => exact fun l G => (fun a0 a1 a2 a3 a4 a5 M r M' h => cr_X2_partsFed ih a0 a1 a2 a3 a4 a5 M h)
theorem c_X2_partsFed (l : Launch) (G : q_G) (a0 : Nat) (a1 : Int32) (a2 : Int32) (a3 : Int32) (a4 : Int32) (a5 : Int64) (M : q_Mem) {r : Int64} {M' : q_Mem} (h : R_X2_partsFed 60 0 a0 a1 a2 a3 a4 a5 M = some (r, M')) : q_Met l G yX2_partsFed cX2_partsFed 12 (Option.some Jvm.ClassFile.FieldType.long) 67 0 0 [.ref a0, .int a1, .int a2, .int a3, .int a4, .long a5] M (some (.long r)) M' := (Rok_X2_partsFed 60 l G) a0 a1 a2 a3 a4 a5 M r M' h
noncomputable def F_X2_oddsOf (l0 : Nat) (l1 : Nat) (l2 : Int32) (l3 : Int32) (l4 : Int32) (M : q_Mem) : Option (Int64 × q_Mem) := (q_gR M l0 2 4 (fun c1 => q_nn c1 (fun r2 => (q_lR M 5 r2 (0 : Int32) (fun c3 => q_nn c3 (fun r4 => (q_ob M r4 8 ((F_X8_copyFrom r4 l1 M).bind (fun x => match x with | (_, M6) => (q_ob M6 l0 2 ((R_X2_partsFed 60 0 l0 (0 : Int32) l2 l3 l4 (1000000000 : Int64) M6).bind (fun x => match x with | (u7, M8) => some (u7, M8)))))))))))))
set_option maxRecDepth 100000 in
set_option maxHeartbeats 4000000 in
theorem c_X2_oddsOf (l : Launch) (G : q_G) (l0 : Nat) (l1 : Nat) (l2 : Int32) (l3 : Int32) (l4 : Int32) (M : q_Mem) {r : Int64} {M' : q_Mem} (h : F_X2_oddsOf l0 l1 l2 l3 l4 M = some (r, M')) : q_Met l G yX2_oddsOf cX2_oddsOf 5 (Option.some Jvm.ClassFile.FieldType.long) 68 0 0 [.ref l0, .ref l1, .int l2, .int l3, .int l4] M (some (.long r)) M' := by
  unfold F_X2_oddsOf at h
  refine q_enter [some (.ref l0), some (.ref l1), some (.int l2), some (.int l3), some (.int l4)] (by decide) (Nat.le_of_ble_eq_true rfl) rfl (fun K C => ?_)
  refine q_aload_n C dX2_oddsOf_0 rfl ?_
  refine x_getR (ci := 2) (j := 4) C dX2_oddsOf_1 lkF_X2_18 rfl h (fun c1 h => ?_)
  refine x_nn h (fun r2 h => ?_)
  refine x_iconst (v := (0 : Int32)) C dX2_oddsOf_4 (by decide) ?_
  refine x_aald C dX2_oddsOf_5 (by decide) h (fun c3 h => ?_)
  refine x_nn h (fun r4 h => ?_)
  refine q_aload_n C dX2_oddsOf_6 rfl ?_
  obtain ⟨hk, h⟩ := q_obE h
  obtain ⟨⟨_, M6⟩, e1, h⟩ := q_bind h
  refine x_callVv0 C dX2_oddsOf_7 lkM_X2_57 mV_X8_copyFrom ⟨_, rfl, rfl⟩ hk (c_X8_copyFrom _ _ _ _ _ e1) rfl rfl (Nat.le_of_ble_eq_true rfl) (by decide) (by decide) ?_
  refine q_aload_n C dX2_oddsOf_10 rfl ?_
  refine x_iconst (v := (0 : Int32)) C dX2_oddsOf_11 (by decide) ?_
  refine q_iload_n C dX2_oddsOf_12 rfl ?_
  refine q_iload_n C dX2_oddsOf_13 rfl ?_
  refine q_iload C dX2_oddsOf_14 rfl ?_
  refine q_ldc2 (v := (1000000000 : Int64)) C dX2_oddsOf_16 wd_1048 ?_
  obtain ⟨hk, h⟩ := q_obE h
  obtain ⟨⟨u7, M8⟩, e1, h⟩ := q_bind h
  refine x_callV0 C dX2_oddsOf_19 lkM_X2_141 mV_X2_partsFed ⟨_, rfl, rfl⟩ hk (c_X2_partsFed _ _ _ _ _ _ _ _ _ e1) rfl rfl (Nat.le_of_ble_eq_true rfl) (by decide) (by decide) ?_
  exact q_lret C dX2_oddsOf_22 rfl (by decide) (by decide) (Option.some.inj h)
noncomputable def F_X3_init (l0 : Nat) (M : q_Mem) : Option (Unit × q_Mem) := (q_nA M 0 (3 : Int32) 3 (fun k1 M2 => (q_pR M2 l0 3 0 (k1 + 1) (fun M3 => (q_nA M3 0 (15 : Int32) 15 (fun k4 M5 => (q_pR M5 l0 3 1 (k4 + 1) (fun M6 => (q_nA M6 0 (24 : Int32) 24 (fun k7 M8 => (q_pR M8 l0 3 2 (k7 + 1) (fun M9 => (q_nA M9 0 (6 : Int32) 6 (fun k10 M11 => (q_pR M11 l0 3 3 (k10 + 1) (fun M12 => (q_pI M12 l0 3 4 (0 : Int32) (fun M13 => (q_pI M13 l0 3 5 (0 : Int32) (fun M14 => (q_pZ M14 l0 3 6 (0 : Int32) (fun M15 => some ((), M15)))))))))))))))))))))))
set_option maxRecDepth 100000 in
set_option maxHeartbeats 4000000 in
theorem c_X3_init (l : Launch) (G : q_G) (l0 : Nat) (M : q_Mem) {r : Unit} {M' : q_Mem} (h : F_X3_init l0 M = some (r, M')) : q_Met l G yX3_init cX3_init 1 (Option.none : Option Jvm.ClassFile.FieldType) 2 4 48 [.ref l0] M none M' := by
  unfold F_X3_init at h
  refine q_enter [some (.ref l0)] (by decide) (Nat.le_of_ble_eq_true rfl) rfl (fun K C => ?_)
  refine q_aload_n C dX3_init_0 rfl ?_
  refine q_objI C dX3_init_1 wd_68 wd_33 wd_34 (by decide) (Nat.le_of_ble_eq_true rfl) ?_
  refine q_aload_n C dX3_init_4 rfl ?_
  refine x_iconst (v := (3 : Int32)) C dX3_init_5 (by decide) ?_
  refine x_newa C dX3_init_6 (by simp) wd_103 (by decide) h (by decide) (fun k1 M2 h => ?_)
  refine x_putR (ci := 3) (j := 0) (k1 + 1) C dX3_init_8 lkF_X3_9 (fun r hr => by cases hr; exact Or.inr ⟨rfl, rfl, wd_69⟩) (Or.inr ⟨_, rfl⟩) rfl h (fun M3 h => ?_)
  refine q_aload_n C dX3_init_11 rfl ?_
  refine x_bipush (v := (15 : Int32)) C dX3_init_12 (by decide) ?_
  refine x_newa C dX3_init_14 (by simp) wd_103 (by decide) h (by decide) (fun k4 M5 h => ?_)
  refine x_putR (ci := 3) (j := 1) (k4 + 1) C dX3_init_16 lkF_X3_15 (fun r hr => by cases hr; exact Or.inr ⟨rfl, rfl, wd_73⟩) (Or.inr ⟨_, rfl⟩) rfl h (fun M6 h => ?_)
  refine q_aload_n C dX3_init_19 rfl ?_
  refine x_bipush (v := (24 : Int32)) C dX3_init_20 (by decide) ?_
  refine x_newa C dX3_init_22 (by simp) wd_103 (by decide) h (by decide) (fun k7 M8 h => ?_)
  refine x_putR (ci := 3) (j := 2) (k7 + 1) C dX3_init_24 lkF_X3_18 (fun r hr => by cases hr; exact Or.inr ⟨rfl, rfl, wd_75⟩) (Or.inr ⟨_, rfl⟩) rfl h (fun M9 h => ?_)
  refine q_aload_n C dX3_init_27 rfl ?_
  refine x_bipush (v := (6 : Int32)) C dX3_init_28 (by decide) ?_
  refine x_newa C dX3_init_30 (by simp) wd_103 (by decide) h (by decide) (fun k10 M11 h => ?_)
  refine x_putR (ci := 3) (j := 3) (k10 + 1) C dX3_init_32 lkF_X3_21 (fun r hr => by cases hr; exact Or.inr ⟨rfl, rfl, wd_77⟩) (Or.inr ⟨_, rfl⟩) rfl h (fun M12 h => ?_)
  refine q_aload_n C dX3_init_35 rfl ?_
  refine x_iconst (v := (0 : Int32)) C dX3_init_36 (by decide) ?_
  refine x_putI (ci := 3) (j := 4) C dX3_init_37 lkF_X3_24 (fun r hr => by cases hr; rfl) rfl h (fun M13 h => ?_)
  refine q_aload_n C dX3_init_40 rfl ?_
  refine x_iconst (v := (0 : Int32)) C dX3_init_41 (by decide) ?_
  refine x_putI (ci := 3) (j := 5) C dX3_init_42 lkF_X3_28 (fun r hr => by cases hr; rfl) rfl h (fun M14 h => ?_)
  refine q_aload_n C dX3_init_45 rfl ?_
  refine x_iconst (v := (0 : Int32)) C dX3_init_46 (by decide) ?_
  refine x_putZ (ci := 3) (j := 6) C dX3_init_47 lkF_X3_31 (fun r hr => by cases hr; rfl) rfl h (fun M15 h => ?_)
  exact q_vret C dX3_init_50 rfl (by decide) (by decide) (Option.some.inj h)
noncomputable def J_X3_orderByComing_49_15 (l0 : Nat) (l1 : Int32) (l2 : Int32) (l3 : Int32) (M : q_Mem) : Option ((Int32 × Int32 × q_Mem) ⊕ (Int32 × q_Mem)) := some (.inl (l1, (l3 + (1 : Int32)), M))
set_option maxRecDepth 100000 in
set_option maxHeartbeats 4000000 in
theorem jW_X3_orderByComing_49_15 {K : q_K} {Q : State → Prop} (C : q_C K yX3_orderByComing cX3_orderByComing 4 (Option.none : Option Jvm.ClassFile.FieldType) 2 0 0) (l0 : Nat) (l1 : Int32) (l2 : Int32) (l3 : Int32) (M : q_Mem) {stp : (Int32 × Int32 × q_Mem) ⊕ (Int32 × q_Mem)} (h : J_X3_orderByComing_49_15 l0 l1 l2 l3 M = some stp) (kC : ∀ (l1 : Int32) (l3 : Int32) (M : q_Mem), stp = .inl (l1, l3, M) → q_W K 4 Q 0 0 M 15 [some (.ref l0), some (.int l1), some (.int l2), some (.int l3)] []) (kE0 : ∀ (l1 : Int32) (M : q_Mem), stp = .inr (l1, M) → q_W K 4 Q 0 0 M 55 [some (.ref l0), some (.int l1), some (.int l2), none] []) : q_W K 4 Q 0 0 M 49 [some (.ref l0), some (.int l1), some (.int l2), some (.int l3)] [] := by
  unfold J_X3_orderByComing_49_15 at h
  refine x_iinc (w := (1 : Int32)) (L' := [some (.ref l0), some (.int l1), some (.int l2), some (.int (l3 + (1 : Int32)))]) C dX3_orderByComing_49 rfl (by decide) (by decide) rfl rfl ?_
  refine q_goto (tgt := 15) C dX3_orderByComing_52 (by decide) ?_
  exact q_msk [true, true, true, true] (kC _ _ _ (Option.some.inj h).symm)
noncomputable def B_X3_orderByComing_15 (l0 : Nat) (l2 : Int32) (l1 : Int32) (l3 : Int32) (M : q_Mem) : Option ((Int32 × Int32 × q_Mem) ⊕ (Int32 × q_Mem)) := (q_gI M l0 3 5 (fun v2 => (if l3 < v2 then (q_ob M l0 3 ((F_X3_ofGuest l0 l3 (0 : Int32) M).bind (fun u3 => (if u3 = l2 then (if l1 < (6 : Int32) then (q_gR M l0 3 3 (fun c4 => q_nn c4 (fun r5 => (q_tI M r5 l1 l3 (fun M6 => J_X3_orderByComing_49_15 l0 (l1 + (1 : Int32)) l2 l3 M6))))) else J_X3_orderByComing_49_15 l0 l1 l2 l3 M) else J_X3_orderByComing_49_15 l0 l1 l2 l3 M)))) else some (.inr (l1, M)))))
set_option maxRecDepth 100000 in
set_option maxHeartbeats 4000000 in
theorem bW_X3_orderByComing_15 {K : q_K} {Q : State → Prop} (C : q_C K yX3_orderByComing cX3_orderByComing 4 (Option.none : Option Jvm.ClassFile.FieldType) 2 0 0) (l0 : Nat) (l1 : Int32) (l2 : Int32) (l3 : Int32) (M : q_Mem) {stp : (Int32 × Int32 × q_Mem) ⊕ (Int32 × q_Mem)} (h : B_X3_orderByComing_15 l0 l2 l1 l3 M = some stp) (kC : ∀ (l1 : Int32) (l3 : Int32) (M : q_Mem), stp = .inl (l1, l3, M) → q_W K 4 Q 0 0 M 15 [some (.ref l0), some (.int l1), some (.int l2), some (.int l3)] []) (kE0 : ∀ (l1 : Int32) (M : q_Mem), stp = .inr (l1, M) → q_W K 4 Q 0 0 M 55 [some (.ref l0), some (.int l1), some (.int l2), none] []) : q_W K 4 Q 0 0 M 15 [some (.ref l0), some (.int l1), some (.int l2), some (.int l3)] [] := by
  unfold B_X3_orderByComing_15 at h
  refine q_iload_n C dX3_orderByComing_15 rfl ?_
  refine q_aload_n C dX3_orderByComing_16 rfl ?_
  refine x_getI (ci := 3) (j := 5) C dX3_orderByComing_17 lkF_X3_28 rfl h (fun v2 h => ?_)
  refine q_icmp_ge (tgt := 55) C dX3_orderByComing_20 (by decide) h (fun _ h => ?_) (fun _ h => ?_)
  · refine q_aload_n C dX3_orderByComing_23 rfl ?_
    refine q_iload_n C dX3_orderByComing_24 rfl ?_
    refine x_iconst (v := (0 : Int32)) C dX3_orderByComing_25 (by decide) ?_
    obtain ⟨hk, h⟩ := q_obE h
    obtain ⟨u3, e1, h⟩ := q_bind h
    refine x_callV0 C dX3_orderByComing_26 lkM_X3_47 mV_X3_ofGuest ⟨_, rfl, rfl⟩ hk (c_X3_ofGuest _ _ _ _ _ _ e1) rfl rfl (Nat.le_of_ble_eq_true rfl) (by decide) (by decide) ?_
    refine q_iload_n C dX3_orderByComing_29 rfl ?_
    refine q_icmp_ne (tgt := 49) C dX3_orderByComing_30 (by decide) h (fun _ h => ?_) (fun _ h => ?_)
    · refine q_iload_n C dX3_orderByComing_33 rfl ?_
      refine x_bipush (v := (6 : Int32)) C dX3_orderByComing_34 (by decide) ?_
      refine q_icmp_ge (tgt := 49) C dX3_orderByComing_36 (by decide) h (fun _ h => ?_) (fun _ h => ?_)
      · refine q_aload_n C dX3_orderByComing_39 rfl ?_
        refine x_getR (ci := 3) (j := 3) C dX3_orderByComing_40 lkF_X3_21 rfl h (fun c4 h => ?_)
        refine x_nn h (fun r5 h => ?_)
        refine q_iload_n C dX3_orderByComing_43 rfl ?_
        refine q_iload_n C dX3_orderByComing_44 rfl ?_
        refine x_iast C dX3_orderByComing_45 h (fun M6 h => ?_)
        refine x_iinc (w := (1 : Int32)) (L' := [some (.ref l0), some (.int (l1 + (1 : Int32))), some (.int l2), some (.int l3)]) C dX3_orderByComing_46 rfl (by decide) (by decide) rfl rfl ?_
        exact q_msk [true, true, true, true] (jW_X3_orderByComing_49_15 C l0 (l1 + (1 : Int32)) l2 l3 M6 h kC kE0)
      · exact q_msk [true, true, true, true] (jW_X3_orderByComing_49_15 C l0 l1 l2 l3 M h kC kE0)
    · exact q_msk [true, true, true, true] (jW_X3_orderByComing_49_15 C l0 l1 l2 l3 M h kC kE0)
  · exact q_msk [true, true, true, false] (kE0 _ _ (Option.some.inj h).symm)
set_option maxRecDepth 100000 in
set_option maxHeartbeats 4000000 in
theorem lW_X3_orderByComing_15 {K : q_K} {Q : State → Prop} (C : q_C K yX3_orderByComing cX3_orderByComing 4 (Option.none : Option Jvm.ClassFile.FieldType) 2 0 0) (l0 : Nat) (l2 : Int32) (n : Nat) : ∀ (l1 : Int32) (l3 : Int32) (M : q_Mem) (e : (Int32 × q_Mem)), q_lp (fun s => B_X3_orderByComing_15 l0 l2 s.1 s.2.1 s.2.2) n (l1, l3, M) = some e → (∀ (l1 : Int32) (M : q_Mem), e = (l1, M) → q_W K 4 Q 0 0 M 55 [some (.ref l0), some (.int l1), some (.int l2), none] []) → q_W K 4 Q 0 0 M 15 [some (.ref l0), some (.int l1), some (.int l2), some (.int l3)] [] := by
  induction n with
  | zero => intro l1 l3 M e h; cases h
  | succ n ih =>
    intro l1 l3 M e h kE0
    obtain ⟨stp, e1, e2⟩ := q_bind h
    refine bW_X3_orderByComing_15 C l0 l1 l2 l3 M e1 (fun a0 a1 a2 hs => ?_) (fun b0 b1 hs => ?_)
    · subst hs; exact ih _ _ _ _ e2 kE0
    · subst hs; exact kE0 _ _ (Option.some.inj e2).symm
noncomputable def B_X3_orderByComing_4 (l0 : Nat) (l1 : Int32) (l2 : Int32) (M : q_Mem) : Option ((Int32 × Int32 × q_Mem) ⊕ (q_Mem)) := (q_lI M 0 2 (1 : Int32) (fun v1 => (if v1 < l2 then some (.inr M) else (q_lp (fun s => B_X3_orderByComing_15 l0 l2 s.1 s.2.1 s.2.2) q_fu (l1, (0 : Int32), M)).bind (fun e7 => match e7 with | (w8, M9) => some (.inl (w8, (l2 + (1 : Int32)), M9))))))
set_option maxRecDepth 100000 in
set_option maxHeartbeats 4000000 in
theorem bW_X3_orderByComing_4 {K : q_K} {Q : State → Prop} (C : q_C K yX3_orderByComing cX3_orderByComing 4 (Option.none : Option Jvm.ClassFile.FieldType) 2 0 0) (l0 : Nat) (l1 : Int32) (l2 : Int32) (M : q_Mem) {stp : (Int32 × Int32 × q_Mem) ⊕ (q_Mem)} (h : B_X3_orderByComing_4 l0 l1 l2 M = some stp) (kC : ∀ (l1 : Int32) (l2 : Int32) (M : q_Mem), stp = .inl (l1, l2, M) → q_W K 4 Q 0 0 M 4 [some (.ref l0), some (.int l1), some (.int l2), none] []) (kE0 : ∀ (M : q_Mem), stp = .inr M → q_W K 4 Q 0 0 M 61 [none, none, none, none] []) : q_W K 4 Q 0 0 M 4 [some (.ref l0), some (.int l1), some (.int l2), none] [] := by
  unfold B_X3_orderByComing_4 at h
  refine q_iload_n C dX3_orderByComing_4 rfl ?_
  refine q_getsN (w := .ref 2) C dX3_orderByComing_5 wn_538 (by simp [q_zs, q_cv, q_ad, q_NS]) rfl ?_
  refine x_iconst (v := (1 : Int32)) C dX3_orderByComing_8 (by decide) ?_
  refine x_iald C dX3_orderByComing_9 h (fun v1 h => ?_)
  refine q_icmp_gt (tgt := 61) C dX3_orderByComing_10 (by decide) h (fun _ h => ?_) (fun _ h => ?_)
  · exact q_msk [false, false, false, false] (kE0 _ (Option.some.inj h).symm)
  · refine x_iconst (v := (0 : Int32)) C dX3_orderByComing_13 (by decide) ?_
    refine q_istore_n (L' := [some (.ref l0), some (.int l1), some (.int l2), some (.int (0 : Int32))]) C dX3_orderByComing_14 (by decide) rfl rfl ?_
    obtain ⟨e7, he, h⟩ := q_bind h
    refine q_msk [true, true, true, true] (lW_X3_orderByComing_15 C l0 l2 q_fu _ _ _ _ he (fun w8 M9 hs => ?_))
    · have hs := hs.symm
      subst hs
      refine x_iinc (w := (1 : Int32)) (L' := [some (.ref l0), some (.int w8), some (.int (l2 + (1 : Int32))), none]) C dX3_orderByComing_55 rfl (by decide) (by decide) rfl rfl ?_
      refine q_goto (tgt := 4) C dX3_orderByComing_58 (by decide) ?_
      exact q_msk [true, true, true, false] (kC _ _ _ (Option.some.inj h).symm)
set_option maxRecDepth 100000 in
set_option maxHeartbeats 4000000 in
theorem lW_X3_orderByComing_4 {K : q_K} {Q : State → Prop} (C : q_C K yX3_orderByComing cX3_orderByComing 4 (Option.none : Option Jvm.ClassFile.FieldType) 2 0 0) (l0 : Nat) (n : Nat) : ∀ (l1 : Int32) (l2 : Int32) (M : q_Mem) (e : (q_Mem)), q_lp (fun s => B_X3_orderByComing_4 l0 s.1 s.2.1 s.2.2) n (l1, l2, M) = some e → (∀ (M : q_Mem), e = M → q_W K 4 Q 0 0 M 61 [none, none, none, none] []) → q_W K 4 Q 0 0 M 4 [some (.ref l0), some (.int l1), some (.int l2), none] [] := by
  induction n with
  | zero => intro l1 l2 M e h; cases h
  | succ n ih =>
    intro l1 l2 M e h kE0
    obtain ⟨stp, e1, e2⟩ := q_bind h
    refine bW_X3_orderByComing_4 C l0 l1 l2 M e1 (fun a0 a1 a2 hs => ?_) (fun b0 hs => ?_)
    · subst hs; exact ih _ _ _ _ e2 kE0
    · subst hs; exact kE0 _ (Option.some.inj e2).symm
noncomputable def F_X3_orderByComing (l0 : Nat) (M : q_Mem) : Option (Unit × q_Mem) := (q_lp (fun s => B_X3_orderByComing_4 l0 s.1 s.2.1 s.2.2) q_fu ((0 : Int32), (0 : Int32), M)).bind (fun e10 => match e10 with | M11 => some ((), M11))
set_option maxRecDepth 100000 in
set_option maxHeartbeats 4000000 in
theorem c_X3_orderByComing (l : Launch) (G : q_G) (l0 : Nat) (M : q_Mem) {r : Unit} {M' : q_Mem} (h : F_X3_orderByComing l0 M = some (r, M')) : q_Met l G yX3_orderByComing cX3_orderByComing 4 (Option.none : Option Jvm.ClassFile.FieldType) 2 0 0 [.ref l0] M none M' := by
  unfold F_X3_orderByComing at h
  refine q_enter [some (.ref l0), none, none, none] (by decide) (Nat.le_of_ble_eq_true rfl) rfl (fun K C => ?_)
  refine x_iconst (v := (0 : Int32)) C dX3_orderByComing_0 (by decide) ?_
  refine q_istore_n (L' := [some (.ref l0), some (.int (0 : Int32)), none, none]) C dX3_orderByComing_1 (by decide) rfl rfl ?_
  refine x_iconst (v := (0 : Int32)) C dX3_orderByComing_2 (by decide) ?_
  refine q_istore_n (L' := [some (.ref l0), some (.int (0 : Int32)), some (.int (0 : Int32)), none]) C dX3_orderByComing_3 (by decide) rfl rfl ?_
  obtain ⟨e10, he, h⟩ := q_bind h
  refine q_msk [true, true, true, false] (lW_X3_orderByComing_4 C l0 q_fu _ _ _ _ he (fun M11 hs => ?_))
  · have hs := hs.symm
    subst hs
    exact q_vret C dX3_orderByComing_61 rfl (by decide) (by decide) (Option.some.inj h)
