noncomputable def F_X0_init (l0 : Nat) (l1 : Nat) (l2 : Nat) (M : q_Mem) : Option (Unit × q_Mem) := (q_pR M l0 0 0 (l1 + 1) (fun M1 => (q_pR M1 l0 0 1 (l2 + 1) (fun M2 => some ((), M2)))))
set_option maxRecDepth 100000 in
set_option maxHeartbeats 4000000 in
theorem c_X0_init (l : Launch) (G : q_G) (l0 : Nat) (l1 : Nat) (l2 : Nat) (M : q_Mem) {r : Unit} {M' : q_Mem} (h : F_X0_init l0 l1 l2 M = some (r, M')) : q_Met l G yX0_init cX0_init 3 (Option.none : Option Jvm.ClassFile.FieldType) 2 0 0 [.ref l0, .ref l1, .ref l2] M none M' := by
  unfold F_X0_init at h
  refine q_enter [some (.ref l0), some (.ref l1), some (.ref l2)] (by decide) (Nat.le_of_ble_eq_true rfl) rfl (fun K C => ?_)
  refine q_aload_n C dX0_init_0 rfl ?_
  refine q_objI C dX0_init_1 wd_234 wd_33 wd_34 (by decide) (Nat.le_of_ble_eq_true rfl) ?_
  refine q_aload_n C dX0_init_4 rfl ?_
  refine q_aload_n C dX0_init_5 rfl ?_
  refine x_putR (ci := 0) (j := 0) (l1 + 1) C dX0_init_6 lkF_X0_9 (fun r hr => by cases hr; exact Or.inr ⟨rfl, rfl, wd_235⟩) (Or.inl ⟨_, rfl⟩) rfl h (fun M1 h => ?_)
  refine q_aload_n C dX0_init_9 rfl ?_
  refine q_aload_n C dX0_init_10 rfl ?_
  refine x_putR (ci := 0) (j := 1) (l2 + 1) C dX0_init_11 lkF_X0_15 (fun r hr => by cases hr; exact Or.inr ⟨rfl, rfl, wd_236⟩) (Or.inl ⟨_, rfl⟩) rfl h (fun M2 h => ?_)
  exact q_vret C dX0_init_14 rfl (by decide) (by decide) (Option.some.inj h)
noncomputable def F_X3_ofGuest (l0 : Nat) (l1 : Int32) (l2 : Int32) (M : q_Mem) : Option (Int32) := (if ((l1 * (4 : Int32)) + l2) < 0 then some (0 : Int32) else (q_gR M l0 3 2 (fun c1 => q_nn c1 (fun r2 => (q_al M r2 (fun v3 => (if ((l1 * (4 : Int32)) + l2) < v3 then (q_gR M l0 3 2 (fun c4 => q_nn c4 (fun r5 => (q_lI M 0 r5 ((l1 * (4 : Int32)) + l2) (fun v6 => some v6))))) else some (0 : Int32))))))))
set_option maxRecDepth 100000 in
set_option maxHeartbeats 4000000 in
theorem c_X3_ofGuest (l : Launch) (G : q_G) (l0 : Nat) (l1 : Int32) (l2 : Int32) (M : q_Mem) {r : Int32} (h : F_X3_ofGuest l0 l1 l2 M = some r) : q_Met l G yX3_ofGuest cX3_ofGuest 4 (Option.some Jvm.ClassFile.FieldType.int) 1 0 0 [.ref l0, .int l1, .int l2] M (some (.int r)) M := by
  unfold F_X3_ofGuest at h
  refine q_enter [some (.ref l0), some (.int l1), some (.int l2), none] (by decide) (Nat.le_of_ble_eq_true rfl) rfl (fun K C => ?_)
  refine q_iload_n C dX3_ofGuest_0 rfl ?_
  refine x_iconst (v := (4 : Int32)) C dX3_ofGuest_1 (by decide) ?_
  refine q_imul C dX3_ofGuest_2 ?_
  refine q_iload_n C dX3_ofGuest_3 rfl ?_
  refine q_iadd C dX3_ofGuest_4 ?_
  refine q_istore_n (L' := [some (.ref l0), some (.int l1), some (.int l2), some (.int ((l1 * (4 : Int32)) + l2))]) C dX3_ofGuest_5 (by decide) rfl rfl ?_
  refine q_iload_n C dX3_ofGuest_6 rfl ?_
  refine q_if_lt (tgt := 28) C dX3_ofGuest_7 (by decide) h (fun _ h => ?_) (fun _ h => ?_)
  · refine x_iconst (v := (0 : Int32)) C dX3_ofGuest_28 (by decide) ?_
    exact q_iret (res := (r, M)) C dX3_ofGuest_29 rfl (by decide) (by decide) (congrArg (fun z => (z, M)) (Option.some.inj h))
  · refine q_iload_n C dX3_ofGuest_10 rfl ?_
    refine q_aload_n C dX3_ofGuest_11 rfl ?_
    refine x_getR (ci := 3) (j := 2) C dX3_ofGuest_12 lkF_X3_18 rfl h (fun c1 h => ?_)
    refine x_nn h (fun r2 h => ?_)
    refine x_alen C dX3_ofGuest_15 h (fun v3 h => ?_)
    refine q_icmp_ge (tgt := 28) C dX3_ofGuest_16 (by decide) h (fun _ h => ?_) (fun _ h => ?_)
    · refine q_aload_n C dX3_ofGuest_19 rfl ?_
      refine x_getR (ci := 3) (j := 2) C dX3_ofGuest_20 lkF_X3_18 rfl h (fun c4 h => ?_)
      refine x_nn h (fun r5 h => ?_)
      refine q_iload_n C dX3_ofGuest_23 rfl ?_
      refine x_iald C dX3_ofGuest_24 h (fun v6 h => ?_)
      refine q_goto (tgt := 29) C dX3_ofGuest_25 (by decide) ?_
      exact q_iret (res := (r, M)) C dX3_ofGuest_29 rfl (by decide) (by decide) (congrArg (fun z => (z, M)) (Option.some.inj h))
    · refine x_iconst (v := (0 : Int32)) C dX3_ofGuest_28 (by decide) ?_
      exact q_iret (res := (r, M)) C dX3_ofGuest_29 rfl (by decide) (by decide) (congrArg (fun z => (z, M)) (Option.some.inj h))
noncomputable def F_X8_hasLeft (l0 : Nat) (l1 : Int32) (M : q_Mem) : Option (Int32) := (q_gR M l0 8 0 (fun c1 => q_nn c1 (fun r2 => (q_lI M 0 r2 (4 : Int32) (fun v3 => (if ((v3 >>> (l1 &&& 31)) &&& (1 : Int32)) = 0 then q_rq (0 : Int32) else q_rq (1 : Int32)))))))
set_option maxRecDepth 100000 in
set_option maxHeartbeats 4000000 in
theorem c_X8_hasLeft (l : Launch) (G : q_G) (l0 : Nat) (l1 : Int32) (M : q_Mem) {r : Int32} (h : F_X8_hasLeft l0 l1 M = some r) : q_Met l G yX8_hasLeft cX8_hasLeft 2 (Option.some Jvm.ClassFile.FieldType.boolean) 1 0 0 [.ref l0, .int l1] M (some (.int r)) M := by
  unfold F_X8_hasLeft at h
  refine q_enter [some (.ref l0), some (.int l1)] (by decide) (Nat.le_of_ble_eq_true rfl) rfl (fun K C => ?_)
  refine q_aload_n C dX8_hasLeft_0 rfl ?_
  refine x_getR (ci := 8) (j := 0) C dX8_hasLeft_1 lkF_X8_9 rfl h (fun c1 h => ?_)
  refine x_nn h (fun r2 h => ?_)
  refine x_iconst (v := (4 : Int32)) C dX8_hasLeft_4 (by decide) ?_
  refine x_iald C dX8_hasLeft_5 h (fun v3 h => ?_)
  refine q_iload_n C dX8_hasLeft_6 rfl ?_
  refine q_ishr C dX8_hasLeft_7 ?_
  refine x_iconst (v := (1 : Int32)) C dX8_hasLeft_8 (by decide) ?_
  refine q_iand C dX8_hasLeft_9 ?_
  refine q_if_eq (tgt := 17) C dX8_hasLeft_10 (by decide) h (fun _ h => ?_) (fun _ h => ?_)
  · refine x_iconst (v := (0 : Int32)) C dX8_hasLeft_17 (by decide) ?_
    exact q_zret (res := (r, M)) C dX8_hasLeft_18 rfl (by decide) (by decide) (q_rqE h).1 (congrArg (fun z => (z, M)) (q_rqE h).2)
  · refine x_iconst (v := (1 : Int32)) C dX8_hasLeft_13 (by decide) ?_
    refine q_goto (tgt := 18) C dX8_hasLeft_14 (by decide) ?_
    exact q_zret (res := (r, M)) C dX8_hasLeft_18 rfl (by decide) (by decide) (q_rqE h).1 (congrArg (fun z => (z, M)) (q_rqE h).2)
noncomputable def F_X1_isThere (l0 : Nat) (l1 : Nat) (l2 : Int32) (M : q_Mem) : Option (Int32) := (q_gR M l1 8 0 (fun c1 => q_nn c1 (fun r2 => (q_lI M 0 r2 (0 : Int32) (fun v3 => (q_gR M l0 1 0 (fun c4 => q_nn c4 (fun r5 => (q_ob M r5 3 ((F_X3_ofGuest r5 l2 (0 : Int32) M).bind (fun u6 => (if (v3 - u6) < 0 then q_rq (0 : Int32) else (q_gR M l1 8 0 (fun c7 => q_nn c7 (fun r8 => (q_lI M 0 r8 ((13 : Int32) + l2) (fun v9 => (if (v3 - u6) < v9 then (q_ob M l1 8 ((F_X8_hasLeft l1 l2 M).bind (fun u10 => (if u10 = 0 then q_rq (1 : Int32) else q_rq (0 : Int32))))) else q_rq (0 : Int32)))))))))))))))))))
set_option maxRecDepth 100000 in
set_option maxHeartbeats 4000000 in
theorem c_X1_isThere (l : Launch) (G : q_G) (l0 : Nat) (l1 : Nat) (l2 : Int32) (M : q_Mem) {r : Int32} (h : F_X1_isThere l0 l1 l2 M = some r) : q_Met l G yX1_isThere cX1_isThere 4 (Option.some Jvm.ClassFile.FieldType.boolean) 2 0 0 [.ref l0, .ref l1, .int l2] M (some (.int r)) M := by
  unfold F_X1_isThere at h
  refine q_enter [some (.ref l0), some (.ref l1), some (.int l2), none] (by decide) (Nat.le_of_ble_eq_true rfl) rfl (fun K C => ?_)
  refine q_aload_n C dX1_isThere_0 rfl ?_
  refine x_getR (ci := 8) (j := 0) C dX1_isThere_1 lkF_X1_51 rfl h (fun c1 h => ?_)
  refine x_nn h (fun r2 h => ?_)
  refine x_iconst (v := (0 : Int32)) C dX1_isThere_4 (by decide) ?_
  refine x_iald C dX1_isThere_5 h (fun v3 h => ?_)
  refine q_aload_n C dX1_isThere_6 rfl ?_
  refine x_getR (ci := 1) (j := 0) C dX1_isThere_7 lkF_X1_47 rfl h (fun c4 h => ?_)
  refine x_nn h (fun r5 h => ?_)
  refine q_iload_n C dX1_isThere_10 rfl ?_
  refine x_iconst (v := (0 : Int32)) C dX1_isThere_11 (by decide) ?_
  obtain ⟨hk, h⟩ := q_obE h
  obtain ⟨u6, e1, h⟩ := q_bind h
  refine x_callV0 C dX1_isThere_12 lkM_X1_56 mV_X3_ofGuest ⟨_, rfl, rfl⟩ hk (c_X3_ofGuest _ _ _ _ _ _ e1) rfl rfl (Nat.le_of_ble_eq_true rfl) (by decide) (by decide) ?_
  refine q_isub C dX1_isThere_15 ?_
  refine q_istore_n (L' := [some (.ref l0), some (.ref l1), some (.int l2), some (.int (v3 - u6))]) C dX1_isThere_16 (by decide) rfl rfl ?_
  refine q_iload_n C dX1_isThere_17 rfl ?_
  refine q_if_lt (tgt := 46) C dX1_isThere_18 (by decide) h (fun _ h => ?_) (fun _ h => ?_)
  · refine x_iconst (v := (0 : Int32)) C dX1_isThere_46 (by decide) ?_
    exact q_zret (res := (r, M)) C dX1_isThere_47 rfl (by decide) (by decide) (q_rqE h).1 (congrArg (fun z => (z, M)) (q_rqE h).2)
  · refine q_iload_n C dX1_isThere_21 rfl ?_
    refine q_aload_n C dX1_isThere_22 rfl ?_
    refine x_getR (ci := 8) (j := 0) C dX1_isThere_23 lkF_X1_51 rfl h (fun c7 h => ?_)
    refine x_nn h (fun r8 h => ?_)
    refine x_bipush (v := (13 : Int32)) C dX1_isThere_26 (by decide) ?_
    refine q_iload_n C dX1_isThere_28 rfl ?_
    refine q_iadd C dX1_isThere_29 ?_
    refine x_iald C dX1_isThere_30 h (fun v9 h => ?_)
    refine q_icmp_ge (tgt := 46) C dX1_isThere_31 (by decide) h (fun _ h => ?_) (fun _ h => ?_)
    · refine q_aload_n C dX1_isThere_34 rfl ?_
      refine q_iload_n C dX1_isThere_35 rfl ?_
      obtain ⟨hk, h⟩ := q_obE h
      obtain ⟨u10, e1, h⟩ := q_bind h
      refine x_callV0 C dX1_isThere_36 lkM_X1_62 mV_X8_hasLeft ⟨_, rfl, rfl⟩ hk (c_X8_hasLeft _ _ _ _ _ e1) rfl rfl (Nat.le_of_ble_eq_true rfl) (by decide) (by decide) ?_
      refine q_if_ne (tgt := 46) C dX1_isThere_39 (by decide) h (fun _ h => ?_) (fun _ h => ?_)
      · refine x_iconst (v := (1 : Int32)) C dX1_isThere_42 (by decide) ?_
        refine q_goto (tgt := 47) C dX1_isThere_43 (by decide) ?_
        exact q_zret (res := (r, M)) C dX1_isThere_47 rfl (by decide) (by decide) (q_rqE h).1 (congrArg (fun z => (z, M)) (q_rqE h).2)
      · refine x_iconst (v := (0 : Int32)) C dX1_isThere_46 (by decide) ?_
        exact q_zret (res := (r, M)) C dX1_isThere_47 rfl (by decide) (by decide) (q_rqE h).1 (congrArg (fun z => (z, M)) (q_rqE h).2)
    · refine x_iconst (v := (0 : Int32)) C dX1_isThere_46 (by decide) ?_
      exact q_zret (res := (r, M)) C dX1_isThere_47 rfl (by decide) (by decide) (q_rqE h).1 (congrArg (fun z => (z, M)) (q_rqE h).2)
noncomputable def F_X3_dishByDay (l0 : Nat) (l1 : Int32) (M : q_Mem) : Option (Int32) := (q_gI M l0 3 4 (fun v1 => (if 0 < v1 then (q_gI M l0 3 4 (fun v2 => (q_rmi l1 v2 (fun v3 => some v3)))) else some (-1 : Int32))))
set_option maxRecDepth 100000 in
set_option maxHeartbeats 4000000 in
theorem c_X3_dishByDay (l : Launch) (G : q_G) (l0 : Nat) (l1 : Int32) (M : q_Mem) {r : Int32} (h : F_X3_dishByDay l0 l1 M = some r) : q_Met l G yX3_dishByDay cX3_dishByDay 2 (Option.some Jvm.ClassFile.FieldType.int) 1 0 0 [.ref l0, .int l1] M (some (.int r)) M := by
  unfold F_X3_dishByDay at h
  refine q_enter [some (.ref l0), some (.int l1)] (by decide) (Nat.le_of_ble_eq_true rfl) rfl (fun K C => ?_)
  refine q_aload_n C dX3_dishByDay_0 rfl ?_
  refine x_getI (ci := 3) (j := 4) C dX3_dishByDay_1 lkF_X3_24 rfl h (fun v1 h => ?_)
  refine q_if_le (tgt := 16) C dX3_dishByDay_4 (by decide) h (fun _ h => ?_) (fun _ h => ?_)
  · refine q_iload_n C dX3_dishByDay_7 rfl ?_
    refine q_aload_n C dX3_dishByDay_8 rfl ?_
    refine x_getI (ci := 3) (j := 4) C dX3_dishByDay_9 lkF_X3_24 rfl h (fun v2 h => ?_)
    refine q_irem C dX3_dishByDay_12 h (fun v3 h => ?_)
    refine q_goto (tgt := 17) C dX3_dishByDay_13 (by decide) ?_
    exact q_iret (res := (r, M)) C dX3_dishByDay_17 rfl (by decide) (by decide) (congrArg (fun z => (z, M)) (Option.some.inj h))
  · refine x_iconst (v := (-1 : Int32)) C dX3_dishByDay_16 (by decide) ?_
    exact q_iret (res := (r, M)) C dX3_dishByDay_17 rfl (by decide) (by decide) (congrArg (fun z => (z, M)) (Option.some.inj h))
noncomputable def F_J6_bitCount_0f7a4 (l0 : Int32) (M : q_Mem) : Option (Int32) := some ((((((((l0 - ((l0.toUInt32 >>> ((1 : Int32).toUInt32 &&& Int32.toUInt32 31)).toInt32 &&& (1431655765 : Int32))) &&& (858993459 : Int32)) + (((l0 - ((l0.toUInt32 >>> ((1 : Int32).toUInt32 &&& Int32.toUInt32 31)).toInt32 &&& (1431655765 : Int32))).toUInt32 >>> ((2 : Int32).toUInt32 &&& Int32.toUInt32 31)).toInt32 &&& (858993459 : Int32))) + ((((l0 - ((l0.toUInt32 >>> ((1 : Int32).toUInt32 &&& Int32.toUInt32 31)).toInt32 &&& (1431655765 : Int32))) &&& (858993459 : Int32)) + (((l0 - ((l0.toUInt32 >>> ((1 : Int32).toUInt32 &&& Int32.toUInt32 31)).toInt32 &&& (1431655765 : Int32))).toUInt32 >>> ((2 : Int32).toUInt32 &&& Int32.toUInt32 31)).toInt32 &&& (858993459 : Int32))).toUInt32 >>> ((4 : Int32).toUInt32 &&& Int32.toUInt32 31)).toInt32) &&& (252645135 : Int32)) + ((((((l0 - ((l0.toUInt32 >>> ((1 : Int32).toUInt32 &&& Int32.toUInt32 31)).toInt32 &&& (1431655765 : Int32))) &&& (858993459 : Int32)) + (((l0 - ((l0.toUInt32 >>> ((1 : Int32).toUInt32 &&& Int32.toUInt32 31)).toInt32 &&& (1431655765 : Int32))).toUInt32 >>> ((2 : Int32).toUInt32 &&& Int32.toUInt32 31)).toInt32 &&& (858993459 : Int32))) + ((((l0 - ((l0.toUInt32 >>> ((1 : Int32).toUInt32 &&& Int32.toUInt32 31)).toInt32 &&& (1431655765 : Int32))) &&& (858993459 : Int32)) + (((l0 - ((l0.toUInt32 >>> ((1 : Int32).toUInt32 &&& Int32.toUInt32 31)).toInt32 &&& (1431655765 : Int32))).toUInt32 >>> ((2 : Int32).toUInt32 &&& Int32.toUInt32 31)).toInt32 &&& (858993459 : Int32))).toUInt32 >>> ((4 : Int32).toUInt32 &&& Int32.toUInt32 31)).toInt32) &&& (252645135 : Int32)).toUInt32 >>> ((8 : Int32).toUInt32 &&& Int32.toUInt32 31)).toInt32) + (((((((l0 - ((l0.toUInt32 >>> ((1 : Int32).toUInt32 &&& Int32.toUInt32 31)).toInt32 &&& (1431655765 : Int32))) &&& (858993459 : Int32)) + (((l0 - ((l0.toUInt32 >>> ((1 : Int32).toUInt32 &&& Int32.toUInt32 31)).toInt32 &&& (1431655765 : Int32))).toUInt32 >>> ((2 : Int32).toUInt32 &&& Int32.toUInt32 31)).toInt32 &&& (858993459 : Int32))) + ((((l0 - ((l0.toUInt32 >>> ((1 : Int32).toUInt32 &&& Int32.toUInt32 31)).toInt32 &&& (1431655765 : Int32))) &&& (858993459 : Int32)) + (((l0 - ((l0.toUInt32 >>> ((1 : Int32).toUInt32 &&& Int32.toUInt32 31)).toInt32 &&& (1431655765 : Int32))).toUInt32 >>> ((2 : Int32).toUInt32 &&& Int32.toUInt32 31)).toInt32 &&& (858993459 : Int32))).toUInt32 >>> ((4 : Int32).toUInt32 &&& Int32.toUInt32 31)).toInt32) &&& (252645135 : Int32)) + ((((((l0 - ((l0.toUInt32 >>> ((1 : Int32).toUInt32 &&& Int32.toUInt32 31)).toInt32 &&& (1431655765 : Int32))) &&& (858993459 : Int32)) + (((l0 - ((l0.toUInt32 >>> ((1 : Int32).toUInt32 &&& Int32.toUInt32 31)).toInt32 &&& (1431655765 : Int32))).toUInt32 >>> ((2 : Int32).toUInt32 &&& Int32.toUInt32 31)).toInt32 &&& (858993459 : Int32))) + ((((l0 - ((l0.toUInt32 >>> ((1 : Int32).toUInt32 &&& Int32.toUInt32 31)).toInt32 &&& (1431655765 : Int32))) &&& (858993459 : Int32)) + (((l0 - ((l0.toUInt32 >>> ((1 : Int32).toUInt32 &&& Int32.toUInt32 31)).toInt32 &&& (1431655765 : Int32))).toUInt32 >>> ((2 : Int32).toUInt32 &&& Int32.toUInt32 31)).toInt32 &&& (858993459 : Int32))).toUInt32 >>> ((4 : Int32).toUInt32 &&& Int32.toUInt32 31)).toInt32) &&& (252645135 : Int32)).toUInt32 >>> ((8 : Int32).toUInt32 &&& Int32.toUInt32 31)).toInt32).toUInt32 >>> ((16 : Int32).toUInt32 &&& Int32.toUInt32 31)).toInt32) &&& (63 : Int32))
set_option maxRecDepth 100000 in
set_option maxHeartbeats 4000000 in
theorem c_J6_bitCount_0f7a4 (l : Launch) (G : q_G) (l0 : Int32) (M : q_Mem) {r : Int32} (h : F_J6_bitCount_0f7a4 l0 M = some r) : q_Met l G yJ6_bitCount_0f7a4 cJ6_bitCount_0f7a4 1 (Option.some Jvm.ClassFile.FieldType.int) 1 0 0 [.int l0] M (some (.int r)) M := by
  unfold F_J6_bitCount_0f7a4 at h
  refine q_enter [some (.int l0)] (by decide) (Nat.le_of_ble_eq_true rfl) rfl (fun K C => ?_)
  refine q_iload_n C dJ6_bitCount_0f7a4_0 rfl ?_
  refine q_iload_n C dJ6_bitCount_0f7a4_1 rfl ?_
  refine x_iconst (v := (1 : Int32)) C dJ6_bitCount_0f7a4_2 (by decide) ?_
  refine q_iushr C dJ6_bitCount_0f7a4_3 ?_
  refine q_ldcw (v := (1431655765 : Int32)) C dJ6_bitCount_0f7a4_4 wd_740 ?_
  refine q_iand C dJ6_bitCount_0f7a4_7 ?_
  refine q_isub C dJ6_bitCount_0f7a4_8 ?_
  refine q_istore_n (L' := [some (.int (l0 - ((l0.toUInt32 >>> ((1 : Int32).toUInt32 &&& Int32.toUInt32 31)).toInt32 &&& (1431655765 : Int32))))]) C dJ6_bitCount_0f7a4_9 (by decide) rfl rfl ?_
  refine q_iload_n C dJ6_bitCount_0f7a4_10 rfl ?_
  refine q_ldcw (v := (858993459 : Int32)) C dJ6_bitCount_0f7a4_11 wd_741 ?_
  refine q_iand C dJ6_bitCount_0f7a4_14 ?_
  refine q_iload_n C dJ6_bitCount_0f7a4_15 rfl ?_
  refine x_iconst (v := (2 : Int32)) C dJ6_bitCount_0f7a4_16 (by decide) ?_
  refine q_iushr C dJ6_bitCount_0f7a4_17 ?_
  refine q_ldcw (v := (858993459 : Int32)) C dJ6_bitCount_0f7a4_18 wd_741 ?_
  refine q_iand C dJ6_bitCount_0f7a4_21 ?_
  refine q_iadd C dJ6_bitCount_0f7a4_22 ?_
  refine q_istore_n (L' := [some (.int (((l0 - ((l0.toUInt32 >>> ((1 : Int32).toUInt32 &&& Int32.toUInt32 31)).toInt32 &&& (1431655765 : Int32))) &&& (858993459 : Int32)) + (((l0 - ((l0.toUInt32 >>> ((1 : Int32).toUInt32 &&& Int32.toUInt32 31)).toInt32 &&& (1431655765 : Int32))).toUInt32 >>> ((2 : Int32).toUInt32 &&& Int32.toUInt32 31)).toInt32 &&& (858993459 : Int32))))]) C dJ6_bitCount_0f7a4_23 (by decide) rfl rfl ?_
  refine q_iload_n C dJ6_bitCount_0f7a4_24 rfl ?_
  refine q_iload_n C dJ6_bitCount_0f7a4_25 rfl ?_
  refine x_iconst (v := (4 : Int32)) C dJ6_bitCount_0f7a4_26 (by decide) ?_
  refine q_iushr C dJ6_bitCount_0f7a4_27 ?_
  refine q_iadd C dJ6_bitCount_0f7a4_28 ?_
  refine q_ldcw (v := (252645135 : Int32)) C dJ6_bitCount_0f7a4_29 wd_742 ?_
  refine q_iand C dJ6_bitCount_0f7a4_32 ?_
  refine q_istore_n (L' := [some (.int (((((l0 - ((l0.toUInt32 >>> ((1 : Int32).toUInt32 &&& Int32.toUInt32 31)).toInt32 &&& (1431655765 : Int32))) &&& (858993459 : Int32)) + (((l0 - ((l0.toUInt32 >>> ((1 : Int32).toUInt32 &&& Int32.toUInt32 31)).toInt32 &&& (1431655765 : Int32))).toUInt32 >>> ((2 : Int32).toUInt32 &&& Int32.toUInt32 31)).toInt32 &&& (858993459 : Int32))) + ((((l0 - ((l0.toUInt32 >>> ((1 : Int32).toUInt32 &&& Int32.toUInt32 31)).toInt32 &&& (1431655765 : Int32))) &&& (858993459 : Int32)) + (((l0 - ((l0.toUInt32 >>> ((1 : Int32).toUInt32 &&& Int32.toUInt32 31)).toInt32 &&& (1431655765 : Int32))).toUInt32 >>> ((2 : Int32).toUInt32 &&& Int32.toUInt32 31)).toInt32 &&& (858993459 : Int32))).toUInt32 >>> ((4 : Int32).toUInt32 &&& Int32.toUInt32 31)).toInt32) &&& (252645135 : Int32)))]) C dJ6_bitCount_0f7a4_33 (by decide) rfl rfl ?_
  refine q_iload_n C dJ6_bitCount_0f7a4_34 rfl ?_
  refine q_iload_n C dJ6_bitCount_0f7a4_35 rfl ?_
  refine x_bipush (v := (8 : Int32)) C dJ6_bitCount_0f7a4_36 (by decide) ?_
  refine q_iushr C dJ6_bitCount_0f7a4_38 ?_
  refine q_iadd C dJ6_bitCount_0f7a4_39 ?_
  refine q_istore_n (L' := [some (.int ((((((l0 - ((l0.toUInt32 >>> ((1 : Int32).toUInt32 &&& Int32.toUInt32 31)).toInt32 &&& (1431655765 : Int32))) &&& (858993459 : Int32)) + (((l0 - ((l0.toUInt32 >>> ((1 : Int32).toUInt32 &&& Int32.toUInt32 31)).toInt32 &&& (1431655765 : Int32))).toUInt32 >>> ((2 : Int32).toUInt32 &&& Int32.toUInt32 31)).toInt32 &&& (858993459 : Int32))) + ((((l0 - ((l0.toUInt32 >>> ((1 : Int32).toUInt32 &&& Int32.toUInt32 31)).toInt32 &&& (1431655765 : Int32))) &&& (858993459 : Int32)) + (((l0 - ((l0.toUInt32 >>> ((1 : Int32).toUInt32 &&& Int32.toUInt32 31)).toInt32 &&& (1431655765 : Int32))).toUInt32 >>> ((2 : Int32).toUInt32 &&& Int32.toUInt32 31)).toInt32 &&& (858993459 : Int32))).toUInt32 >>> ((4 : Int32).toUInt32 &&& Int32.toUInt32 31)).toInt32) &&& (252645135 : Int32)) + ((((((l0 - ((l0.toUInt32 >>> ((1 : Int32).toUInt32 &&& Int32.toUInt32 31)).toInt32 &&& (1431655765 : Int32))) &&& (858993459 : Int32)) + (((l0 - ((l0.toUInt32 >>> ((1 : Int32).toUInt32 &&& Int32.toUInt32 31)).toInt32 &&& (1431655765 : Int32))).toUInt32 >>> ((2 : Int32).toUInt32 &&& Int32.toUInt32 31)).toInt32 &&& (858993459 : Int32))) + ((((l0 - ((l0.toUInt32 >>> ((1 : Int32).toUInt32 &&& Int32.toUInt32 31)).toInt32 &&& (1431655765 : Int32))) &&& (858993459 : Int32)) + (((l0 - ((l0.toUInt32 >>> ((1 : Int32).toUInt32 &&& Int32.toUInt32 31)).toInt32 &&& (1431655765 : Int32))).toUInt32 >>> ((2 : Int32).toUInt32 &&& Int32.toUInt32 31)).toInt32 &&& (858993459 : Int32))).toUInt32 >>> ((4 : Int32).toUInt32 &&& Int32.toUInt32 31)).toInt32) &&& (252645135 : Int32)).toUInt32 >>> ((8 : Int32).toUInt32 &&& Int32.toUInt32 31)).toInt32))]) C dJ6_bitCount_0f7a4_40 (by decide) rfl rfl ?_
  refine q_iload_n C dJ6_bitCount_0f7a4_41 rfl ?_
  refine q_iload_n C dJ6_bitCount_0f7a4_42 rfl ?_
  refine x_bipush (v := (16 : Int32)) C dJ6_bitCount_0f7a4_43 (by decide) ?_
  refine q_iushr C dJ6_bitCount_0f7a4_45 ?_
  refine q_iadd C dJ6_bitCount_0f7a4_46 ?_
  refine q_istore_n (L' := [some (.int (((((((l0 - ((l0.toUInt32 >>> ((1 : Int32).toUInt32 &&& Int32.toUInt32 31)).toInt32 &&& (1431655765 : Int32))) &&& (858993459 : Int32)) + (((l0 - ((l0.toUInt32 >>> ((1 : Int32).toUInt32 &&& Int32.toUInt32 31)).toInt32 &&& (1431655765 : Int32))).toUInt32 >>> ((2 : Int32).toUInt32 &&& Int32.toUInt32 31)).toInt32 &&& (858993459 : Int32))) + ((((l0 - ((l0.toUInt32 >>> ((1 : Int32).toUInt32 &&& Int32.toUInt32 31)).toInt32 &&& (1431655765 : Int32))) &&& (858993459 : Int32)) + (((l0 - ((l0.toUInt32 >>> ((1 : Int32).toUInt32 &&& Int32.toUInt32 31)).toInt32 &&& (1431655765 : Int32))).toUInt32 >>> ((2 : Int32).toUInt32 &&& Int32.toUInt32 31)).toInt32 &&& (858993459 : Int32))).toUInt32 >>> ((4 : Int32).toUInt32 &&& Int32.toUInt32 31)).toInt32) &&& (252645135 : Int32)) + ((((((l0 - ((l0.toUInt32 >>> ((1 : Int32).toUInt32 &&& Int32.toUInt32 31)).toInt32 &&& (1431655765 : Int32))) &&& (858993459 : Int32)) + (((l0 - ((l0.toUInt32 >>> ((1 : Int32).toUInt32 &&& Int32.toUInt32 31)).toInt32 &&& (1431655765 : Int32))).toUInt32 >>> ((2 : Int32).toUInt32 &&& Int32.toUInt32 31)).toInt32 &&& (858993459 : Int32))) + ((((l0 - ((l0.toUInt32 >>> ((1 : Int32).toUInt32 &&& Int32.toUInt32 31)).toInt32 &&& (1431655765 : Int32))) &&& (858993459 : Int32)) + (((l0 - ((l0.toUInt32 >>> ((1 : Int32).toUInt32 &&& Int32.toUInt32 31)).toInt32 &&& (1431655765 : Int32))).toUInt32 >>> ((2 : Int32).toUInt32 &&& Int32.toUInt32 31)).toInt32 &&& (858993459 : Int32))).toUInt32 >>> ((4 : Int32).toUInt32 &&& Int32.toUInt32 31)).toInt32) &&& (252645135 : Int32)).toUInt32 >>> ((8 : Int32).toUInt32 &&& Int32.toUInt32 31)).toInt32) + (((((((l0 - ((l0.toUInt32 >>> ((1 : Int32).toUInt32 &&& Int32.toUInt32 31)).toInt32 &&& (1431655765 : Int32))) &&& (858993459 : Int32)) + (((l0 - ((l0.toUInt32 >>> ((1 : Int32).toUInt32 &&& Int32.toUInt32 31)).toInt32 &&& (1431655765 : Int32))).toUInt32 >>> ((2 : Int32).toUInt32 &&& Int32.toUInt32 31)).toInt32 &&& (858993459 : Int32))) + ((((l0 - ((l0.toUInt32 >>> ((1 : Int32).toUInt32 &&& Int32.toUInt32 31)).toInt32 &&& (1431655765 : Int32))) &&& (858993459 : Int32)) + (((l0 - ((l0.toUInt32 >>> ((1 : Int32).toUInt32 &&& Int32.toUInt32 31)).toInt32 &&& (1431655765 : Int32))).toUInt32 >>> ((2 : Int32).toUInt32 &&& Int32.toUInt32 31)).toInt32 &&& (858993459 : Int32))).toUInt32 >>> ((4 : Int32).toUInt32 &&& Int32.toUInt32 31)).toInt32) &&& (252645135 : Int32)) + ((((((l0 - ((l0.toUInt32 >>> ((1 : Int32).toUInt32 &&& Int32.toUInt32 31)).toInt32 &&& (1431655765 : Int32))) &&& (858993459 : Int32)) + (((l0 - ((l0.toUInt32 >>> ((1 : Int32).toUInt32 &&& Int32.toUInt32 31)).toInt32 &&& (1431655765 : Int32))).toUInt32 >>> ((2 : Int32).toUInt32 &&& Int32.toUInt32 31)).toInt32 &&& (858993459 : Int32))) + ((((l0 - ((l0.toUInt32 >>> ((1 : Int32).toUInt32 &&& Int32.toUInt32 31)).toInt32 &&& (1431655765 : Int32))) &&& (858993459 : Int32)) + (((l0 - ((l0.toUInt32 >>> ((1 : Int32).toUInt32 &&& Int32.toUInt32 31)).toInt32 &&& (1431655765 : Int32))).toUInt32 >>> ((2 : Int32).toUInt32 &&& Int32.toUInt32 31)).toInt32 &&& (858993459 : Int32))).toUInt32 >>> ((4 : Int32).toUInt32 &&& Int32.toUInt32 31)).toInt32) &&& (252645135 : Int32)).toUInt32 >>> ((8 : Int32).toUInt32 &&& Int32.toUInt32 31)).toInt32).toUInt32 >>> ((16 : Int32).toUInt32 &&& Int32.toUInt32 31)).toInt32))]) C dJ6_bitCount_0f7a4_47 (by decide) rfl rfl ?_
  refine q_iload_n C dJ6_bitCount_0f7a4_48 rfl ?_
  refine x_bipush (v := (63 : Int32)) C dJ6_bitCount_0f7a4_49 (by decide) ?_
  refine q_iand C dJ6_bitCount_0f7a4_51 ?_
  exact q_iret (res := (r, M)) C dJ6_bitCount_0f7a4_52 rfl (by decide) (by decide) (congrArg (fun z => (z, M)) (Option.some.inj h))
noncomputable def F_X3_ofDish (l0 : Nat) (l1 : Int32) (l2 : Int32) (M : q_Mem) : Option (Int32) := (if ((l1 * (3 : Int32)) + l2) < 0 then some (0 : Int32) else (q_gR M l0 3 1 (fun c1 => q_nn c1 (fun r2 => (q_al M r2 (fun v3 => (if ((l1 * (3 : Int32)) + l2) < v3 then (q_gR M l0 3 1 (fun c4 => q_nn c4 (fun r5 => (q_lI M 0 r5 ((l1 * (3 : Int32)) + l2) (fun v6 => some v6))))) else some (0 : Int32))))))))
set_option maxRecDepth 100000 in
set_option maxHeartbeats 4000000 in
theorem c_X3_ofDish (l : Launch) (G : q_G) (l0 : Nat) (l1 : Int32) (l2 : Int32) (M : q_Mem) {r : Int32} (h : F_X3_ofDish l0 l1 l2 M = some r) : q_Met l G yX3_ofDish cX3_ofDish 4 (Option.some Jvm.ClassFile.FieldType.int) 1 0 0 [.ref l0, .int l1, .int l2] M (some (.int r)) M := by
  unfold F_X3_ofDish at h
  refine q_enter [some (.ref l0), some (.int l1), some (.int l2), none] (by decide) (Nat.le_of_ble_eq_true rfl) rfl (fun K C => ?_)
  refine q_iload_n C dX3_ofDish_0 rfl ?_
  refine x_iconst (v := (3 : Int32)) C dX3_ofDish_1 (by decide) ?_
  refine q_imul C dX3_ofDish_2 ?_
  refine q_iload_n C dX3_ofDish_3 rfl ?_
  refine q_iadd C dX3_ofDish_4 ?_
  refine q_istore_n (L' := [some (.ref l0), some (.int l1), some (.int l2), some (.int ((l1 * (3 : Int32)) + l2))]) C dX3_ofDish_5 (by decide) rfl rfl ?_
  refine q_iload_n C dX3_ofDish_6 rfl ?_
  refine q_if_lt (tgt := 28) C dX3_ofDish_7 (by decide) h (fun _ h => ?_) (fun _ h => ?_)
  · refine x_iconst (v := (0 : Int32)) C dX3_ofDish_28 (by decide) ?_
    exact q_iret (res := (r, M)) C dX3_ofDish_29 rfl (by decide) (by decide) (congrArg (fun z => (z, M)) (Option.some.inj h))
  · refine q_iload_n C dX3_ofDish_10 rfl ?_
    refine q_aload_n C dX3_ofDish_11 rfl ?_
    refine x_getR (ci := 3) (j := 1) C dX3_ofDish_12 lkF_X3_15 rfl h (fun c1 h => ?_)
    refine x_nn h (fun r2 h => ?_)
    refine x_alen C dX3_ofDish_15 h (fun v3 h => ?_)
    refine q_icmp_ge (tgt := 28) C dX3_ofDish_16 (by decide) h (fun _ h => ?_) (fun _ h => ?_)
    · refine q_aload_n C dX3_ofDish_19 rfl ?_
      refine x_getR (ci := 3) (j := 1) C dX3_ofDish_20 lkF_X3_15 rfl h (fun c4 h => ?_)
      refine x_nn h (fun r5 h => ?_)
      refine q_iload_n C dX3_ofDish_23 rfl ?_
      refine x_iald C dX3_ofDish_24 h (fun v6 h => ?_)
      refine q_goto (tgt := 29) C dX3_ofDish_25 (by decide) ?_
      exact q_iret (res := (r, M)) C dX3_ofDish_29 rfl (by decide) (by decide) (congrArg (fun z => (z, M)) (Option.some.inj h))
    · refine x_iconst (v := (0 : Int32)) C dX3_ofDish_28 (by decide) ?_
      exact q_iret (res := (r, M)) C dX3_ofDish_29 rfl (by decide) (by decide) (congrArg (fun z => (z, M)) (Option.some.inj h))
noncomputable def J_X1_serve_123 (s0 : Nat) (s1 : Int32) (M : q_Mem) : Option (Unit × q_Mem) := (q_pI M s0 1 8 s1 (fun M14 => some ((), M14)))
set_option maxRecDepth 100000 in
set_option maxHeartbeats 4000000 in
theorem jW_X1_serve_123 {K : q_K} (C : q_C K yX1_serve cX1_serve 4 (Option.none : Option Jvm.ClassFile.FieldType) 2 0 0) (s0 : Nat) (s1 : Int32) (M : q_Mem) {r : Unit} {M' : q_Mem} (h : J_X1_serve_123 s0 s1 M = some (r, M')) : q_W K 4 (q_Q K none M' 0 0) 0 0 M 123 [none, none, none, none] [.int s1, .ref s0] := by
  unfold J_X1_serve_123 at h
  refine x_putI (ci := 1) (j := 8) C dX1_serve_123 lkF_X1_35 (fun r hr => by cases hr; rfl) rfl h (fun M14 h => ?_)
  exact q_vret C dX1_serve_126 rfl (by decide) (by decide) (Option.some.inj h)
noncomputable def J_X1_serve_82 (l0 : Nat) (l2 : Int32) (M : q_Mem) : Option (Unit × q_Mem) := (q_gI M l0 1 7 (fun v13 => (if v13 = (-1 : Int32) then J_X1_serve_123 l0 (0 : Int32) M else (q_gR M l0 1 0 (fun c15 => q_nn c15 (fun r16 => (q_gI M l0 1 7 (fun v17 => (q_ob M r16 3 ((F_X3_ofDish r16 v17 (0 : Int32) M).bind (fun u18 => (q_gR M l0 1 0 (fun c19 => q_nn c19 (fun r20 => (q_gR M r20 3 0 (fun c21 => q_nn c21 (fun r22 => (q_lI M 0 r22 (1 : Int32) (fun v23 => J_X1_serve_123 l0 (q_mx (0 : Int32) (u18 - (v23 * l2))) M)))))))))))))))))))
set_option maxRecDepth 100000 in
set_option maxHeartbeats 4000000 in
theorem jW_X1_serve_82 {K : q_K} (C : q_C K yX1_serve cX1_serve 4 (Option.none : Option Jvm.ClassFile.FieldType) 2 0 0) (l0 : Nat) (l2 : Int32) (M : q_Mem) {r : Unit} {M' : q_Mem} (h : J_X1_serve_82 l0 l2 M = some (r, M')) : q_W K 4 (q_Q K none M' 0 0) 0 0 M 82 [some (.ref l0), none, some (.int l2), none] [] := by
  unfold J_X1_serve_82 at h
  refine q_aload_n C dX1_serve_82 rfl ?_
  refine q_aload_n C dX1_serve_83 rfl ?_
  refine x_getI (ci := 1) (j := 7) C dX1_serve_84 lkF_X1_32 rfl h (fun v13 h => ?_)
  refine x_iconst (v := (-1 : Int32)) C dX1_serve_87 (by decide) ?_
  refine q_icmp_ne (tgt := 95) C dX1_serve_88 (by decide) h (fun _ h => ?_) (fun _ h => ?_)
  · refine x_iconst (v := (0 : Int32)) C dX1_serve_91 (by decide) ?_
    refine q_goto (tgt := 123) C dX1_serve_92 (by decide) ?_
    exact q_msk [false, false, false, false] (jW_X1_serve_123 C l0 (0 : Int32) M h)
  · refine x_iconst (v := (0 : Int32)) C dX1_serve_95 (by decide) ?_
    refine q_aload_n C dX1_serve_96 rfl ?_
    refine x_getR (ci := 1) (j := 0) C dX1_serve_97 lkF_X1_47 rfl h (fun c15 h => ?_)
    refine x_nn h (fun r16 h => ?_)
    refine q_aload_n C dX1_serve_100 rfl ?_
    refine x_getI (ci := 1) (j := 7) C dX1_serve_101 lkF_X1_32 rfl h (fun v17 h => ?_)
    refine x_iconst (v := (0 : Int32)) C dX1_serve_104 (by decide) ?_
    obtain ⟨hk, h⟩ := q_obE h
    obtain ⟨u18, e1, h⟩ := q_bind h
    refine x_callV0 C dX1_serve_105 lkM_X1_89 mV_X3_ofDish ⟨_, rfl, rfl⟩ hk (c_X3_ofDish _ _ _ _ _ _ e1) rfl rfl (Nat.le_of_ble_eq_true rfl) (by decide) (by decide) ?_
    refine q_aload_n C dX1_serve_108 rfl ?_
    refine x_getR (ci := 1) (j := 0) C dX1_serve_109 lkF_X1_47 rfl h (fun c19 h => ?_)
    refine x_nn h (fun r20 h => ?_)
    refine x_getR (ci := 3) (j := 0) C dX1_serve_112 lkF_X1_92 rfl h (fun c21 h => ?_)
    refine x_nn h (fun r22 h => ?_)
    refine x_iconst (v := (1 : Int32)) C dX1_serve_115 (by decide) ?_
    refine x_iald C dX1_serve_116 h (fun v23 h => ?_)
    refine q_iload_n C dX1_serve_117 rfl ?_
    refine q_imul C dX1_serve_118 ?_
    refine q_isub C dX1_serve_119 ?_
    refine q_max C dX1_serve_120 wd_748 wd_467 wd_15 wd_468 (by decide) (Nat.le_of_ble_eq_true rfl) (by decide) ?_
    exact q_msk [false, false, false, false] (jW_X1_serve_123 C l0 (q_mx (0 : Int32) (u18 - (v23 * l2))) M h)
noncomputable def F_X1_serve (l0 : Nat) (l1 : Nat) (M : q_Mem) : Option (Unit × q_Mem) := (q_gR M l1 8 0 (fun c1 => q_nn c1 (fun r2 => (q_lI M 0 r2 (1 : Int32) (fun v3 => (q_gR M l1 8 0 (fun c4 => q_nn c4 (fun r5 => (q_lI M 0 r5 (0 : Int32) (fun v6 => (q_pI M l0 1 7 (-1 : Int32) (fun M7 => (q_pI M7 l0 1 9 (0 : Int32) (fun M8 => (if v3 = 0 then (q_gI M8 l0 1 5 (fun v9 => (q_pI M8 l0 1 7 v9 (fun M10 => (q_gI M10 l0 1 6 (fun v11 => (q_pI M10 l0 1 9 v11 (fun M12 => J_X1_serve_82 l0 v3 M12)))))))) else (if (v6 - v3) < 0 then J_X1_serve_82 l0 v3 M8 else (q_gR M8 l1 8 0 (fun c24 => q_nn c24 (fun r25 => (q_lI M8 0 r25 ((5 : Int32) + ((v6 - v3) &&& (3 : Int32))) (fun v26 => (q_pI M8 l0 1 7 v26 (fun M27 => (q_gR M27 l1 8 0 (fun c28 => q_nn c28 (fun r29 => (q_lI M27 0 r29 ((9 : Int32) + ((v6 - v3) &&& (3 : Int32))) (fun v30 => (q_pI M27 l0 1 9 v30 (fun M31 => J_X1_serve_82 l0 v3 M31))))))))))))))))))))))))))))))
set_option maxRecDepth 100000 in
set_option maxHeartbeats 4000000 in
theorem c_X1_serve (l : Launch) (G : q_G) (l0 : Nat) (l1 : Nat) (M : q_Mem) {r : Unit} {M' : q_Mem} (h : F_X1_serve l0 l1 M = some (r, M')) : q_Met l G yX1_serve cX1_serve 4 (Option.none : Option Jvm.ClassFile.FieldType) 2 0 0 [.ref l0, .ref l1] M none M' := by
  unfold F_X1_serve at h
  refine q_enter [some (.ref l0), some (.ref l1), none, none] (by decide) (Nat.le_of_ble_eq_true rfl) rfl (fun K C => ?_)
  refine q_aload_n C dX1_serve_0 rfl ?_
  refine x_getR (ci := 8) (j := 0) C dX1_serve_1 lkF_X1_51 rfl h (fun c1 h => ?_)
  refine x_nn h (fun r2 h => ?_)
  refine x_iconst (v := (1 : Int32)) C dX1_serve_4 (by decide) ?_
  refine x_iald C dX1_serve_5 h (fun v3 h => ?_)
  refine q_istore_n (L' := [some (.ref l0), some (.ref l1), some (.int v3), none]) C dX1_serve_6 (by decide) rfl rfl ?_
  refine q_aload_n C dX1_serve_7 rfl ?_
  refine x_getR (ci := 8) (j := 0) C dX1_serve_8 lkF_X1_51 rfl h (fun c4 h => ?_)
  refine x_nn h (fun r5 h => ?_)
  refine x_iconst (v := (0 : Int32)) C dX1_serve_11 (by decide) ?_
  refine x_iald C dX1_serve_12 h (fun v6 h => ?_)
  refine q_iload_n C dX1_serve_13 rfl ?_
  refine q_isub C dX1_serve_14 ?_
  refine q_istore_n (L' := [some (.ref l0), some (.ref l1), some (.int v3), some (.int (v6 - v3))]) C dX1_serve_15 (by decide) rfl rfl ?_
  refine q_aload_n C dX1_serve_16 rfl ?_
  refine x_iconst (v := (-1 : Int32)) C dX1_serve_17 (by decide) ?_
  refine x_putI (ci := 1) (j := 7) C dX1_serve_18 lkF_X1_32 (fun r hr => by cases hr; rfl) rfl h (fun M7 h => ?_)
  refine q_aload_n C dX1_serve_21 rfl ?_
  refine x_iconst (v := (0 : Int32)) C dX1_serve_22 (by decide) ?_
  refine x_putI (ci := 1) (j := 9) C dX1_serve_23 lkF_X1_38 (fun r hr => by cases hr; rfl) rfl h (fun M8 h => ?_)
  refine q_iload_n C dX1_serve_26 rfl ?_
  refine q_if_ne (tgt := 49) C dX1_serve_27 (by decide) h (fun _ h => ?_) (fun _ h => ?_)
  · refine q_aload_n C dX1_serve_30 rfl ?_
    refine q_aload_n C dX1_serve_31 rfl ?_
    refine x_getI (ci := 1) (j := 5) C dX1_serve_32 lkF_X1_26 rfl h (fun v9 h => ?_)
    refine x_putI (ci := 1) (j := 7) C dX1_serve_35 lkF_X1_32 (fun r hr => by cases hr; rfl) rfl h (fun M10 h => ?_)
    refine q_aload_n C dX1_serve_38 rfl ?_
    refine q_aload_n C dX1_serve_39 rfl ?_
    refine x_getI (ci := 1) (j := 6) C dX1_serve_40 lkF_X1_29 rfl h (fun v11 h => ?_)
    refine x_putI (ci := 1) (j := 9) C dX1_serve_43 lkF_X1_38 (fun r hr => by cases hr; rfl) rfl h (fun M12 h => ?_)
    refine q_goto (tgt := 82) C dX1_serve_46 (by decide) ?_
    exact q_msk [true, false, true, false] (jW_X1_serve_82 C l0 v3 M12 h)
  · refine q_iload_n C dX1_serve_49 rfl ?_
    refine q_if_lt (tgt := 82) C dX1_serve_50 (by decide) h (fun _ h => ?_) (fun _ h => ?_)
    · exact q_msk [true, false, true, false] (jW_X1_serve_82 C l0 v3 M8 h)
    · refine q_aload_n C dX1_serve_53 rfl ?_
      refine q_aload_n C dX1_serve_54 rfl ?_
      refine x_getR (ci := 8) (j := 0) C dX1_serve_55 lkF_X1_51 rfl h (fun c24 h => ?_)
      refine x_nn h (fun r25 h => ?_)
      refine x_iconst (v := (5 : Int32)) C dX1_serve_58 (by decide) ?_
      refine q_iload_n C dX1_serve_59 rfl ?_
      refine x_iconst (v := (3 : Int32)) C dX1_serve_60 (by decide) ?_
      refine q_iand C dX1_serve_61 ?_
      refine q_iadd C dX1_serve_62 ?_
      refine x_iald C dX1_serve_63 h (fun v26 h => ?_)
      refine x_putI (ci := 1) (j := 7) C dX1_serve_64 lkF_X1_32 (fun r hr => by cases hr; rfl) rfl h (fun M27 h => ?_)
      refine q_aload_n C dX1_serve_67 rfl ?_
      refine q_aload_n C dX1_serve_68 rfl ?_
      refine x_getR (ci := 8) (j := 0) C dX1_serve_69 lkF_X1_51 rfl h (fun c28 h => ?_)
      refine x_nn h (fun r29 h => ?_)
      refine x_bipush (v := (9 : Int32)) C dX1_serve_72 (by decide) ?_
      refine q_iload_n C dX1_serve_74 rfl ?_
      refine x_iconst (v := (3 : Int32)) C dX1_serve_75 (by decide) ?_
      refine q_iand C dX1_serve_76 ?_
      refine q_iadd C dX1_serve_77 ?_
      refine x_iald C dX1_serve_78 h (fun v30 h => ?_)
      refine x_putI (ci := 1) (j := 9) C dX1_serve_79 lkF_X1_38 (fun r hr => by cases hr; rfl) rfl h (fun M31 h => ?_)
      exact q_msk [true, false, true, false] (jW_X1_serve_82 C l0 v3 M31 h)
noncomputable def J_X1_feedThose_95_12 (l0 : Nat) (l1 : Nat) (l2 : Int32) (l3 : Int32) (M : q_Mem) : Option ((Int32 × Int32 × q_Mem) ⊕ (Int32 × q_Mem)) := some (.inl (l2, (l3 + (1 : Int32)), M))
set_option maxRecDepth 100000 in
set_option maxHeartbeats 4000000 in
theorem jW_X1_feedThose_95_12 {K : q_K} {Q : State → Prop} (C : q_C K yX1_feedThose cX1_feedThose 6 (Option.none : Option Jvm.ClassFile.FieldType) 2 0 0) (l0 : Nat) (l1 : Nat) (l2 : Int32) (l3 : Int32) (M : q_Mem) {stp : (Int32 × Int32 × q_Mem) ⊕ (Int32 × q_Mem)} (h : J_X1_feedThose_95_12 l0 l1 l2 l3 M = some stp) (kC : ∀ (l2 : Int32) (l3 : Int32) (M : q_Mem), stp = .inl (l2, l3, M) → q_W K 6 Q 0 0 M 12 [some (.ref l0), some (.ref l1), some (.int l2), some (.int l3), none, none] []) (kE0 : ∀ (l2 : Int32) (M : q_Mem), stp = .inr (l2, M) → q_W K 6 Q 0 0 M 101 [some (.ref l0), some (.ref l1), some (.int l2), none, none, none] []) : q_W K 6 Q 0 0 M 95 [some (.ref l0), some (.ref l1), some (.int l2), some (.int l3), none, none] [] := by
  unfold J_X1_feedThose_95_12 at h
  refine x_iinc (w := (1 : Int32)) (L' := [some (.ref l0), some (.ref l1), some (.int l2), some (.int (l3 + (1 : Int32))), none, none]) C dX1_feedThose_95 rfl (by decide) (by decide) rfl rfl ?_
  refine q_goto (tgt := 12) C dX1_feedThose_98 (by decide) ?_
  exact q_msk [true, true, true, true, false, false] (kC _ _ _ (Option.some.inj h).symm)
noncomputable def J_X1_feedThose_73_12 (l0 : Nat) (l1 : Nat) (l2 : Int32) (l3 : Int32) (l4 : Int32) (l5 : Int32) (s0 : Nat) (s1 : Int32) (s2 : Int32) (M : q_Mem) : Option ((Int32 × Int32 × q_Mem) ⊕ (Int32 × q_Mem)) := (q_tI M s0 s1 s2 (fun M14 => (if l5 = 0 then J_X1_feedThose_95_12 l0 l1 l2 l3 M14 else (q_gI M14 l0 1 10 (fun v15 => (q_pI M14 l0 1 10 (v15 ||| ((1 : Int32) <<< (l4 &&& 31))) (fun M16 => J_X1_feedThose_95_12 l0 l1 (l2 + (-1 : Int32)) l3 M16)))))))
set_option maxRecDepth 100000 in
set_option maxHeartbeats 4000000 in
theorem jW_X1_feedThose_73_12 {K : q_K} {Q : State → Prop} (C : q_C K yX1_feedThose cX1_feedThose 6 (Option.none : Option Jvm.ClassFile.FieldType) 2 0 0) (l0 : Nat) (l1 : Nat) (l2 : Int32) (l3 : Int32) (l4 : Int32) (l5 : Int32) (s0 : Nat) (s1 : Int32) (s2 : Int32) (M : q_Mem) {stp : (Int32 × Int32 × q_Mem) ⊕ (Int32 × q_Mem)} (h : J_X1_feedThose_73_12 l0 l1 l2 l3 l4 l5 s0 s1 s2 M = some stp) (kC : ∀ (l2 : Int32) (l3 : Int32) (M : q_Mem), stp = .inl (l2, l3, M) → q_W K 6 Q 0 0 M 12 [some (.ref l0), some (.ref l1), some (.int l2), some (.int l3), none, none] []) (kE0 : ∀ (l2 : Int32) (M : q_Mem), stp = .inr (l2, M) → q_W K 6 Q 0 0 M 101 [some (.ref l0), some (.ref l1), some (.int l2), none, none, none] []) : q_W K 6 Q 0 0 M 73 [some (.ref l0), some (.ref l1), some (.int l2), some (.int l3), some (.int l4), some (.int l5)] [.int s2, .int s1, .ref s0] := by
  unfold J_X1_feedThose_73_12 at h
  refine x_iast C dX1_feedThose_73 h (fun M14 h => ?_)
  refine q_iload C dX1_feedThose_74 rfl ?_
  refine q_if_eq (tgt := 95) C dX1_feedThose_76 (by decide) h (fun _ h => ?_) (fun _ h => ?_)
  · exact q_msk [true, true, true, true, false, false] (jW_X1_feedThose_95_12 C l0 l1 l2 l3 M14 h kC kE0)
  · refine q_aload_n C dX1_feedThose_79 rfl ?_
    refine q_dup C dX1_feedThose_80 rfl ?_
    refine x_getI (ci := 1) (j := 10) C dX1_feedThose_81 lkF_X1_41 rfl h (fun v15 h => ?_)
    refine x_iconst (v := (1 : Int32)) C dX1_feedThose_84 (by decide) ?_
    refine q_iload C dX1_feedThose_85 rfl ?_
    refine q_ishl C dX1_feedThose_87 ?_
    refine q_ior C dX1_feedThose_88 ?_
    refine x_putI (ci := 1) (j := 10) C dX1_feedThose_89 lkF_X1_41 (fun r hr => by cases hr; rfl) rfl h (fun M16 h => ?_)
    refine x_iinc (w := (-1 : Int32)) (L' := [some (.ref l0), some (.ref l1), some (.int (l2 + (-1 : Int32))), some (.int l3), some (.int l4), some (.int l5)]) C dX1_feedThose_92 rfl (by decide) (by decide) rfl rfl ?_
    exact q_msk [true, true, true, true, false, false] (jW_X1_feedThose_95_12 C l0 l1 (l2 + (-1 : Int32)) l3 M16 h kC kE0)
noncomputable def J_X1_feedThose_55_12 (l0 : Nat) (l1 : Nat) (l2 : Int32) (l3 : Int32) (l4 : Int32) (s0 : Int32) (M : q_Mem) : Option ((Int32 × Int32 × q_Mem) ⊕ (Int32 × q_Mem)) := (q_gR M l0 1 1 (fun c12 => q_nn c12 (fun r13 => (if s0 = 0 then J_X1_feedThose_73_12 l0 l1 l2 l3 l4 s0 r13 l4 (0 : Int32) M else J_X1_feedThose_73_12 l0 l1 l2 l3 l4 s0 r13 l4 (1 : Int32) M))))
set_option maxRecDepth 100000 in
set_option maxHeartbeats 4000000 in
theorem jW_X1_feedThose_55_12 {K : q_K} {Q : State → Prop} (C : q_C K yX1_feedThose cX1_feedThose 6 (Option.none : Option Jvm.ClassFile.FieldType) 2 0 0) (l0 : Nat) (l1 : Nat) (l2 : Int32) (l3 : Int32) (l4 : Int32) (s0 : Int32) (M : q_Mem) {stp : (Int32 × Int32 × q_Mem) ⊕ (Int32 × q_Mem)} (h : J_X1_feedThose_55_12 l0 l1 l2 l3 l4 s0 M = some stp) (kC : ∀ (l2 : Int32) (l3 : Int32) (M : q_Mem), stp = .inl (l2, l3, M) → q_W K 6 Q 0 0 M 12 [some (.ref l0), some (.ref l1), some (.int l2), some (.int l3), none, none] []) (kE0 : ∀ (l2 : Int32) (M : q_Mem), stp = .inr (l2, M) → q_W K 6 Q 0 0 M 101 [some (.ref l0), some (.ref l1), some (.int l2), none, none, none] []) : q_W K 6 Q 0 0 M 55 [some (.ref l0), some (.ref l1), some (.int l2), some (.int l3), some (.int l4), none] [.int s0] := by
  unfold J_X1_feedThose_55_12 at h
  refine q_istore (L' := [some (.ref l0), some (.ref l1), some (.int l2), some (.int l3), some (.int l4), some (.int s0)]) C dX1_feedThose_55 (by decide) rfl rfl ?_
  refine q_aload_n C dX1_feedThose_57 rfl ?_
  refine x_getR (ci := 1) (j := 1) C dX1_feedThose_58 lkF_X1_9 rfl h (fun c12 h => ?_)
  refine x_nn h (fun r13 h => ?_)
  refine q_iload C dX1_feedThose_61 rfl ?_
  refine q_iload C dX1_feedThose_63 rfl ?_
  refine q_if_eq (tgt := 72) C dX1_feedThose_65 (by decide) h (fun _ h => ?_) (fun _ h => ?_)
  · refine x_iconst (v := (0 : Int32)) C dX1_feedThose_72 (by decide) ?_
    exact q_msk [true, true, true, true, true, true] (jW_X1_feedThose_73_12 C l0 l1 l2 l3 l4 s0 r13 l4 (0 : Int32) M h kC kE0)
  · refine x_iconst (v := (1 : Int32)) C dX1_feedThose_68 (by decide) ?_
    refine q_goto (tgt := 73) C dX1_feedThose_69 (by decide) ?_
    exact q_msk [true, true, true, true, true, true] (jW_X1_feedThose_73_12 C l0 l1 l2 l3 l4 s0 r13 l4 (1 : Int32) M h kC kE0)
noncomputable def J_X1_feedThose_54_12 (l0 : Nat) (l1 : Nat) (l2 : Int32) (l3 : Int32) (l4 : Int32) (M : q_Mem) : Option ((Int32 × Int32 × q_Mem) ⊕ (Int32 × q_Mem)) := J_X1_feedThose_55_12 l0 l1 l2 l3 l4 (0 : Int32) M
set_option maxRecDepth 100000 in
set_option maxHeartbeats 4000000 in
theorem jW_X1_feedThose_54_12 {K : q_K} {Q : State → Prop} (C : q_C K yX1_feedThose cX1_feedThose 6 (Option.none : Option Jvm.ClassFile.FieldType) 2 0 0) (l0 : Nat) (l1 : Nat) (l2 : Int32) (l3 : Int32) (l4 : Int32) (M : q_Mem) {stp : (Int32 × Int32 × q_Mem) ⊕ (Int32 × q_Mem)} (h : J_X1_feedThose_54_12 l0 l1 l2 l3 l4 M = some stp) (kC : ∀ (l2 : Int32) (l3 : Int32) (M : q_Mem), stp = .inl (l2, l3, M) → q_W K 6 Q 0 0 M 12 [some (.ref l0), some (.ref l1), some (.int l2), some (.int l3), none, none] []) (kE0 : ∀ (l2 : Int32) (M : q_Mem), stp = .inr (l2, M) → q_W K 6 Q 0 0 M 101 [some (.ref l0), some (.ref l1), some (.int l2), none, none, none] []) : q_W K 6 Q 0 0 M 54 [some (.ref l0), some (.ref l1), some (.int l2), some (.int l3), some (.int l4), none] [] := by
  unfold J_X1_feedThose_54_12 at h
  refine x_iconst (v := (0 : Int32)) C dX1_feedThose_54 (by decide) ?_
  exact q_msk [true, true, true, true, true, false] (jW_X1_feedThose_55_12 C l0 l1 l2 l3 l4 (0 : Int32) M h kC kE0)
noncomputable def B_X1_feedThose_12 (l0 : Nat) (l1 : Nat) (l2 : Int32) (l3 : Int32) (M : q_Mem) : Option ((Int32 × Int32 × q_Mem) ⊕ (Int32 × q_Mem)) := (q_gR M l0 1 0 (fun c3 => q_nn c3 (fun r4 => (q_gI M r4 3 5 (fun v5 => (if l3 < v5 then (q_gR M l0 1 0 (fun c6 => q_nn c6 (fun r7 => (q_gR M r7 3 3 (fun c8 => q_nn c8 (fun r9 => (q_lI M 0 r9 l3 (fun v10 => (if 0 < l2 then (q_gI M l0 1 4 (fun v11 => (if ((v11 >>> (v10 &&& 31)) &&& (1 : Int32)) = 0 then J_X1_feedThose_54_12 l0 l1 l2 l3 v10 M else J_X1_feedThose_55_12 l0 l1 l2 l3 v10 (1 : Int32) M))) else J_X1_feedThose_54_12 l0 l1 l2 l3 v10 M))))))))) else some (.inr (l2, M))))))))
set_option maxRecDepth 100000 in
set_option maxHeartbeats 4000000 in
theorem bW_X1_feedThose_12 {K : q_K} {Q : State → Prop} (C : q_C K yX1_feedThose cX1_feedThose 6 (Option.none : Option Jvm.ClassFile.FieldType) 2 0 0) (l0 : Nat) (l1 : Nat) (l2 : Int32) (l3 : Int32) (M : q_Mem) {stp : (Int32 × Int32 × q_Mem) ⊕ (Int32 × q_Mem)} (h : B_X1_feedThose_12 l0 l1 l2 l3 M = some stp) (kC : ∀ (l2 : Int32) (l3 : Int32) (M : q_Mem), stp = .inl (l2, l3, M) → q_W K 6 Q 0 0 M 12 [some (.ref l0), some (.ref l1), some (.int l2), some (.int l3), none, none] []) (kE0 : ∀ (l2 : Int32) (M : q_Mem), stp = .inr (l2, M) → q_W K 6 Q 0 0 M 101 [some (.ref l0), some (.ref l1), some (.int l2), none, none, none] []) : q_W K 6 Q 0 0 M 12 [some (.ref l0), some (.ref l1), some (.int l2), some (.int l3), none, none] [] := by
  unfold B_X1_feedThose_12 at h
  refine q_iload_n C dX1_feedThose_12 rfl ?_
  refine q_aload_n C dX1_feedThose_13 rfl ?_
  refine x_getR (ci := 1) (j := 0) C dX1_feedThose_14 lkF_X1_47 rfl h (fun c3 h => ?_)
  refine x_nn h (fun r4 h => ?_)
  refine x_getI (ci := 3) (j := 5) C dX1_feedThose_17 lkF_X1_66 rfl h (fun v5 h => ?_)
  refine q_icmp_ge (tgt := 101) C dX1_feedThose_20 (by decide) h (fun _ h => ?_) (fun _ h => ?_)
  · refine q_aload_n C dX1_feedThose_23 rfl ?_
    refine x_getR (ci := 1) (j := 0) C dX1_feedThose_24 lkF_X1_47 rfl h (fun c6 h => ?_)
    refine x_nn h (fun r7 h => ?_)
    refine x_getR (ci := 3) (j := 3) C dX1_feedThose_27 lkF_X1_100 rfl h (fun c8 h => ?_)
    refine x_nn h (fun r9 h => ?_)
    refine q_iload_n C dX1_feedThose_30 rfl ?_
    refine x_iald C dX1_feedThose_31 h (fun v10 h => ?_)
    refine q_istore (L' := [some (.ref l0), some (.ref l1), some (.int l2), some (.int l3), some (.int v10), none]) C dX1_feedThose_32 (by decide) rfl rfl ?_
    refine q_iload_n C dX1_feedThose_34 rfl ?_
    refine q_if_le (tgt := 54) C dX1_feedThose_35 (by decide) h (fun _ h => ?_) (fun _ h => ?_)
    · refine q_aload_n C dX1_feedThose_38 rfl ?_
      refine x_getI (ci := 1) (j := 4) C dX1_feedThose_39 lkF_X1_22 rfl h (fun v11 h => ?_)
      refine q_iload C dX1_feedThose_42 rfl ?_
      refine q_ishr C dX1_feedThose_44 ?_
      refine x_iconst (v := (1 : Int32)) C dX1_feedThose_45 (by decide) ?_
      refine q_iand C dX1_feedThose_46 ?_
      refine q_if_eq (tgt := 54) C dX1_feedThose_47 (by decide) h (fun _ h => ?_) (fun _ h => ?_)
      · exact q_msk [true, true, true, true, true, false] (jW_X1_feedThose_54_12 C l0 l1 l2 l3 v10 M h kC kE0)
      · refine x_iconst (v := (1 : Int32)) C dX1_feedThose_50 (by decide) ?_
        refine q_goto (tgt := 55) C dX1_feedThose_51 (by decide) ?_
        exact q_msk [true, true, true, true, true, false] (jW_X1_feedThose_55_12 C l0 l1 l2 l3 v10 (1 : Int32) M h kC kE0)
    · exact q_msk [true, true, true, true, true, false] (jW_X1_feedThose_54_12 C l0 l1 l2 l3 v10 M h kC kE0)
  · exact q_msk [true, true, true, false, false, false] (kE0 _ _ (Option.some.inj h).symm)
set_option maxRecDepth 100000 in
set_option maxHeartbeats 4000000 in
theorem lW_X1_feedThose_12 {K : q_K} {Q : State → Prop} (C : q_C K yX1_feedThose cX1_feedThose 6 (Option.none : Option Jvm.ClassFile.FieldType) 2 0 0) (l0 : Nat) (l1 : Nat) (n : Nat) : ∀ (l2 : Int32) (l3 : Int32) (M : q_Mem) (e : (Int32 × q_Mem)), q_lp (fun s => B_X1_feedThose_12 l0 l1 s.1 s.2.1 s.2.2) n (l2, l3, M) = some e → (∀ (l2 : Int32) (M : q_Mem), e = (l2, M) → q_W K 6 Q 0 0 M 101 [some (.ref l0), some (.ref l1), some (.int l2), none, none, none] []) → q_W K 6 Q 0 0 M 12 [some (.ref l0), some (.ref l1), some (.int l2), some (.int l3), none, none] [] := by
  induction n with
  | zero => intro l2 l3 M e h; cases h
  | succ n ih =>
    intro l2 l3 M e h kE0
    obtain ⟨stp, e1, e2⟩ := q_bind h
    refine bW_X1_feedThose_12 C l0 l1 l2 l3 M e1 (fun a0 a1 a2 hs => ?_) (fun b0 b1 hs => ?_)
    · subst hs; exact ih _ _ _ _ e2 kE0
    · subst hs; exact kE0 _ _ (Option.some.inj e2).symm
noncomputable def J_X1_feedThose_176_103 (l0 : Nat) (l1 : Nat) (l2 : Int32) (l3 : Int32) (M : q_Mem) : Option ((Int32 × Int32 × q_Mem) ⊕ (Int32 × q_Mem)) := some (.inl (l2, (l3 + (1 : Int32)), M))
set_option maxRecDepth 100000 in
set_option maxHeartbeats 4000000 in
theorem jW_X1_feedThose_176_103 {K : q_K} {Q : State → Prop} (C : q_C K yX1_feedThose cX1_feedThose 6 (Option.none : Option Jvm.ClassFile.FieldType) 2 0 0) (l0 : Nat) (l1 : Nat) (l2 : Int32) (l3 : Int32) (M : q_Mem) {stp : (Int32 × Int32 × q_Mem) ⊕ (Int32 × q_Mem)} (h : J_X1_feedThose_176_103 l0 l1 l2 l3 M = some stp) (kC : ∀ (l2 : Int32) (l3 : Int32) (M : q_Mem), stp = .inl (l2, l3, M) → q_W K 6 Q 0 0 M 103 [some (.ref l0), some (.ref l1), some (.int l2), some (.int l3), none, none] []) (kE0 : ∀ (l2 : Int32) (M : q_Mem), stp = .inr (l2, M) → q_W K 6 Q 0 0 M 182 [some (.ref l0), none, some (.int l2), none, none, none] []) : q_W K 6 Q 0 0 M 176 [some (.ref l0), some (.ref l1), some (.int l2), some (.int l3), none, none] [] := by
  unfold J_X1_feedThose_176_103 at h
  refine x_iinc (w := (1 : Int32)) (L' := [some (.ref l0), some (.ref l1), some (.int l2), some (.int (l3 + (1 : Int32))), none, none]) C dX1_feedThose_176 rfl (by decide) (by decide) rfl rfl ?_
  refine q_goto (tgt := 103) C dX1_feedThose_179 (by decide) ?_
  exact q_msk [true, true, true, true, false, false] (kC _ _ _ (Option.some.inj h).symm)
noncomputable def B_X1_feedThose_103 (l0 : Nat) (l1 : Nat) (l2 : Int32) (l3 : Int32) (M : q_Mem) : Option ((Int32 × Int32 × q_Mem) ⊕ (Int32 × q_Mem)) := (q_gR M l0 1 0 (fun c20 => q_nn c20 (fun r21 => (q_gI M r21 3 5 (fun v22 => (if l3 < v22 then (if 0 < l2 then (q_gR M l0 1 0 (fun c23 => q_nn c23 (fun r24 => (q_ob M r24 3 ((F_X3_ofGuest r24 l3 (0 : Int32) M).bind (fun u25 => (q_gR M l1 8 0 (fun c26 => q_nn c26 (fun r27 => (q_lI M 0 r27 ((13 : Int32) + l3) (fun v28 => (q_gI M l0 1 4 (fun v29 => (if ((v29 >>> (l3 &&& 31)) &&& (1 : Int32)) = 0 then J_X1_feedThose_176_103 l0 l1 l2 l3 M else (q_gR M l1 8 0 (fun c30 => q_nn c30 (fun r31 => (q_lI M 0 r31 (0 : Int32) (fun v32 => (if v32 = ((u25 + v28) - (1 : Int32)) then (q_gR M l0 1 1 (fun c33 => q_nn c33 (fun r34 => (q_lI M 0 r34 l3 (fun v35 => (q_tI M r34 l3 (v35 + (1 : Int32)) (fun M36 => J_X1_feedThose_176_103 l0 l1 (l2 + (-1 : Int32)) l3 M36))))))) else J_X1_feedThose_176_103 l0 l1 l2 l3 M)))))))))))))))))))) else some (.inr (l2, M))) else some (.inr (l2, M))))))))
set_option maxRecDepth 100000 in
set_option maxHeartbeats 4000000 in
theorem bW_X1_feedThose_103 {K : q_K} {Q : State → Prop} (C : q_C K yX1_feedThose cX1_feedThose 6 (Option.none : Option Jvm.ClassFile.FieldType) 2 0 0) (l0 : Nat) (l1 : Nat) (l2 : Int32) (l3 : Int32) (M : q_Mem) {stp : (Int32 × Int32 × q_Mem) ⊕ (Int32 × q_Mem)} (h : B_X1_feedThose_103 l0 l1 l2 l3 M = some stp) (kC : ∀ (l2 : Int32) (l3 : Int32) (M : q_Mem), stp = .inl (l2, l3, M) → q_W K 6 Q 0 0 M 103 [some (.ref l0), some (.ref l1), some (.int l2), some (.int l3), none, none] []) (kE0 : ∀ (l2 : Int32) (M : q_Mem), stp = .inr (l2, M) → q_W K 6 Q 0 0 M 182 [some (.ref l0), none, some (.int l2), none, none, none] []) : q_W K 6 Q 0 0 M 103 [some (.ref l0), some (.ref l1), some (.int l2), some (.int l3), none, none] [] := by
  unfold B_X1_feedThose_103 at h
  refine q_iload_n C dX1_feedThose_103 rfl ?_
  refine q_aload_n C dX1_feedThose_104 rfl ?_
  refine x_getR (ci := 1) (j := 0) C dX1_feedThose_105 lkF_X1_47 rfl h (fun c20 h => ?_)
  refine x_nn h (fun r21 h => ?_)
  refine x_getI (ci := 3) (j := 5) C dX1_feedThose_108 lkF_X1_66 rfl h (fun v22 h => ?_)
  refine q_icmp_ge (tgt := 182) C dX1_feedThose_111 (by decide) h (fun _ h => ?_) (fun _ h => ?_)
  · refine q_iload_n C dX1_feedThose_114 rfl ?_
    refine q_if_le (tgt := 182) C dX1_feedThose_115 (by decide) h (fun _ h => ?_) (fun _ h => ?_)
    · refine q_aload_n C dX1_feedThose_118 rfl ?_
      refine x_getR (ci := 1) (j := 0) C dX1_feedThose_119 lkF_X1_47 rfl h (fun c23 h => ?_)
      refine x_nn h (fun r24 h => ?_)
      refine q_iload_n C dX1_feedThose_122 rfl ?_
      refine x_iconst (v := (0 : Int32)) C dX1_feedThose_123 (by decide) ?_
      obtain ⟨hk, h⟩ := q_obE h
      obtain ⟨u25, e1, h⟩ := q_bind h
      refine x_callV0 C dX1_feedThose_124 lkM_X1_56 mV_X3_ofGuest ⟨_, rfl, rfl⟩ hk (c_X3_ofGuest _ _ _ _ _ _ e1) rfl rfl (Nat.le_of_ble_eq_true rfl) (by decide) (by decide) ?_
      refine q_aload_n C dX1_feedThose_127 rfl ?_
      refine x_getR (ci := 8) (j := 0) C dX1_feedThose_128 lkF_X1_51 rfl h (fun c26 h => ?_)
      refine x_nn h (fun r27 h => ?_)
      refine x_bipush (v := (13 : Int32)) C dX1_feedThose_131 (by decide) ?_
      refine q_iload_n C dX1_feedThose_133 rfl ?_
      refine q_iadd C dX1_feedThose_134 ?_
      refine x_iald C dX1_feedThose_135 h (fun v28 h => ?_)
      refine q_iadd C dX1_feedThose_136 ?_
      refine x_iconst (v := (1 : Int32)) C dX1_feedThose_137 (by decide) ?_
      refine q_isub C dX1_feedThose_138 ?_
      refine q_istore (L' := [some (.ref l0), some (.ref l1), some (.int l2), some (.int l3), some (.int ((u25 + v28) - (1 : Int32))), none]) C dX1_feedThose_139 (by decide) rfl rfl ?_
      refine q_aload_n C dX1_feedThose_141 rfl ?_
      refine x_getI (ci := 1) (j := 4) C dX1_feedThose_142 lkF_X1_22 rfl h (fun v29 h => ?_)
      refine q_iload_n C dX1_feedThose_145 rfl ?_
      refine q_ishr C dX1_feedThose_146 ?_
      refine x_iconst (v := (1 : Int32)) C dX1_feedThose_147 (by decide) ?_
      refine q_iand C dX1_feedThose_148 ?_
      refine q_if_eq (tgt := 176) C dX1_feedThose_149 (by decide) h (fun _ h => ?_) (fun _ h => ?_)
      · exact q_msk [true, true, true, true, false, false] (jW_X1_feedThose_176_103 C l0 l1 l2 l3 M h kC kE0)
      · refine q_aload_n C dX1_feedThose_152 rfl ?_
        refine x_getR (ci := 8) (j := 0) C dX1_feedThose_153 lkF_X1_51 rfl h (fun c30 h => ?_)
        refine x_nn h (fun r31 h => ?_)
        refine x_iconst (v := (0 : Int32)) C dX1_feedThose_156 (by decide) ?_
        refine x_iald C dX1_feedThose_157 h (fun v32 h => ?_)
        refine q_iload C dX1_feedThose_158 rfl ?_
        refine q_icmp_ne (tgt := 176) C dX1_feedThose_160 (by decide) h (fun _ h => ?_) (fun _ h => ?_)
        · refine q_aload_n C dX1_feedThose_163 rfl ?_
          refine x_getR (ci := 1) (j := 1) C dX1_feedThose_164 lkF_X1_9 rfl h (fun c33 h => ?_)
          refine x_nn h (fun r34 h => ?_)
          refine q_iload_n C dX1_feedThose_167 rfl ?_
          refine q_dup2 C dX1_feedThose_168 rfl rfl ?_
          refine x_iald C dX1_feedThose_169 h (fun v35 h => ?_)
          refine x_iconst (v := (1 : Int32)) C dX1_feedThose_170 (by decide) ?_
          refine q_iadd C dX1_feedThose_171 ?_
          refine x_iast C dX1_feedThose_172 h (fun M36 h => ?_)
          refine x_iinc (w := (-1 : Int32)) (L' := [some (.ref l0), some (.ref l1), some (.int (l2 + (-1 : Int32))), some (.int l3), some (.int ((u25 + v28) - (1 : Int32))), none]) C dX1_feedThose_173 rfl (by decide) (by decide) rfl rfl ?_
          exact q_msk [true, true, true, true, false, false] (jW_X1_feedThose_176_103 C l0 l1 (l2 + (-1 : Int32)) l3 M36 h kC kE0)
        · exact q_msk [true, true, true, true, false, false] (jW_X1_feedThose_176_103 C l0 l1 l2 l3 M h kC kE0)
    · exact q_msk [true, false, true, false, false, false] (kE0 _ _ (Option.some.inj h).symm)
  · exact q_msk [true, false, true, false, false, false] (kE0 _ _ (Option.some.inj h).symm)
set_option maxRecDepth 100000 in
set_option maxHeartbeats 4000000 in
theorem lW_X1_feedThose_103 {K : q_K} {Q : State → Prop} (C : q_C K yX1_feedThose cX1_feedThose 6 (Option.none : Option Jvm.ClassFile.FieldType) 2 0 0) (l0 : Nat) (l1 : Nat) (n : Nat) : ∀ (l2 : Int32) (l3 : Int32) (M : q_Mem) (e : (Int32 × q_Mem)), q_lp (fun s => B_X1_feedThose_103 l0 l1 s.1 s.2.1 s.2.2) n (l2, l3, M) = some e → (∀ (l2 : Int32) (M : q_Mem), e = (l2, M) → q_W K 6 Q 0 0 M 182 [some (.ref l0), none, some (.int l2), none, none, none] []) → q_W K 6 Q 0 0 M 103 [some (.ref l0), some (.ref l1), some (.int l2), some (.int l3), none, none] [] := by
  induction n with
  | zero => intro l2 l3 M e h; cases h
  | succ n ih =>
    intro l2 l3 M e h kE0
    obtain ⟨stp, e1, e2⟩ := q_bind h
    refine bW_X1_feedThose_103 C l0 l1 l2 l3 M e1 (fun a0 a1 a2 hs => ?_) (fun b0 b1 hs => ?_)
    · subst hs; exact ih _ _ _ _ e2 kE0
    · subst hs; exact kE0 _ _ (Option.some.inj e2).symm
noncomputable def F_X1_feedThose (l0 : Nat) (l1 : Nat) (M : q_Mem) : Option (Unit × q_Mem) := (q_gI M l0 1 9 (fun v1 => (q_pI M l0 1 10 (0 : Int32) (fun M2 => (q_lp (fun s => B_X1_feedThose_12 l0 l1 s.1 s.2.1 s.2.2) q_fu (v1, (0 : Int32), M2)).bind (fun e17 => match e17 with | (w18, M19) => (q_lp (fun s => B_X1_feedThose_103 l0 l1 s.1 s.2.1 s.2.2) q_fu (w18, (0 : Int32), M19)).bind (fun e37 => match e37 with | (w38, M39) => (q_pI M39 l0 1 11 w38 (fun M40 => some ((), M40)))))))))
set_option maxRecDepth 100000 in
set_option maxHeartbeats 4000000 in
theorem c_X1_feedThose (l : Launch) (G : q_G) (l0 : Nat) (l1 : Nat) (M : q_Mem) {r : Unit} {M' : q_Mem} (h : F_X1_feedThose l0 l1 M = some (r, M')) : q_Met l G yX1_feedThose cX1_feedThose 6 (Option.none : Option Jvm.ClassFile.FieldType) 2 0 0 [.ref l0, .ref l1] M none M' := by
  unfold F_X1_feedThose at h
  refine q_enter [some (.ref l0), some (.ref l1), none, none, none, none] (by decide) (Nat.le_of_ble_eq_true rfl) rfl (fun K C => ?_)
  refine q_aload_n C dX1_feedThose_0 rfl ?_
  refine x_getI (ci := 1) (j := 9) C dX1_feedThose_1 lkF_X1_38 rfl h (fun v1 h => ?_)
  refine q_istore_n (L' := [some (.ref l0), some (.ref l1), some (.int v1), none, none, none]) C dX1_feedThose_4 (by decide) rfl rfl ?_
  refine q_aload_n C dX1_feedThose_5 rfl ?_
  refine x_iconst (v := (0 : Int32)) C dX1_feedThose_6 (by decide) ?_
  refine x_putI (ci := 1) (j := 10) C dX1_feedThose_7 lkF_X1_41 (fun r hr => by cases hr; rfl) rfl h (fun M2 h => ?_)
  refine x_iconst (v := (0 : Int32)) C dX1_feedThose_10 (by decide) ?_
  refine q_istore_n (L' := [some (.ref l0), some (.ref l1), some (.int v1), some (.int (0 : Int32)), none, none]) C dX1_feedThose_11 (by decide) rfl rfl ?_
  obtain ⟨e17, he, h⟩ := q_bind h
  refine q_msk [true, true, true, true, false, false] (lW_X1_feedThose_12 C l0 l1 q_fu _ _ _ _ he (fun w18 M19 hs => ?_))
  · have hs := hs.symm
    subst hs
    refine x_iconst (v := (0 : Int32)) C dX1_feedThose_101 (by decide) ?_
    refine q_istore_n (L' := [some (.ref l0), some (.ref l1), some (.int w18), some (.int (0 : Int32)), none, none]) C dX1_feedThose_102 (by decide) rfl rfl ?_
    obtain ⟨e37, he, h⟩ := q_bind h
    refine q_msk [true, true, true, true, false, false] (lW_X1_feedThose_103 C l0 l1 q_fu _ _ _ _ he (fun w38 M39 hs => ?_))
    · have hs := hs.symm
      subst hs
      refine q_aload_n C dX1_feedThose_182 rfl ?_
      refine q_iload_n C dX1_feedThose_183 rfl ?_
      refine x_putI (ci := 1) (j := 11) C dX1_feedThose_184 lkF_X1_44 (fun r hr => by cases hr; rfl) rfl h (fun M40 h => ?_)
      exact q_vret C dX1_feedThose_187 rfl (by decide) (by decide) (Option.some.inj h)
noncomputable def J_X1_lay_39_7 (l0 : Nat) (l1 : Nat) (l2 : Int32) (M : q_Mem) : Option ((Int32 × q_Mem) ⊕ (q_Mem)) := some (.inl ((l2 + (1 : Int32)), M))
set_option maxRecDepth 100000 in
set_option maxHeartbeats 4000000 in
theorem jW_X1_lay_39_7 {K : q_K} {Q : State → Prop} (C : q_C K yX1_lay cX1_lay 3 (Option.none : Option Jvm.ClassFile.FieldType) 3 0 0) (l0 : Nat) (l1 : Nat) (l2 : Int32) (M : q_Mem) {stp : (Int32 × q_Mem) ⊕ (q_Mem)} (h : J_X1_lay_39_7 l0 l1 l2 M = some stp) (kC : ∀ (l2 : Int32) (M : q_Mem), stp = .inl (l2, M) → q_W K 3 Q 0 0 M 7 [some (.ref l0), some (.ref l1), some (.int l2)] []) (kE0 : ∀ (M : q_Mem), stp = .inr M → q_W K 3 Q 0 0 M 45 [some (.ref l0), some (.ref l1), none] []) : q_W K 3 Q 0 0 M 39 [some (.ref l0), some (.ref l1), some (.int l2)] [] := by
  unfold J_X1_lay_39_7 at h
  refine x_iinc (w := (1 : Int32)) (L' := [some (.ref l0), some (.ref l1), some (.int (l2 + (1 : Int32)))]) C dX1_lay_39 rfl (by decide) (by decide) rfl rfl ?_
  refine q_goto (tgt := 7) C dX1_lay_42 (by decide) ?_
  exact q_msk [true, true, true] (kC _ _ (Option.some.inj h).symm)
noncomputable def B_X1_lay_7 (l0 : Nat) (l1 : Nat) (l2 : Int32) (M : q_Mem) : Option ((Int32 × q_Mem) ⊕ (q_Mem)) := (q_gR M l0 1 0 (fun c2 => q_nn c2 (fun r3 => (q_gI M r3 3 5 (fun v4 => (if l2 < v4 then (q_ob M l0 1 ((F_X1_isThere l0 l1 l2 M).bind (fun u5 => (if u5 = 0 then J_X1_lay_39_7 l0 l1 l2 M else (q_gI M l0 1 4 (fun v6 => (q_pI M l0 1 4 (v6 ||| ((1 : Int32) <<< (l2 &&& 31))) (fun M7 => J_X1_lay_39_7 l0 l1 l2 M7)))))))) else some (.inr M)))))))
set_option maxRecDepth 100000 in
set_option maxHeartbeats 4000000 in
theorem bW_X1_lay_7 {K : q_K} {Q : State → Prop} (C : q_C K yX1_lay cX1_lay 3 (Option.none : Option Jvm.ClassFile.FieldType) 3 0 0) (l0 : Nat) (l1 : Nat) (l2 : Int32) (M : q_Mem) {stp : (Int32 × q_Mem) ⊕ (q_Mem)} (h : B_X1_lay_7 l0 l1 l2 M = some stp) (kC : ∀ (l2 : Int32) (M : q_Mem), stp = .inl (l2, M) → q_W K 3 Q 0 0 M 7 [some (.ref l0), some (.ref l1), some (.int l2)] []) (kE0 : ∀ (M : q_Mem), stp = .inr M → q_W K 3 Q 0 0 M 45 [some (.ref l0), some (.ref l1), none] []) : q_W K 3 Q 0 0 M 7 [some (.ref l0), some (.ref l1), some (.int l2)] [] := by
  unfold B_X1_lay_7 at h
  refine q_iload_n C dX1_lay_7 rfl ?_
  refine q_aload_n C dX1_lay_8 rfl ?_
  refine x_getR (ci := 1) (j := 0) C dX1_lay_9 lkF_X1_47 rfl h (fun c2 h => ?_)
  refine x_nn h (fun r3 h => ?_)
  refine x_getI (ci := 3) (j := 5) C dX1_lay_12 lkF_X1_66 rfl h (fun v4 h => ?_)
  refine q_icmp_ge (tgt := 45) C dX1_lay_15 (by decide) h (fun _ h => ?_) (fun _ h => ?_)
  · refine q_aload_n C dX1_lay_18 rfl ?_
    refine q_aload_n C dX1_lay_19 rfl ?_
    refine q_iload_n C dX1_lay_20 rfl ?_
    obtain ⟨hk, h⟩ := q_obE h
    obtain ⟨u5, e1, h⟩ := q_bind h
    refine x_callV0 C dX1_lay_21 lkM_X1_69 mV_X1_isThere ⟨_, rfl, rfl⟩ hk (c_X1_isThere _ _ _ _ _ _ e1) rfl rfl (Nat.le_of_ble_eq_true rfl) (by decide) (by decide) ?_
    refine q_if_eq (tgt := 39) C dX1_lay_24 (by decide) h (fun _ h => ?_) (fun _ h => ?_)
    · exact q_msk [true, true, true] (jW_X1_lay_39_7 C l0 l1 l2 M h kC kE0)
    · refine q_aload_n C dX1_lay_27 rfl ?_
      refine q_dup C dX1_lay_28 rfl ?_
      refine x_getI (ci := 1) (j := 4) C dX1_lay_29 lkF_X1_22 rfl h (fun v6 h => ?_)
      refine x_iconst (v := (1 : Int32)) C dX1_lay_32 (by decide) ?_
      refine q_iload_n C dX1_lay_33 rfl ?_
      refine q_ishl C dX1_lay_34 ?_
      refine q_ior C dX1_lay_35 ?_
      refine x_putI (ci := 1) (j := 4) C dX1_lay_36 lkF_X1_22 (fun r hr => by cases hr; rfl) rfl h (fun M7 h => ?_)
      exact q_msk [true, true, true] (jW_X1_lay_39_7 C l0 l1 l2 M7 h kC kE0)
  · exact q_msk [true, true, false] (kE0 _ (Option.some.inj h).symm)
set_option maxRecDepth 100000 in
set_option maxHeartbeats 4000000 in
theorem lW_X1_lay_7 {K : q_K} {Q : State → Prop} (C : q_C K yX1_lay cX1_lay 3 (Option.none : Option Jvm.ClassFile.FieldType) 3 0 0) (l0 : Nat) (l1 : Nat) (n : Nat) : ∀ (l2 : Int32) (M : q_Mem) (e : (q_Mem)), q_lp (fun s => B_X1_lay_7 l0 l1 s.1 s.2) n (l2, M) = some e → (∀ (M : q_Mem), e = M → q_W K 3 Q 0 0 M 45 [some (.ref l0), some (.ref l1), none] []) → q_W K 3 Q 0 0 M 7 [some (.ref l0), some (.ref l1), some (.int l2)] [] := by
  induction n with
  | zero => intro l2 M e h; cases h
  | succ n ih =>
    intro l2 M e h kE0
    obtain ⟨stp, e1, e2⟩ := q_bind h
    refine bW_X1_lay_7 C l0 l1 l2 M e1 (fun a0 a1 hs => ?_) (fun b0 hs => ?_)
    · subst hs; exact ih _ _ _ e2 kE0
    · subst hs; exact kE0 _ (Option.some.inj e2).symm
noncomputable def J_X1_lay_78 (l0 : Nat) (l1 : Nat) (s0 : Nat) (s1 : Int32) (M : q_Mem) : Option (Unit × q_Mem) := (q_pI M s0 1 5 s1 (fun M19 => (q_gI M19 l0 1 4 (fun v20 => ((F_J6_bitCount_0f7a4 v20 M19).bind (fun u21 => (q_pI M19 l0 1 6 u21 (fun M22 => (q_ob M22 l0 1 ((F_X1_serve l0 l1 M22).bind (fun x => match x with | (_, M24) => (q_ob M24 l0 1 ((F_X1_feedThose l0 l1 M24).bind (fun x => match x with | (_, M26) => some ((), M26)))))))))))))))
set_option maxRecDepth 100000 in
set_option maxHeartbeats 4000000 in
theorem jW_X1_lay_78 {K : q_K} (C : q_C K yX1_lay cX1_lay 3 (Option.none : Option Jvm.ClassFile.FieldType) 3 0 0) (l0 : Nat) (l1 : Nat) (s0 : Nat) (s1 : Int32) (M : q_Mem) {r : Unit} {M' : q_Mem} (h : J_X1_lay_78 l0 l1 s0 s1 M = some (r, M')) : q_W K 3 (q_Q K none M' 0 0) 0 0 M 78 [some (.ref l0), some (.ref l1), none] [.int s1, .ref s0] := by
  unfold J_X1_lay_78 at h
  refine x_putI (ci := 1) (j := 5) C dX1_lay_78 lkF_X1_26 (fun r hr => by cases hr; rfl) rfl h (fun M19 h => ?_)
  refine q_aload_n C dX1_lay_81 rfl ?_
  refine q_aload_n C dX1_lay_82 rfl ?_
  refine x_getI (ci := 1) (j := 4) C dX1_lay_83 lkF_X1_22 rfl h (fun v20 h => ?_)
  obtain ⟨u21, e1, h⟩ := q_bind h
  refine x_callS0 C dX1_lay_86 lkM_X1_77 mS_J6_bitCount_0f7a4 (c_J6_bitCount_0f7a4 _ _ _ _ e1) rfl rfl (Nat.le_of_ble_eq_true rfl) (by decide) (by decide) ?_
  refine x_putI (ci := 1) (j := 6) C dX1_lay_89 lkF_X1_29 (fun r hr => by cases hr; rfl) rfl h (fun M22 h => ?_)
  refine q_aload_n C dX1_lay_92 rfl ?_
  refine q_aload_n C dX1_lay_93 rfl ?_
  obtain ⟨hk, h⟩ := q_obE h
  obtain ⟨⟨_, M24⟩, e1, h⟩ := q_bind h
  refine x_callVv0 C dX1_lay_94 lkM_X1_82 mV_X1_serve ⟨_, rfl, rfl⟩ hk (c_X1_serve _ _ _ _ _ e1) rfl rfl (Nat.le_of_ble_eq_true rfl) (by decide) (by decide) ?_
  refine q_aload_n C dX1_lay_97 rfl ?_
  refine q_aload_n C dX1_lay_98 rfl ?_
  obtain ⟨hk, h⟩ := q_obE h
  obtain ⟨⟨_, M26⟩, e1, h⟩ := q_bind h
  refine x_callVv0 C dX1_lay_99 lkM_X1_86 mV_X1_feedThose ⟨_, rfl, rfl⟩ hk (c_X1_feedThose _ _ _ _ _ e1) rfl rfl (Nat.le_of_ble_eq_true rfl) (by decide) (by decide) ?_
  exact q_vret C dX1_lay_102 rfl (by decide) (by decide) (Option.some.inj h)
noncomputable def F_X1_lay (l0 : Nat) (l1 : Nat) (M : q_Mem) : Option (Unit × q_Mem) := (q_pI M l0 1 4 (0 : Int32) (fun M1 => (q_lp (fun s => B_X1_lay_7 l0 l1 s.1 s.2) q_fu ((0 : Int32), M1)).bind (fun e8 => match e8 with | M9 => (q_gR M9 l1 8 0 (fun c10 => q_nn c10 (fun r11 => (q_lI M9 0 r11 (3 : Int32) (fun v12 => (if v12 = (-1 : Int32) then (q_gR M9 l0 1 0 (fun c13 => q_nn c13 (fun r14 => (q_gR M9 l1 8 0 (fun c15 => q_nn c15 (fun r16 => (q_lI M9 0 r16 (0 : Int32) (fun v17 => (q_ob M9 r14 3 ((F_X3_dishByDay r14 v17 M9).bind (fun u18 => J_X1_lay_78 l0 l1 l0 u18 M9))))))))))) else (q_gR M9 l1 8 0 (fun c27 => q_nn c27 (fun r28 => (q_lI M9 0 r28 (3 : Int32) (fun v29 => J_X1_lay_78 l0 l1 l0 v29 M9))))))))))))))
set_option maxRecDepth 100000 in
set_option maxHeartbeats 4000000 in
theorem c_X1_lay (l : Launch) (G : q_G) (l0 : Nat) (l1 : Nat) (M : q_Mem) {r : Unit} {M' : q_Mem} (h : F_X1_lay l0 l1 M = some (r, M')) : q_Met l G yX1_lay cX1_lay 3 (Option.none : Option Jvm.ClassFile.FieldType) 3 0 0 [.ref l0, .ref l1] M none M' := by
  unfold F_X1_lay at h
  refine q_enter [some (.ref l0), some (.ref l1), none] (by decide) (Nat.le_of_ble_eq_true rfl) rfl (fun K C => ?_)
  refine q_aload_n C dX1_lay_0 rfl ?_
  refine x_iconst (v := (0 : Int32)) C dX1_lay_1 (by decide) ?_
  refine x_putI (ci := 1) (j := 4) C dX1_lay_2 lkF_X1_22 (fun r hr => by cases hr; rfl) rfl h (fun M1 h => ?_)
  refine x_iconst (v := (0 : Int32)) C dX1_lay_5 (by decide) ?_
  refine q_istore_n (L' := [some (.ref l0), some (.ref l1), some (.int (0 : Int32))]) C dX1_lay_6 (by decide) rfl rfl ?_
  obtain ⟨e8, he, h⟩ := q_bind h
  refine q_msk [true, true, true] (lW_X1_lay_7 C l0 l1 q_fu _ _ _ he (fun M9 hs => ?_))
  · have hs := hs.symm
    subst hs
    refine q_aload_n C dX1_lay_45 rfl ?_
    refine q_aload_n C dX1_lay_46 rfl ?_
    refine x_getR (ci := 8) (j := 0) C dX1_lay_47 lkF_X1_51 rfl h (fun c10 h => ?_)
    refine x_nn h (fun r11 h => ?_)
    refine x_iconst (v := (3 : Int32)) C dX1_lay_50 (by decide) ?_
    refine x_iald C dX1_lay_51 h (fun v12 h => ?_)
    refine x_iconst (v := (-1 : Int32)) C dX1_lay_52 (by decide) ?_
    refine q_icmp_ne (tgt := 72) C dX1_lay_53 (by decide) h (fun _ h => ?_) (fun _ h => ?_)
    · refine q_aload_n C dX1_lay_56 rfl ?_
      refine x_getR (ci := 1) (j := 0) C dX1_lay_57 lkF_X1_47 rfl h (fun c13 h => ?_)
      refine x_nn h (fun r14 h => ?_)
      refine q_aload_n C dX1_lay_60 rfl ?_
      refine x_getR (ci := 8) (j := 0) C dX1_lay_61 lkF_X1_51 rfl h (fun c15 h => ?_)
      refine x_nn h (fun r16 h => ?_)
      refine x_iconst (v := (0 : Int32)) C dX1_lay_64 (by decide) ?_
      refine x_iald C dX1_lay_65 h (fun v17 h => ?_)
      obtain ⟨hk, h⟩ := q_obE h
      obtain ⟨u18, e1, h⟩ := q_bind h
      refine x_callV0 C dX1_lay_66 lkM_X1_73 mV_X3_dishByDay ⟨_, rfl, rfl⟩ hk (c_X3_dishByDay _ _ _ _ _ e1) rfl rfl (Nat.le_of_ble_eq_true rfl) (by decide) (by decide) ?_
      refine q_goto (tgt := 78) C dX1_lay_69 (by decide) ?_
      exact q_msk [true, true, false] (jW_X1_lay_78 C l0 l1 l0 u18 M9 h)
    · refine q_aload_n C dX1_lay_72 rfl ?_
      refine x_getR (ci := 8) (j := 0) C dX1_lay_73 lkF_X1_51 rfl h (fun c27 h => ?_)
      refine x_nn h (fun r28 h => ?_)
      refine x_iconst (v := (3 : Int32)) C dX1_lay_76 (by decide) ?_
      refine x_iald C dX1_lay_77 h (fun v29 h => ?_)
      exact q_msk [true, true, false] (jW_X1_lay_78 C l0 l1 l0 v29 M9 h)
noncomputable def J_X4_joined_151 (l3 : Int64) (M : q_Mem) : Option (Int32) := (if 0 < (lg_cmp l3 (1000000 : Int64)) then some ((1000000 : Int64).toInt32) else (if (lg_cmp l3 (-1000000 : Int64)) < 0 then some ((-1000000 : Int64).toInt32) else some l3.toInt32))
set_option maxRecDepth 100000 in
set_option maxHeartbeats 4000000 in
theorem jW_X4_joined_151 {K : q_K} (C : q_C K yX4_joined cX4_joined 5 (Option.some Jvm.ClassFile.FieldType.int) 1 0 0) (l3 : Int64) (M : q_Mem) {r : Int32} (h : J_X4_joined_151 l3 M = some r) : q_W K 5 (q_Q K (some (.int r)) M 0 0) 0 0 M 151 [none, none, none, some (.long l3), none] [] := by
  unfold J_X4_joined_151 at h
  refine q_lload_n C dX4_joined_151 rfl ?_
  refine q_ldc2 (v := (1000000 : Int64)) C dX4_joined_152 wd_769 ?_
  refine q_lcmp C dX4_joined_155 ?_
  refine q_if_le (tgt := 165) C dX4_joined_156 (by decide) h (fun _ h => ?_) (fun _ h => ?_)
  · refine q_ldc2 (v := (1000000 : Int64)) C dX4_joined_159 wd_769 ?_
    refine q_goto (tgt := 180) C dX4_joined_162 (by decide) ?_
    refine q_l2i C dX4_joined_180 ?_
    exact q_iret (res := (r, M)) C dX4_joined_181 rfl (by decide) (by decide) (congrArg (fun z => (z, M)) (Option.some.inj h))
  · refine q_lload_n C dX4_joined_165 rfl ?_
    refine q_ldc2 (v := (-1000000 : Int64)) C dX4_joined_166 wd_770 ?_
    refine q_lcmp C dX4_joined_169 ?_
    refine q_if_ge (tgt := 179) C dX4_joined_170 (by decide) h (fun _ h => ?_) (fun _ h => ?_)
    · refine q_ldc2 (v := (-1000000 : Int64)) C dX4_joined_173 wd_770 ?_
      refine q_goto (tgt := 180) C dX4_joined_176 (by decide) ?_
      refine q_l2i C dX4_joined_180 ?_
      exact q_iret (res := (r, M)) C dX4_joined_181 rfl (by decide) (by decide) (congrArg (fun z => (z, M)) (Option.some.inj h))
    · refine q_lload_n C dX4_joined_179 rfl ?_
      refine q_l2i C dX4_joined_180 ?_
      exact q_iret (res := (r, M)) C dX4_joined_181 rfl (by decide) (by decide) (congrArg (fun z => (z, M)) (Option.some.inj h))
noncomputable def J_X4_joined_131 (s0 : Int64) (M : q_Mem) : Option (Int32) := J_X4_joined_151 s0 M
set_option maxRecDepth 100000 in
set_option maxHeartbeats 4000000 in
theorem jW_X4_joined_131 {K : q_K} (C : q_C K yX4_joined cX4_joined 5 (Option.some Jvm.ClassFile.FieldType.int) 1 0 0) (s0 : Int64) (M : q_Mem) {r : Int32} (h : J_X4_joined_131 s0 M = some r) : q_W K 5 (q_Q K (some (.int r)) M 0 0) 0 0 M 131 [none, none, none, none, none] [.long s0] := by
  unfold J_X4_joined_131 at h
  refine q_lstore_n (L' := [none, none, none, some (.long s0), none]) C dX4_joined_131 (by decide) rfl rfl ?_
  refine q_goto (tgt := 151) C dX4_joined_132 (by decide) ?_
  exact q_msk [false, false, false, true, false] (jW_X4_joined_151 C s0 M h)
noncomputable def J_X4_joined_117 (s0 : Int64) (M : q_Mem) : Option (Int32) := J_X4_joined_151 s0 M
set_option maxRecDepth 100000 in
set_option maxHeartbeats 4000000 in
theorem jW_X4_joined_117 {K : q_K} (C : q_C K yX4_joined cX4_joined 5 (Option.some Jvm.ClassFile.FieldType.int) 1 0 0) (s0 : Int64) (M : q_Mem) {r : Int32} (h : J_X4_joined_117 s0 M = some r) : q_W K 5 (q_Q K (some (.int r)) M 0 0) 0 0 M 117 [none, none, none, none, none] [.long s0] := by
  unfold J_X4_joined_117 at h
  refine q_lstore_n (L' := [none, none, none, some (.long s0), none]) C dX4_joined_117 (by decide) rfl rfl ?_
  refine q_goto (tgt := 151) C dX4_joined_118 (by decide) ?_
  exact q_msk [false, false, false, true, false] (jW_X4_joined_151 C s0 M h)
noncomputable def J_X4_joined_103 (s0 : Int64) (M : q_Mem) : Option (Int32) := J_X4_joined_151 s0 M
set_option maxRecDepth 100000 in
set_option maxHeartbeats 4000000 in
theorem jW_X4_joined_103 {K : q_K} (C : q_C K yX4_joined cX4_joined 5 (Option.some Jvm.ClassFile.FieldType.int) 1 0 0) (s0 : Int64) (M : q_Mem) {r : Int32} (h : J_X4_joined_103 s0 M = some r) : q_W K 5 (q_Q K (some (.int r)) M 0 0) 0 0 M 103 [none, none, none, none, none] [.long s0] := by
  unfold J_X4_joined_103 at h
  refine q_lstore_n (L' := [none, none, none, some (.long s0), none]) C dX4_joined_103 (by decide) rfl rfl ?_
  refine q_goto (tgt := 151) C dX4_joined_104 (by decide) ?_
  exact q_msk [false, false, false, true, false] (jW_X4_joined_151 C s0 M h)
noncomputable def J_X4_joined_89 (s0 : Int64) (M : q_Mem) : Option (Int32) := J_X4_joined_151 s0 M
set_option maxRecDepth 100000 in
set_option maxHeartbeats 4000000 in
theorem jW_X4_joined_89 {K : q_K} (C : q_C K yX4_joined cX4_joined 5 (Option.some Jvm.ClassFile.FieldType.int) 1 0 0) (s0 : Int64) (M : q_Mem) {r : Int32} (h : J_X4_joined_89 s0 M = some r) : q_W K 5 (q_Q K (some (.int r)) M 0 0) 0 0 M 89 [none, none, none, none, none] [.long s0] := by
  unfold J_X4_joined_89 at h
  refine q_lstore_n (L' := [none, none, none, some (.long s0), none]) C dX4_joined_89 (by decide) rfl rfl ?_
  refine q_goto (tgt := 151) C dX4_joined_90 (by decide) ?_
  exact q_msk [false, false, false, true, false] (jW_X4_joined_151 C s0 M h)
noncomputable def F_X4_joined (l0 : Int32) (l1 : Int32) (l2 : Int32) (M : q_Mem) : Option (Int32) := (if l0 = (-15 : Int32) then J_X4_joined_151 ((l1 ||| l2).toInt64) M else (if l0 = (-14 : Int32) then J_X4_joined_151 ((l1 &&& l2).toInt64) M else (if l0 = (-13 : Int32) then (if l2 < l1 then J_X4_joined_131 (1 : Int64) M else J_X4_joined_131 (0 : Int64) M) else (if l0 = (-12 : Int32) then (if l1 < l2 then J_X4_joined_117 (1 : Int64) M else J_X4_joined_117 (0 : Int64) M) else (if l0 = (-11 : Int32) then (if l1 = l2 then J_X4_joined_103 (1 : Int64) M else J_X4_joined_103 (0 : Int64) M) else (if l0 = (-10 : Int32) then (if l2 = 0 then J_X4_joined_89 (0 : Int64) M else (q_dvi l1 l2 (fun v1 => J_X4_joined_89 v1.toInt64 M))) else (if l0 = (-9 : Int32) then J_X4_joined_151 (l1.toInt64 * l2.toInt64) M else (if l0 = (-8 : Int32) then J_X4_joined_151 ((l1 - l2).toInt64) M else (if l0 = (-7 : Int32) then J_X4_joined_151 ((l1 + l2).toInt64) M else J_X4_joined_151 (0 : Int64) M)))))))))
set_option maxRecDepth 100000 in
set_option maxHeartbeats 4000000 in
theorem c_X4_joined (l : Launch) (G : q_G) (l0 : Int32) (l1 : Int32) (l2 : Int32) (M : q_Mem) {r : Int32} (h : F_X4_joined l0 l1 l2 M = some r) : q_Met l G yX4_joined cX4_joined 5 (Option.some Jvm.ClassFile.FieldType.int) 1 0 0 [.int l0, .int l1, .int l2] M (some (.int r)) M := by
  unfold F_X4_joined at h
  refine q_enter [some (.int l0), some (.int l1), some (.int l2), none, none] (by decide) (Nat.le_of_ble_eq_true rfl) rfl (fun K C => ?_)
  refine x_lconst (v := (0 : Int64)) C dX4_joined_0 (by decide) ?_
  refine q_lstore_n (L' := [some (.int l0), some (.int l1), some (.int l2), some (.long (0 : Int64)), none]) C dX4_joined_1 (by decide) rfl rfl ?_
  refine q_iload_n C dX4_joined_2 rfl ?_
  by_cases hs3_0 : l0 = (-15 : Int32)
  · have h := q_iteT h hs3_0
    refine q_tsIn (tgt := 143) C dX4_joined_3 hs3_0 (by decide) (by decide) rfl (by decide) ?_
    refine q_iload_n C dX4_joined_143 rfl ?_
    refine q_iload_n C dX4_joined_144 rfl ?_
    refine q_ior C dX4_joined_145 ?_
    refine q_i2l C dX4_joined_146 ?_
    refine q_lstore_n (L' := [some (.int l0), some (.int l1), some (.int l2), some (.long (l1 ||| l2).toInt64), none]) C dX4_joined_147 (by decide) rfl rfl ?_
    refine q_goto (tgt := 151) C dX4_joined_148 (by decide) ?_
    exact q_msk [false, false, false, true, false] (jW_X4_joined_151 C ((l1 ||| l2).toInt64) M h)
  have h := q_iteF h hs3_0
  by_cases hs3_1 : l0 = (-14 : Int32)
  · have h := q_iteT h hs3_1
    refine q_tsIn (tgt := 135) C dX4_joined_3 hs3_1 (by decide) (by decide) rfl (by decide) ?_
    refine q_iload_n C dX4_joined_135 rfl ?_
    refine q_iload_n C dX4_joined_136 rfl ?_
    refine q_iand C dX4_joined_137 ?_
    refine q_i2l C dX4_joined_138 ?_
    refine q_lstore_n (L' := [some (.int l0), some (.int l1), some (.int l2), some (.long (l1 &&& l2).toInt64), none]) C dX4_joined_139 (by decide) rfl rfl ?_
    refine q_goto (tgt := 151) C dX4_joined_140 (by decide) ?_
    exact q_msk [false, false, false, true, false] (jW_X4_joined_151 C ((l1 &&& l2).toInt64) M h)
  have h := q_iteF h hs3_1
  by_cases hs3_2 : l0 = (-13 : Int32)
  · have h := q_iteT h hs3_2
    refine q_tsIn (tgt := 121) C dX4_joined_3 hs3_2 (by decide) (by decide) rfl (by decide) ?_
    refine q_iload_n C dX4_joined_121 rfl ?_
    refine q_iload_n C dX4_joined_122 rfl ?_
    refine q_icmp_le (tgt := 130) C dX4_joined_123 (by decide) h (fun _ h => ?_) (fun _ h => ?_)
    · refine x_lconst (v := (1 : Int64)) C dX4_joined_126 (by decide) ?_
      refine q_goto (tgt := 131) C dX4_joined_127 (by decide) ?_
      exact q_msk [false, false, false, false, false] (jW_X4_joined_131 C (1 : Int64) M h)
    · refine x_lconst (v := (0 : Int64)) C dX4_joined_130 (by decide) ?_
      exact q_msk [false, false, false, false, false] (jW_X4_joined_131 C (0 : Int64) M h)
  have h := q_iteF h hs3_2
  by_cases hs3_3 : l0 = (-12 : Int32)
  · have h := q_iteT h hs3_3
    refine q_tsIn (tgt := 107) C dX4_joined_3 hs3_3 (by decide) (by decide) rfl (by decide) ?_
    refine q_iload_n C dX4_joined_107 rfl ?_
    refine q_iload_n C dX4_joined_108 rfl ?_
    refine q_icmp_ge (tgt := 116) C dX4_joined_109 (by decide) h (fun _ h => ?_) (fun _ h => ?_)
    · refine x_lconst (v := (1 : Int64)) C dX4_joined_112 (by decide) ?_
      refine q_goto (tgt := 117) C dX4_joined_113 (by decide) ?_
      exact q_msk [false, false, false, false, false] (jW_X4_joined_117 C (1 : Int64) M h)
    · refine x_lconst (v := (0 : Int64)) C dX4_joined_116 (by decide) ?_
      exact q_msk [false, false, false, false, false] (jW_X4_joined_117 C (0 : Int64) M h)
  have h := q_iteF h hs3_3
  by_cases hs3_4 : l0 = (-11 : Int32)
  · have h := q_iteT h hs3_4
    refine q_tsIn (tgt := 93) C dX4_joined_3 hs3_4 (by decide) (by decide) rfl (by decide) ?_
    refine q_iload_n C dX4_joined_93 rfl ?_
    refine q_iload_n C dX4_joined_94 rfl ?_
    refine q_icmp_ne (tgt := 102) C dX4_joined_95 (by decide) h (fun _ h => ?_) (fun _ h => ?_)
    · refine x_lconst (v := (1 : Int64)) C dX4_joined_98 (by decide) ?_
      refine q_goto (tgt := 103) C dX4_joined_99 (by decide) ?_
      exact q_msk [false, false, false, false, false] (jW_X4_joined_103 C (1 : Int64) M h)
    · refine x_lconst (v := (0 : Int64)) C dX4_joined_102 (by decide) ?_
      exact q_msk [false, false, false, false, false] (jW_X4_joined_103 C (0 : Int64) M h)
  have h := q_iteF h hs3_4
  by_cases hs3_5 : l0 = (-10 : Int32)
  · have h := q_iteT h hs3_5
    refine q_tsIn (tgt := 77) C dX4_joined_3 hs3_5 (by decide) (by decide) rfl (by decide) ?_
    refine q_iload_n C dX4_joined_77 rfl ?_
    refine q_if_ne (tgt := 85) C dX4_joined_78 (by decide) h (fun _ h => ?_) (fun _ h => ?_)
    · refine x_lconst (v := (0 : Int64)) C dX4_joined_81 (by decide) ?_
      refine q_goto (tgt := 89) C dX4_joined_82 (by decide) ?_
      exact q_msk [false, false, false, false, false] (jW_X4_joined_89 C (0 : Int64) M h)
    · refine q_iload_n C dX4_joined_85 rfl ?_
      refine q_iload_n C dX4_joined_86 rfl ?_
      refine q_idiv C dX4_joined_87 h (fun v1 h => ?_)
      refine q_i2l C dX4_joined_88 ?_
      exact q_msk [false, false, false, false, false] (jW_X4_joined_89 C v1.toInt64 M h)
  have h := q_iteF h hs3_5
  by_cases hs3_6 : l0 = (-9 : Int32)
  · have h := q_iteT h hs3_6
    refine q_tsIn (tgt := 68) C dX4_joined_3 hs3_6 (by decide) (by decide) rfl (by decide) ?_
    refine q_iload_n C dX4_joined_68 rfl ?_
    refine q_i2l C dX4_joined_69 ?_
    refine q_iload_n C dX4_joined_70 rfl ?_
    refine q_i2l C dX4_joined_71 ?_
    refine q_lmul C dX4_joined_72 ?_
    refine q_lstore_n (L' := [some (.int l0), some (.int l1), some (.int l2), some (.long (l1.toInt64 * l2.toInt64)), none]) C dX4_joined_73 (by decide) rfl rfl ?_
    refine q_goto (tgt := 151) C dX4_joined_74 (by decide) ?_
    exact q_msk [false, false, false, true, false] (jW_X4_joined_151 C (l1.toInt64 * l2.toInt64) M h)
  have h := q_iteF h hs3_6
  by_cases hs3_7 : l0 = (-8 : Int32)
  · have h := q_iteT h hs3_7
    refine q_tsIn (tgt := 60) C dX4_joined_3 hs3_7 (by decide) (by decide) rfl (by decide) ?_
    refine q_iload_n C dX4_joined_60 rfl ?_
    refine q_iload_n C dX4_joined_61 rfl ?_
    refine q_isub C dX4_joined_62 ?_
    refine q_i2l C dX4_joined_63 ?_
    refine q_lstore_n (L' := [some (.int l0), some (.int l1), some (.int l2), some (.long (l1 - l2).toInt64), none]) C dX4_joined_64 (by decide) rfl rfl ?_
    refine q_goto (tgt := 151) C dX4_joined_65 (by decide) ?_
    exact q_msk [false, false, false, true, false] (jW_X4_joined_151 C ((l1 - l2).toInt64) M h)
  have h := q_iteF h hs3_7
  by_cases hs3_8 : l0 = (-7 : Int32)
  · have h := q_iteT h hs3_8
    refine q_tsIn (tgt := 52) C dX4_joined_3 hs3_8 (by decide) (by decide) rfl (by decide) ?_
    refine q_iload_n C dX4_joined_52 rfl ?_
    refine q_iload_n C dX4_joined_53 rfl ?_
    refine q_iadd C dX4_joined_54 ?_
    refine q_i2l C dX4_joined_55 ?_
    refine q_lstore_n (L' := [some (.int l0), some (.int l1), some (.int l2), some (.long (l1 + l2).toInt64), none]) C dX4_joined_56 (by decide) rfl rfl ?_
    refine q_goto (tgt := 151) C dX4_joined_57 (by decide) ?_
    exact q_msk [false, false, false, true, false] (jW_X4_joined_151 C ((l1 + l2).toInt64) M h)
  have h := q_iteF h hs3_8
  have ho3 : (l0 : Int32).toInt < -15 ∨ -7 < (l0 : Int32).toInt := by
    have z0 := lv_neT (a := -15) hs3_0 (by decide)
    have z1 := lv_neT (a := -14) hs3_1 (by decide)
    have z2 := lv_neT (a := -13) hs3_2 (by decide)
    have z3 := lv_neT (a := -12) hs3_3 (by decide)
    have z4 := lv_neT (a := -11) hs3_4 (by decide)
    have z5 := lv_neT (a := -10) hs3_5 (by decide)
    have z6 := lv_neT (a := -9) hs3_6 (by decide)
    have z7 := lv_neT (a := -8) hs3_7 (by decide)
    have z8 := lv_neT (a := -7) hs3_8 (by decide)
    omega
  refine q_tsOut (tgt := 151) C dX4_joined_3 ho3 (by decide) ?_
  exact q_msk [false, false, false, true, false] (jW_X4_joined_151 C (0 : Int64) M h)
