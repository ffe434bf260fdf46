noncomputable def F_X6_logRow (l0 : Int32) (M : q_Mem) : Option (Int32) := some ((l0 &&& (127 : Int32)) * (3 : Int32))
set_option maxRecDepth 100000 in
set_option maxHeartbeats 4000000 in
theorem c_X6_logRow (l : Launch) (G : q_G) (l0 : Int32) (M : q_Mem) {r : Int32} (h : F_X6_logRow l0 M = some r) : q_Met l G yX6_logRow cX6_logRow 1 (Option.some Jvm.ClassFile.FieldType.int) 1 0 0 [.int l0] M (some (.int r)) M := by
  unfold F_X6_logRow at h
  refine q_enter [some (.int l0)] (by decide) (Nat.le_of_ble_eq_true rfl) rfl (fun K C => ?_)
  refine q_iload_n C dX6_logRow_0 rfl ?_
  refine x_bipush (v := (127 : Int32)) C dX6_logRow_1 (by decide) ?_
  refine q_iand C dX6_logRow_3 ?_
  refine x_iconst (v := (3 : Int32)) C dX6_logRow_4 (by decide) ?_
  refine q_imul C dX6_logRow_5 ?_
  exact q_iret (res := (r, M)) C dX6_logRow_6 rfl (by decide) (by decide) (congrArg (fun z => (z, M)) (Option.some.inj h))
noncomputable def F_X6_writeLog (l0 : Nat) (l1 : Nat) (l2 : Nat) (M : q_Mem) : Option (Unit × q_Mem) := (q_gR M l1 8 0 (fun c1 => q_nn c1 (fun r2 => (q_lI M 0 r2 (0 : Int32) (fun v3 => ((F_X6_logRow (v3 - (1 : Int32)) M).bind (fun u4 => (q_gR M l0 6 1 (fun c5 => q_nn c5 (fun r6 => (q_gI M l2 1 7 (fun v7 => (q_tI M r6 u4 v7 (fun M8 => (q_gR M8 l0 6 1 (fun c9 => q_nn c9 (fun r10 => (q_gI M8 l2 1 10 (fun v11 => (q_tI M8 r10 (u4 + (1 : Int32)) v11 (fun M12 => (q_gR M12 l0 6 1 (fun c13 => q_nn c13 (fun r14 => (q_ob M12 l1 8 ((F_X8_joyOfAll l1 M12).bind (fun u15 => (q_tI M12 r14 (u4 + (2 : Int32)) u15 (fun M16 => some ((), M16))))))))))))))))))))))))))))))
set_option maxRecDepth 100000 in
set_option maxHeartbeats 4000000 in
theorem c_X6_writeLog (l : Launch) (G : q_G) (l0 : Nat) (l1 : Nat) (l2 : Nat) (M : q_Mem) {r : Unit} {M' : q_Mem} (h : F_X6_writeLog l0 l1 l2 M = some (r, M')) : q_Met l G yX6_writeLog cX6_writeLog 4 (Option.none : Option Jvm.ClassFile.FieldType) 2 0 0 [.ref l0, .ref l1, .ref l2] M none M' := by
  unfold F_X6_writeLog at h
  refine q_enter [some (.ref l0), some (.ref l1), some (.ref l2), none] (by decide) (Nat.le_of_ble_eq_true rfl) rfl (fun K C => ?_)
  refine q_aload_n C dX6_writeLog_0 rfl ?_
  refine x_getR (ci := 8) (j := 0) C dX6_writeLog_1 lkF_X6_39 rfl h (fun c1 h => ?_)
  refine x_nn h (fun r2 h => ?_)
  refine x_iconst (v := (0 : Int32)) C dX6_writeLog_4 (by decide) ?_
  refine x_iald C dX6_writeLog_5 h (fun v3 h => ?_)
  refine x_iconst (v := (1 : Int32)) C dX6_writeLog_6 (by decide) ?_
  refine q_isub C dX6_writeLog_7 ?_
  obtain ⟨u4, e1, h⟩ := q_bind h
  refine x_callS0 C dX6_writeLog_8 lkM_X6_54 mS_X6_logRow (c_X6_logRow _ _ _ _ e1) rfl rfl (Nat.le_of_ble_eq_true rfl) (by decide) (by decide) ?_
  refine q_istore_n (L' := [some (.ref l0), some (.ref l1), some (.ref l2), some (.int u4)]) C dX6_writeLog_11 (by decide) rfl rfl ?_
  refine q_aload_n C dX6_writeLog_12 rfl ?_
  refine x_getR (ci := 6) (j := 1) C dX6_writeLog_13 lkF_X6_15 rfl h (fun c5 h => ?_)
  refine x_nn h (fun r6 h => ?_)
  refine q_iload_n C dX6_writeLog_16 rfl ?_
  refine q_aload_n C dX6_writeLog_17 rfl ?_
  refine x_getI (ci := 1) (j := 7) C dX6_writeLog_18 lkF_X6_58 rfl h (fun v7 h => ?_)
  refine x_iast C dX6_writeLog_21 h (fun M8 h => ?_)
  refine q_aload_n C dX6_writeLog_22 rfl ?_
  refine x_getR (ci := 6) (j := 1) C dX6_writeLog_23 lkF_X6_15 rfl h (fun c9 h => ?_)
  refine x_nn h (fun r10 h => ?_)
  refine q_iload_n C dX6_writeLog_26 rfl ?_
  refine x_iconst (v := (1 : Int32)) C dX6_writeLog_27 (by decide) ?_
  refine q_iadd C dX6_writeLog_28 ?_
  refine q_aload_n C dX6_writeLog_29 rfl ?_
  refine x_getI (ci := 1) (j := 10) C dX6_writeLog_30 lkF_X6_63 rfl h (fun v11 h => ?_)
  refine x_iast C dX6_writeLog_33 h (fun M12 h => ?_)
  refine q_aload_n C dX6_writeLog_34 rfl ?_
  refine x_getR (ci := 6) (j := 1) C dX6_writeLog_35 lkF_X6_15 rfl h (fun c13 h => ?_)
  refine x_nn h (fun r14 h => ?_)
  refine q_iload_n C dX6_writeLog_38 rfl ?_
  refine x_iconst (v := (2 : Int32)) C dX6_writeLog_39 (by decide) ?_
  refine q_iadd C dX6_writeLog_40 ?_
  refine q_aload_n C dX6_writeLog_41 rfl ?_
  obtain ⟨hk, h⟩ := q_obE h
  obtain ⟨u15, e1, h⟩ := q_bind h
  refine x_callV0 C dX6_writeLog_42 lkM_X6_66 mV_X8_joyOfAll ⟨_, rfl, rfl⟩ hk (c_X8_joyOfAll _ _ _ _ e1) rfl rfl (Nat.le_of_ble_eq_true rfl) (by decide) (by decide) ?_
  refine x_iast C dX6_writeLog_45 h (fun M16 h => ?_)
  exact q_vret C dX6_writeLog_46 rfl (by decide) (by decide) (Option.some.inj h)
noncomputable def F_X6_ofLog (l0 : Nat) (l1 : Int32) (l2 : Int32) (M : q_Mem) : Option (Int32) := ((F_X6_logRow l1 M).bind (fun u1 => (if (u1 + l2) < 0 then some (-1000000 : Int32) else (q_gR M l0 6 1 (fun c2 => q_nn c2 (fun r3 => (q_al M r3 (fun v4 => (if (u1 + l2) < v4 then (q_gR M l0 6 1 (fun c5 => q_nn c5 (fun r6 => (q_lI M 0 r6 (u1 + l2) (fun v7 => some v7))))) else some (-1000000 : Int32))))))))))
set_option maxRecDepth 100000 in
set_option maxHeartbeats 4000000 in
theorem c_X6_ofLog (l : Launch) (G : q_G) (l0 : Nat) (l1 : Int32) (l2 : Int32) (M : q_Mem) {r : Int32} (h : F_X6_ofLog l0 l1 l2 M = some r) : q_Met l G yX6_ofLog cX6_ofLog 4 (Option.some Jvm.ClassFile.FieldType.int) 2 0 0 [.ref l0, .int l1, .int l2] M (some (.int r)) M := by
  unfold F_X6_ofLog at h
  refine q_enter [some (.ref l0), some (.int l1), some (.int l2), none] (by decide) (Nat.le_of_ble_eq_true rfl) rfl (fun K C => ?_)
  refine q_iload_n C dX6_ofLog_0 rfl ?_
  obtain ⟨u1, e1, h⟩ := q_bind h
  refine x_callS0 C dX6_ofLog_1 lkM_X6_54 mS_X6_logRow (c_X6_logRow _ _ _ _ e1) rfl rfl (Nat.le_of_ble_eq_true rfl) (by decide) (by decide) ?_
  refine q_iload_n C dX6_ofLog_4 rfl ?_
  refine q_iadd C dX6_ofLog_5 ?_
  refine q_istore_n (L' := [some (.ref l0), some (.int l1), some (.int l2), some (.int (u1 + l2))]) C dX6_ofLog_6 (by decide) rfl rfl ?_
  refine q_iload_n C dX6_ofLog_7 rfl ?_
  refine q_if_lt (tgt := 29) C dX6_ofLog_8 (by decide) h (fun _ h => ?_) (fun _ h => ?_)
  · refine q_ldc (v := (-1000000 : Int32)) C dX6_ofLog_29 wd_871 ?_
    exact q_iret (res := (r, M)) C dX6_ofLog_31 rfl (by decide) (by decide) (congrArg (fun z => (z, M)) (Option.some.inj h))
  · refine q_iload_n C dX6_ofLog_11 rfl ?_
    refine q_aload_n C dX6_ofLog_12 rfl ?_
    refine x_getR (ci := 6) (j := 1) C dX6_ofLog_13 lkF_X6_15 rfl h (fun c2 h => ?_)
    refine x_nn h (fun r3 h => ?_)
    refine x_alen C dX6_ofLog_16 h (fun v4 h => ?_)
    refine q_icmp_ge (tgt := 29) C dX6_ofLog_17 (by decide) h (fun _ h => ?_) (fun _ h => ?_)
    · refine q_aload_n C dX6_ofLog_20 rfl ?_
      refine x_getR (ci := 6) (j := 1) C dX6_ofLog_21 lkF_X6_15 rfl h (fun c5 h => ?_)
      refine x_nn h (fun r6 h => ?_)
      refine q_iload_n C dX6_ofLog_24 rfl ?_
      refine x_iald C dX6_ofLog_25 h (fun v7 h => ?_)
      refine q_goto (tgt := 31) C dX6_ofLog_26 (by decide) ?_
      exact q_iret (res := (r, M)) C dX6_ofLog_31 rfl (by decide) (by decide) (congrArg (fun z => (z, M)) (Option.some.inj h))
    · refine q_ldc (v := (-1000000 : Int32)) C dX6_ofLog_29 wd_871 ?_
      exact q_iret (res := (r, M)) C dX6_ofLog_31 rfl (by decide) (by decide) (congrArg (fun z => (z, M)) (Option.some.inj h))
noncomputable def F_X6_takePicture (l0 : Nat) (l1 : Nat) (M : q_Mem) : Option (Unit × q_Mem) := (q_gR M l0 6 3 (fun c1 => q_nn c1 (fun r2 => (q_ob M r2 8 ((F_X8_copyFrom r2 l1 M).bind (fun x => match x with | (_, M4) => (q_gR M4 l0 6 1 (fun c5 => q_nn c5 (fun r6 => (q_gR M4 l0 6 2 (fun c7 => q_nn c7 (fun r8 => (q_gR M4 l0 6 1 (fun c9 => q_nn c9 (fun r10 => (q_al M4 r10 (fun v11 => (q_cp M4 r6 (0 : Int32) r8 (0 : Int32) v11 (fun M12 => (q_pZ M12 l0 6 4 (1 : Int32) (fun M13 => some ((), M13))))))))))))))))))))))
set_option maxRecDepth 100000 in
set_option maxHeartbeats 4000000 in
theorem c_X6_takePicture (l : Launch) (G : q_G) (l0 : Nat) (l1 : Nat) (M : q_Mem) {r : Unit} {M' : q_Mem} (h : F_X6_takePicture l0 l1 M = some (r, M')) : q_Met l G yX6_takePicture cX6_takePicture 2 (Option.none : Option Jvm.ClassFile.FieldType) 3 0 0 [.ref l0, .ref l1] M none M' := by
  unfold F_X6_takePicture at h
  refine q_enter [some (.ref l0), some (.ref l1)] (by decide) (Nat.le_of_ble_eq_true rfl) rfl (fun K C => ?_)
  refine q_aload_n C dX6_takePicture_0 rfl ?_
  refine x_getR (ci := 6) (j := 3) C dX6_takePicture_1 lkF_X6_24 rfl h (fun c1 h => ?_)
  refine x_nn h (fun r2 h => ?_)
  refine q_aload_n C dX6_takePicture_4 rfl ?_
  obtain ⟨hk, h⟩ := q_obE h
  obtain ⟨⟨_, M4⟩, e1, h⟩ := q_bind h
  refine x_callVv0 C dX6_takePicture_5 lkM_X6_71 mV_X8_copyFrom ⟨_, rfl, rfl⟩ hk (c_X8_copyFrom _ _ _ _ _ e1) rfl rfl (Nat.le_of_ble_eq_true rfl) (by decide) (by decide) ?_
  refine q_aload_n C dX6_takePicture_8 rfl ?_
  refine x_getR (ci := 6) (j := 1) C dX6_takePicture_9 lkF_X6_15 rfl h (fun c5 h => ?_)
  refine x_nn h (fun r6 h => ?_)
  refine x_iconst (v := (0 : Int32)) C dX6_takePicture_12 (by decide) ?_
  refine q_aload_n C dX6_takePicture_13 rfl ?_
  refine x_getR (ci := 6) (j := 2) C dX6_takePicture_14 lkF_X6_18 rfl h (fun c7 h => ?_)
  refine x_nn h (fun r8 h => ?_)
  refine x_iconst (v := (0 : Int32)) C dX6_takePicture_17 (by decide) ?_
  refine q_aload_n C dX6_takePicture_18 rfl ?_
  refine x_getR (ci := 6) (j := 1) C dX6_takePicture_19 lkF_X6_15 rfl h (fun c9 h => ?_)
  refine x_nn h (fun r10 h => ?_)
  refine x_alen C dX6_takePicture_22 h (fun v11 h => ?_)
  refine x_copy C dX6_takePicture_23 wd_802 wd_626 wd_625 wd_19 (by decide) (Nat.le_of_ble_eq_true rfl) h (fun M12 h => ?_)
  refine q_aload_n C dX6_takePicture_26 rfl ?_
  refine x_iconst (v := (1 : Int32)) C dX6_takePicture_27 (by decide) ?_
  refine x_putZ (ci := 6) (j := 4) C dX6_takePicture_28 lkF_X6_28 (fun r hr => by cases hr; rfl) rfl h (fun M13 h => ?_)
  exact q_vret C dX6_takePicture_31 rfl (by decide) (by decide) (Option.some.inj h)
noncomputable def F_X6_showPicture (l0 : Nat) (l1 : Nat) (M : q_Mem) : Option (Int32 × q_Mem) := (q_gI M l0 6 4 (fun v1 => (if v1 = 0 then q_rz (0 : Int32) M else (q_gR M l0 6 3 (fun c2 => q_nn c2 (fun r3 => (q_ob M l1 8 ((F_X8_copyFrom l1 r3 M).bind (fun x => match x with | (_, M5) => (q_gR M5 l0 6 2 (fun c6 => q_nn c6 (fun r7 => (q_gR M5 l0 6 1 (fun c8 => q_nn c8 (fun r9 => (q_gR M5 l0 6 1 (fun c10 => q_nn c10 (fun r11 => (q_al M5 r11 (fun v12 => (q_cp M5 r7 (0 : Int32) r9 (0 : Int32) v12 (fun M13 => (q_pI M13 l0 6 6 (0 : Int32) (fun M14 => q_rz (1 : Int32) M14))))))))))))))))))))))))
set_option maxRecDepth 100000 in
set_option maxHeartbeats 4000000 in
theorem c_X6_showPicture (l : Launch) (G : q_G) (l0 : Nat) (l1 : Nat) (M : q_Mem) {r : Int32} {M' : q_Mem} (h : F_X6_showPicture l0 l1 M = some (r, M')) : q_Met l G yX6_showPicture cX6_showPicture 2 (Option.some Jvm.ClassFile.FieldType.boolean) 3 0 0 [.ref l0, .ref l1] M (some (.int r)) M' := by
  unfold F_X6_showPicture at h
  refine q_enter [some (.ref l0), some (.ref l1)] (by decide) (Nat.le_of_ble_eq_true rfl) rfl (fun K C => ?_)
  refine q_aload_n C dX6_showPicture_0 rfl ?_
  refine x_getI (ci := 6) (j := 4) C dX6_showPicture_1 lkF_X6_28 rfl h (fun v1 h => ?_)
  refine q_if_ne (tgt := 9) C dX6_showPicture_4 (by decide) h (fun _ h => ?_) (fun _ h => ?_)
  · refine x_iconst (v := (0 : Int32)) C dX6_showPicture_7 (by decide) ?_
    exact q_zret C dX6_showPicture_8 rfl (by decide) (by decide) (q_rzE h).1 (q_rzE h).2
  · refine q_aload_n C dX6_showPicture_9 rfl ?_
    refine q_aload_n C dX6_showPicture_10 rfl ?_
    refine x_getR (ci := 6) (j := 3) C dX6_showPicture_11 lkF_X6_24 rfl h (fun c2 h => ?_)
    refine x_nn h (fun r3 h => ?_)
    obtain ⟨hk, h⟩ := q_obE h
    obtain ⟨⟨_, M5⟩, e1, h⟩ := q_bind h
    refine x_callVv0 C dX6_showPicture_14 lkM_X6_71 mV_X8_copyFrom ⟨_, rfl, rfl⟩ hk (c_X8_copyFrom _ _ _ _ _ e1) rfl rfl (Nat.le_of_ble_eq_true rfl) (by decide) (by decide) ?_
    refine q_aload_n C dX6_showPicture_17 rfl ?_
    refine x_getR (ci := 6) (j := 2) C dX6_showPicture_18 lkF_X6_18 rfl h (fun c6 h => ?_)
    refine x_nn h (fun r7 h => ?_)
    refine x_iconst (v := (0 : Int32)) C dX6_showPicture_21 (by decide) ?_
    refine q_aload_n C dX6_showPicture_22 rfl ?_
    refine x_getR (ci := 6) (j := 1) C dX6_showPicture_23 lkF_X6_15 rfl h (fun c8 h => ?_)
    refine x_nn h (fun r9 h => ?_)
    refine x_iconst (v := (0 : Int32)) C dX6_showPicture_26 (by decide) ?_
    refine q_aload_n C dX6_showPicture_27 rfl ?_
    refine x_getR (ci := 6) (j := 1) C dX6_showPicture_28 lkF_X6_15 rfl h (fun c10 h => ?_)
    refine x_nn h (fun r11 h => ?_)
    refine x_alen C dX6_showPicture_31 h (fun v12 h => ?_)
    refine x_copy C dX6_showPicture_32 wd_802 wd_626 wd_625 wd_19 (by decide) (Nat.le_of_ble_eq_true rfl) h (fun M13 h => ?_)
    refine q_aload_n C dX6_showPicture_35 rfl ?_
    refine x_iconst (v := (0 : Int32)) C dX6_showPicture_36 (by decide) ?_
    refine x_putI (ci := 6) (j := 6) C dX6_showPicture_37 lkF_X6_36 (fun r hr => by cases hr; rfl) rfl h (fun M14 h => ?_)
    refine x_iconst (v := (1 : Int32)) C dX6_showPicture_40 (by decide) ?_
    exact q_zret C dX6_showPicture_41 rfl (by decide) (by decide) (q_rzE h).1 (q_rzE h).2
noncomputable def F_X7_init (l0 : Nat) (l1 : Nat) (l2 : Nat) (M : q_Mem) : Option (Unit × q_Mem) := (q_nA M 0 (50 : Int32) 50 (fun k1 M2 => (q_pR M2 l0 7 2 (k1 + 1) (fun M3 => (q_pI M3 l0 7 3 (0 : Int32) (fun M4 => (q_pR M4 l0 7 0 (l1 + 1) (fun M5 => (q_pR M5 l0 7 1 (l2 + 1) (fun M6 => some ((), M6)))))))))))
set_option maxRecDepth 100000 in
set_option maxHeartbeats 4000000 in
theorem c_X7_init (l : Launch) (G : q_G) (l0 : Nat) (l1 : Nat) (l2 : Nat) (M : q_Mem) {r : Unit} {M' : q_Mem} (h : F_X7_init l0 l1 l2 M = some (r, M')) : q_Met l G yX7_init cX7_init 3 (Option.none : Option Jvm.ClassFile.FieldType) 2 1 50 [.ref l0, .ref l1, .ref l2] M none M' := by
  unfold F_X7_init at h
  refine q_enter [some (.ref l0), some (.ref l1), some (.ref l2)] (by decide) (Nat.le_of_ble_eq_true rfl) rfl (fun K C => ?_)
  refine q_aload_n C dX7_init_0 rfl ?_
  refine q_objI C dX7_init_1 wd_298 wd_33 wd_34 (by decide) (Nat.le_of_ble_eq_true rfl) ?_
  refine q_aload_n C dX7_init_4 rfl ?_
  refine x_bipush (v := (50 : Int32)) C dX7_init_5 (by decide) ?_
  refine x_newa C dX7_init_7 (by simp) wd_103 (by decide) h (by decide) (fun k1 M2 h => ?_)
  refine x_putR (ci := 7) (j := 2) (k1 + 1) C dX7_init_9 lkF_X7_11 (fun r hr => by cases hr; exact Or.inr ⟨rfl, rfl, wd_301⟩) (Or.inr ⟨_, rfl⟩) rfl h (fun M3 h => ?_)
  refine q_aload_n C dX7_init_12 rfl ?_
  refine x_iconst (v := (0 : Int32)) C dX7_init_13 (by decide) ?_
  refine x_putI (ci := 7) (j := 3) C dX7_init_14 lkF_X7_15 (fun r hr => by cases hr; rfl) rfl h (fun M4 h => ?_)
  refine q_aload_n C dX7_init_17 rfl ?_
  refine q_aload_n C dX7_init_18 rfl ?_
  refine x_putR (ci := 7) (j := 0) (l1 + 1) C dX7_init_19 lkF_X7_19 (fun r hr => by cases hr; exact Or.inr ⟨rfl, rfl, wd_299⟩) (Or.inl ⟨_, rfl⟩) rfl h (fun M5 h => ?_)
  refine q_aload_n C dX7_init_22 rfl ?_
  refine q_aload_n C dX7_init_23 rfl ?_
  refine x_putR (ci := 7) (j := 1) (l2 + 1) C dX7_init_24 lkF_X7_23 (fun r hr => by cases hr; exact Or.inr ⟨rfl, rfl, wd_300⟩) (Or.inl ⟨_, rfl⟩) rfl h (fun M6 h => ?_)
  exact q_vret C dX7_init_27 rfl (by decide) (by decide) (Option.some.inj h)
noncomputable def J_X7_add_76 (l0 : Nat) (s0 : Nat) (s1 : Int32) (s2 : Int32) (M : q_Mem) : Option (Int32 × q_Mem) := (q_tI M s0 s1 s2 (fun M17 => (q_gI M17 l0 7 3 (fun v18 => (q_pI M17 l0 7 3 (v18 + (1 : Int32)) (fun M19 => (q_gI M19 l0 7 3 (fun v20 => some (v20, M19)))))))))
set_option maxRecDepth 100000 in
set_option maxHeartbeats 4000000 in
theorem jW_X7_add_76 {K : q_K} (C : q_C K yX7_add cX7_add 7 (Option.some Jvm.ClassFile.FieldType.int) 1 0 0) (l0 : Nat) (s0 : Nat) (s1 : Int32) (s2 : Int32) (M : q_Mem) {r : Int32} {M' : q_Mem} (h : J_X7_add_76 l0 s0 s1 s2 M = some (r, M')) : q_W K 7 (q_Q K (some (.int r)) M' 0 0) 0 0 M 76 [some (.ref l0), none, none, none, none, none, none] [.int s2, .int s1, .ref s0] := by
  unfold J_X7_add_76 at h
  refine x_iast C dX7_add_76 h (fun M17 h => ?_)
  refine q_aload_n C dX7_add_77 rfl ?_
  refine q_dup C dX7_add_78 rfl ?_
  refine x_getI (ci := 7) (j := 3) C dX7_add_79 lkF_X7_15 rfl h (fun v18 h => ?_)
  refine x_iconst (v := (1 : Int32)) C dX7_add_82 (by decide) ?_
  refine q_iadd C dX7_add_83 ?_
  refine x_putI (ci := 7) (j := 3) C dX7_add_84 lkF_X7_15 (fun r hr => by cases hr; rfl) rfl h (fun M19 h => ?_)
  refine q_aload_n C dX7_add_87 rfl ?_
  refine x_getI (ci := 7) (j := 3) C dX7_add_88 lkF_X7_15 rfl h (fun v20 h => ?_)
  exact q_iret C dX7_add_91 rfl (by decide) (by decide) (Option.some.inj h)
noncomputable def F_X7_add (l0 : Nat) (l1 : Int32) (l2 : Int32) (l3 : Int32) (l4 : Int32) (l5 : Int32) (M : q_Mem) : Option (Int32 × q_Mem) := (q_gI M l0 7 3 (fun v1 => (if v1 < (10 : Int32) then (q_gI M l0 7 3 (fun v2 => (q_gR M l0 7 2 (fun c3 => q_nn c3 (fun r4 => (q_tI M r4 (v2 * (5 : Int32)) l1 (fun M5 => (q_gR M5 l0 7 2 (fun c6 => q_nn c6 (fun r7 => (q_tI M5 r7 ((v2 * (5 : Int32)) + (1 : Int32)) l2 (fun M8 => (q_gR M8 l0 7 2 (fun c9 => q_nn c9 (fun r10 => (q_tI M8 r10 ((v2 * (5 : Int32)) + (2 : Int32)) l3 (fun M11 => (q_gR M11 l0 7 2 (fun c12 => q_nn c12 (fun r13 => (q_tI M11 r13 ((v2 * (5 : Int32)) + (3 : Int32)) l4 (fun M14 => (q_gR M14 l0 7 2 (fun c15 => q_nn c15 (fun r16 => (if l5 = 0 then J_X7_add_76 l0 r16 ((v2 * (5 : Int32)) + (4 : Int32)) (0 : Int32) M14 else J_X7_add_76 l0 r16 ((v2 * (5 : Int32)) + (4 : Int32)) (1 : Int32) M14)))))))))))))))))))))))))) else some ((-1 : Int32), M))))
set_option maxRecDepth 100000 in
set_option maxHeartbeats 4000000 in
theorem c_X7_add (l : Launch) (G : q_G) (l0 : Nat) (l1 : Int32) (l2 : Int32) (l3 : Int32) (l4 : Int32) (l5 : Int32) (M : q_Mem) {r : Int32} {M' : q_Mem} (h : F_X7_add l0 l1 l2 l3 l4 l5 M = some (r, M')) : q_Met l G yX7_add cX7_add 7 (Option.some Jvm.ClassFile.FieldType.int) 1 0 0 [.ref l0, .int l1, .int l2, .int l3, .int l4, .int l5] M (some (.int r)) M' := by
  unfold F_X7_add at h
  refine q_enter [some (.ref l0), some (.int l1), some (.int l2), some (.int l3), some (.int l4), some (.int l5), none] (by decide) (Nat.le_of_ble_eq_true rfl) rfl (fun K C => ?_)
  refine q_aload_n C dX7_add_0 rfl ?_
  refine x_getI (ci := 7) (j := 3) C dX7_add_1 lkF_X7_15 rfl h (fun v1 h => ?_)
  refine x_bipush (v := (10 : Int32)) C dX7_add_4 (by decide) ?_
  refine q_icmp_lt (tgt := 11) C dX7_add_6 (by decide) h (fun _ h => ?_) (fun _ h => ?_)
  · refine q_aload_n C dX7_add_11 rfl ?_
    refine x_getI (ci := 7) (j := 3) C dX7_add_12 lkF_X7_15 rfl h (fun v2 h => ?_)
    refine x_iconst (v := (5 : Int32)) C dX7_add_15 (by decide) ?_
    refine q_imul C dX7_add_16 ?_
    refine q_istore (L' := [some (.ref l0), some (.int l1), some (.int l2), some (.int l3), some (.int l4), some (.int l5), some (.int (v2 * (5 : Int32)))]) C dX7_add_17 (by decide) rfl rfl ?_
    refine q_aload_n C dX7_add_19 rfl ?_
    refine x_getR (ci := 7) (j := 2) C dX7_add_20 lkF_X7_11 rfl h (fun c3 h => ?_)
    refine x_nn h (fun r4 h => ?_)
    refine q_iload C dX7_add_23 rfl ?_
    refine q_iload_n C dX7_add_25 rfl ?_
    refine x_iast C dX7_add_26 h (fun M5 h => ?_)
    refine q_aload_n C dX7_add_27 rfl ?_
    refine x_getR (ci := 7) (j := 2) C dX7_add_28 lkF_X7_11 rfl h (fun c6 h => ?_)
    refine x_nn h (fun r7 h => ?_)
    refine q_iload C dX7_add_31 rfl ?_
    refine x_iconst (v := (1 : Int32)) C dX7_add_33 (by decide) ?_
    refine q_iadd C dX7_add_34 ?_
    refine q_iload_n C dX7_add_35 rfl ?_
    refine x_iast C dX7_add_36 h (fun M8 h => ?_)
    refine q_aload_n C dX7_add_37 rfl ?_
    refine x_getR (ci := 7) (j := 2) C dX7_add_38 lkF_X7_11 rfl h (fun c9 h => ?_)
    refine x_nn h (fun r10 h => ?_)
    refine q_iload C dX7_add_41 rfl ?_
    refine x_iconst (v := (2 : Int32)) C dX7_add_43 (by decide) ?_
    refine q_iadd C dX7_add_44 ?_
    refine q_iload_n C dX7_add_45 rfl ?_
    refine x_iast C dX7_add_46 h (fun M11 h => ?_)
    refine q_aload_n C dX7_add_47 rfl ?_
    refine x_getR (ci := 7) (j := 2) C dX7_add_48 lkF_X7_11 rfl h (fun c12 h => ?_)
    refine x_nn h (fun r13 h => ?_)
    refine q_iload C dX7_add_51 rfl ?_
    refine x_iconst (v := (3 : Int32)) C dX7_add_53 (by decide) ?_
    refine q_iadd C dX7_add_54 ?_
    refine q_iload C dX7_add_55 rfl ?_
    refine x_iast C dX7_add_57 h (fun M14 h => ?_)
    refine q_aload_n C dX7_add_58 rfl ?_
    refine x_getR (ci := 7) (j := 2) C dX7_add_59 lkF_X7_11 rfl h (fun c15 h => ?_)
    refine x_nn h (fun r16 h => ?_)
    refine q_iload C dX7_add_62 rfl ?_
    refine x_iconst (v := (4 : Int32)) C dX7_add_64 (by decide) ?_
    refine q_iadd C dX7_add_65 ?_
    refine q_iload C dX7_add_66 rfl ?_
    refine q_if_eq (tgt := 75) C dX7_add_68 (by decide) h (fun _ h => ?_) (fun _ h => ?_)
    · refine x_iconst (v := (0 : Int32)) C dX7_add_75 (by decide) ?_
      exact q_msk [true, false, false, false, false, false, false] (jW_X7_add_76 C l0 r16 ((v2 * (5 : Int32)) + (4 : Int32)) (0 : Int32) M14 h)
    · refine x_iconst (v := (1 : Int32)) C dX7_add_71 (by decide) ?_
      refine q_goto (tgt := 76) C dX7_add_72 (by decide) ?_
      exact q_msk [true, false, false, false, false, false, false] (jW_X7_add_76 C l0 r16 ((v2 * (5 : Int32)) + (4 : Int32)) (1 : Int32) M14 h)
  · refine x_iconst (v := (-1 : Int32)) C dX7_add_9 (by decide) ?_
    exact q_iret C dX7_add_10 rfl (by decide) (by decide) (Option.some.inj h)
noncomputable def J_X7_hasJoy_18 (l0 : Nat) (l1 : Int32) (l4 : Int32) (l5 : Int32) (s0 : Int32) (M : q_Mem) : Option (Int32 × q_Mem) := (q_gR M l0 7 1 (fun c4 => q_nn c4 (fun r5 => (q_gR M l0 7 0 (fun c6 => q_nn c6 (fun r7 => (q_ob M r7 3 ((F_X3_ofGuest r7 l1 (3 : Int32) M).bind (fun u8 => (q_ob M r5 1 ((F_X1_joyBy r5 l4 s0 (1 : Int32) (0 : Int32) u8 (0 : Int32) M).bind (fun x => match x with | (u9, M10) => (if u9 < l5 then q_rz (0 : Int32) M10 else q_rz (1 : Int32) M10)))))))))))))
set_option maxRecDepth 100000 in
set_option maxHeartbeats 4000000 in
theorem jW_X7_hasJoy_18 {K : q_K} (C : q_C K yX7_hasJoy cX7_hasJoy 7 (Option.some Jvm.ClassFile.FieldType.boolean) 4 0 0) (l0 : Nat) (l1 : Int32) (l4 : Int32) (l5 : Int32) (s0 : Int32) (M : q_Mem) {r : Int32} {M' : q_Mem} (h : J_X7_hasJoy_18 l0 l1 l4 l5 s0 M = some (r, M')) : q_W K 7 (q_Q K (some (.int r)) M' 0 0) 0 0 M 18 [some (.ref l0), some (.int l1), none, none, some (.int l4), some (.int l5), none] [.int s0] := by
  unfold J_X7_hasJoy_18 at h
  refine q_istore (L' := [some (.ref l0), some (.int l1), none, none, some (.int l4), some (.int l5), some (.int s0)]) C dX7_hasJoy_18 (by decide) rfl rfl ?_
  refine q_aload_n C dX7_hasJoy_20 rfl ?_
  refine x_getR (ci := 7) (j := 1) C dX7_hasJoy_21 lkF_X7_23 rfl h (fun c4 h => ?_)
  refine x_nn h (fun r5 h => ?_)
  refine q_iload C dX7_hasJoy_24 rfl ?_
  refine q_iload C dX7_hasJoy_26 rfl ?_
  refine x_iconst (v := (1 : Int32)) C dX7_hasJoy_28 (by decide) ?_
  refine x_iconst (v := (0 : Int32)) C dX7_hasJoy_29 (by decide) ?_
  refine q_aload_n C dX7_hasJoy_30 rfl ?_
  refine x_getR (ci := 7) (j := 0) C dX7_hasJoy_31 lkF_X7_19 rfl h (fun c6 h => ?_)
  refine x_nn h (fun r7 h => ?_)
  refine q_iload_n C dX7_hasJoy_34 rfl ?_
  refine x_iconst (v := (3 : Int32)) C dX7_hasJoy_35 (by decide) ?_
  obtain ⟨hk, h⟩ := q_obE h
  obtain ⟨u8, e1, h⟩ := q_bind h
  refine x_callV0 C dX7_hasJoy_36 lkM_X7_33 mV_X3_ofGuest ⟨_, rfl, rfl⟩ hk (c_X3_ofGuest _ _ _ _ _ _ e1) rfl rfl (Nat.le_of_ble_eq_true rfl) (by decide) (by decide) ?_
  refine x_iconst (v := (0 : Int32)) C dX7_hasJoy_39 (by decide) ?_
  obtain ⟨hk, h⟩ := q_obE h
  obtain ⟨⟨u9, M10⟩, e1, h⟩ := q_bind h
  refine x_callV0 C dX7_hasJoy_40 lkM_X7_36 mV_X1_joyBy ⟨_, rfl, rfl⟩ hk (c_X1_joyBy _ _ _ _ _ _ _ _ _ _ e1) rfl rfl (Nat.le_of_ble_eq_true rfl) (by decide) (by decide) ?_
  refine q_iload C dX7_hasJoy_43 rfl ?_
  refine q_icmp_lt (tgt := 52) C dX7_hasJoy_45 (by decide) h (fun _ h => ?_) (fun _ h => ?_)
  · refine x_iconst (v := (0 : Int32)) C dX7_hasJoy_52 (by decide) ?_
    exact q_zret C dX7_hasJoy_53 rfl (by decide) (by decide) (q_rzE h).1 (q_rzE h).2
  · refine x_iconst (v := (1 : Int32)) C dX7_hasJoy_48 (by decide) ?_
    refine q_goto (tgt := 53) C dX7_hasJoy_49 (by decide) ?_
    exact q_zret C dX7_hasJoy_53 rfl (by decide) (by decide) (q_rzE h).1 (q_rzE h).2
noncomputable def F_X7_hasJoy (l0 : Nat) (l1 : Int32) (l2 : Int32) (l3 : Int32) (l4 : Int32) (l5 : Int32) (M : q_Mem) : Option (Int32 × q_Mem) := (q_gR M l0 7 0 (fun c1 => q_nn c1 (fun r2 => (q_ob M r2 3 ((F_X3_ofDish r2 l3 (2 : Int32) M).bind (fun u3 => (if u3 = l2 then J_X7_hasJoy_18 l0 l1 l4 l5 (1 : Int32) M else J_X7_hasJoy_18 l0 l1 l4 l5 (0 : Int32) M)))))))
set_option maxRecDepth 100000 in
set_option maxHeartbeats 4000000 in
theorem c_X7_hasJoy (l : Launch) (G : q_G) (l0 : Nat) (l1 : Int32) (l2 : Int32) (l3 : Int32) (l4 : Int32) (l5 : Int32) (M : q_Mem) {r : Int32} {M' : q_Mem} (h : F_X7_hasJoy l0 l1 l2 l3 l4 l5 M = some (r, M')) : q_Met l G yX7_hasJoy cX7_hasJoy 7 (Option.some Jvm.ClassFile.FieldType.boolean) 4 0 0 [.ref l0, .int l1, .int l2, .int l3, .int l4, .int l5] M (some (.int r)) M' := by
  unfold F_X7_hasJoy at h
  refine q_enter [some (.ref l0), some (.int l1), some (.int l2), some (.int l3), some (.int l4), some (.int l5), none] (by decide) (Nat.le_of_ble_eq_true rfl) rfl (fun K C => ?_)
  refine q_aload_n C dX7_hasJoy_0 rfl ?_
  refine x_getR (ci := 7) (j := 0) C dX7_hasJoy_1 lkF_X7_19 rfl h (fun c1 h => ?_)
  refine x_nn h (fun r2 h => ?_)
  refine q_iload_n C dX7_hasJoy_4 rfl ?_
  refine x_iconst (v := (2 : Int32)) C dX7_hasJoy_5 (by decide) ?_
  obtain ⟨hk, h⟩ := q_obE h
  obtain ⟨u3, e1, h⟩ := q_bind h
  refine x_callV0 C dX7_hasJoy_6 lkM_X7_27 mV_X3_ofDish ⟨_, rfl, rfl⟩ hk (c_X3_ofDish _ _ _ _ _ _ e1) rfl rfl (Nat.le_of_ble_eq_true rfl) (by decide) (by decide) ?_
  refine q_iload_n C dX7_hasJoy_9 rfl ?_
  refine q_icmp_ne (tgt := 17) C dX7_hasJoy_10 (by decide) h (fun _ h => ?_) (fun _ h => ?_)
  · refine x_iconst (v := (1 : Int32)) C dX7_hasJoy_13 (by decide) ?_
    refine q_goto (tgt := 18) C dX7_hasJoy_14 (by decide) ?_
    exact q_msk [true, true, false, false, true, true, false] (jW_X7_hasJoy_18 C l0 l1 l4 l5 (1 : Int32) M h)
  · refine x_iconst (v := (0 : Int32)) C dX7_hasJoy_17 (by decide) ?_
    exact q_msk [true, true, false, false, true, true, false] (jW_X7_hasJoy_18 C l0 l1 l4 l5 (0 : Int32) M h)
noncomputable def J_X7_mayLike_88_2 (l0 : Nat) (l1 : Int32) (l2 : Int32) (l3 : Int32) (M : q_Mem) : Option ((Int32 × q_Mem) ⊕ ((q_Mem) ⊕ (q_Mem))) := some (.inl ((l3 + (1 : Int32)), M))
set_option maxRecDepth 100000 in
set_option maxHeartbeats 4000000 in
theorem jW_X7_mayLike_88_2 {K : q_K} {Q : State → Prop} (C : q_C K yX7_mayLike cX7_mayLike 5 (Option.some Jvm.ClassFile.FieldType.boolean) 5 0 0) (l0 : Nat) (l1 : Int32) (l2 : Int32) (l3 : Int32) (M : q_Mem) {stp : (Int32 × q_Mem) ⊕ ((q_Mem) ⊕ (q_Mem))} (h : J_X7_mayLike_88_2 l0 l1 l2 l3 M = some stp) (kC : ∀ (l3 : Int32) (M : q_Mem), stp = .inl (l3, M) → q_W K 5 Q 0 0 M 2 [some (.ref l0), some (.int l1), some (.int l2), some (.int l3), none] []) (kE0 : ∀ (M : q_Mem), stp = .inr (.inl M) → q_W K 5 Q 0 0 M 86 [none, none, none, none, none] []) (kE1 : ∀ (M : q_Mem), stp = .inr (.inr M) → q_W K 5 Q 0 0 M 94 [none, none, none, none, none] []) : q_W K 5 Q 0 0 M 88 [some (.ref l0), some (.int l1), some (.int l2), some (.int l3), none] [] := by
  unfold J_X7_mayLike_88_2 at h
  refine x_iinc (w := (1 : Int32)) (L' := [some (.ref l0), some (.int l1), some (.int l2), some (.int (l3 + (1 : Int32))), none]) C dX7_mayLike_88 rfl (by decide) (by decide) rfl rfl ?_
  refine q_goto (tgt := 2) C dX7_mayLike_91 (by decide) ?_
  exact q_msk [true, true, true, true, false] (kC _ _ (Option.some.inj h).symm)
noncomputable def J_X7_mayLike_83_2 (l0 : Nat) (l1 : Int32) (l2 : Int32) (l3 : Int32) (s0 : Int32) (s1 : Int32) (M : q_Mem) : Option ((Int32 × q_Mem) ⊕ ((q_Mem) ⊕ (q_Mem))) := (if s0 = s1 then J_X7_mayLike_88_2 l0 l1 l2 l3 M else some (.inr (.inl M)))
set_option maxRecDepth 100000 in
set_option maxHeartbeats 4000000 in
theorem jW_X7_mayLike_83_2 {K : q_K} {Q : State → Prop} (C : q_C K yX7_mayLike cX7_mayLike 5 (Option.some Jvm.ClassFile.FieldType.boolean) 5 0 0) (l0 : Nat) (l1 : Int32) (l2 : Int32) (l3 : Int32) (s0 : Int32) (s1 : Int32) (M : q_Mem) {stp : (Int32 × q_Mem) ⊕ ((q_Mem) ⊕ (q_Mem))} (h : J_X7_mayLike_83_2 l0 l1 l2 l3 s0 s1 M = some stp) (kC : ∀ (l3 : Int32) (M : q_Mem), stp = .inl (l3, M) → q_W K 5 Q 0 0 M 2 [some (.ref l0), some (.int l1), some (.int l2), some (.int l3), none] []) (kE0 : ∀ (M : q_Mem), stp = .inr (.inl M) → q_W K 5 Q 0 0 M 86 [none, none, none, none, none] []) (kE1 : ∀ (M : q_Mem), stp = .inr (.inr M) → q_W K 5 Q 0 0 M 94 [none, none, none, none, none] []) : q_W K 5 Q 0 0 M 83 [some (.ref l0), some (.int l1), some (.int l2), some (.int l3), none] [.int s1, .int s0] := by
  unfold J_X7_mayLike_83_2 at h
  refine q_icmp_eq (tgt := 88) C dX7_mayLike_83 (by decide) h (fun _ h => ?_) (fun _ h => ?_)
  · exact q_msk [true, true, true, true, false] (jW_X7_mayLike_88_2 C l0 l1 l2 l3 M h kC kE0 kE1)
  · exact q_msk [false, false, false, false, false] (kE0 _ (Option.some.inj h).symm)
noncomputable def B_X7_mayLike_2 (l0 : Nat) (l1 : Int32) (l2 : Int32) (l3 : Int32) (M : q_Mem) : Option ((Int32 × q_Mem) ⊕ ((q_Mem) ⊕ (q_Mem))) := (q_gI M l0 7 3 (fun v1 => (if l3 < v1 then (if l3 < (10 : Int32) then (q_gR M l0 7 2 (fun c2 => q_nn c2 (fun r3 => (q_lI M 0 r3 (l3 * (5 : Int32)) (fun v4 => (if v4 = l1 then (q_gR M l0 7 2 (fun c5 => q_nn c5 (fun r6 => (q_lI M 0 r6 ((l3 * (5 : Int32)) + (1 : Int32)) (fun v7 => (q_gR M l0 7 2 (fun c8 => q_nn c8 (fun r9 => (q_lI M 0 r9 ((l3 * (5 : Int32)) + (2 : Int32)) (fun v10 => (q_gR M l0 7 2 (fun c11 => q_nn c11 (fun r12 => (q_lI M 0 r12 ((l3 * (5 : Int32)) + (3 : Int32)) (fun v13 => (q_ob M l0 7 ((F_X7_hasJoy l0 l1 l2 v7 v10 v13 M).bind (fun x => match x with | (u14, M15) => (q_gR M15 l0 7 2 (fun c16 => q_nn c16 (fun r17 => (q_lI M15 0 r17 ((l3 * (5 : Int32)) + (4 : Int32)) (fun v18 => (if v18 = (1 : Int32) then J_X7_mayLike_83_2 l0 l1 l2 l3 u14 (1 : Int32) M15 else J_X7_mayLike_83_2 l0 l1 l2 l3 u14 (0 : Int32) M15)))))))))))))))))))))))) else J_X7_mayLike_88_2 l0 l1 l2 l3 M)))))) else some (.inr (.inr M))) else some (.inr (.inr M)))))
set_option maxRecDepth 100000 in
set_option maxHeartbeats 4000000 in
theorem bW_X7_mayLike_2 {K : q_K} {Q : State → Prop} (C : q_C K yX7_mayLike cX7_mayLike 5 (Option.some Jvm.ClassFile.FieldType.boolean) 5 0 0) (l0 : Nat) (l1 : Int32) (l2 : Int32) (l3 : Int32) (M : q_Mem) {stp : (Int32 × q_Mem) ⊕ ((q_Mem) ⊕ (q_Mem))} (h : B_X7_mayLike_2 l0 l1 l2 l3 M = some stp) (kC : ∀ (l3 : Int32) (M : q_Mem), stp = .inl (l3, M) → q_W K 5 Q 0 0 M 2 [some (.ref l0), some (.int l1), some (.int l2), some (.int l3), none] []) (kE0 : ∀ (M : q_Mem), stp = .inr (.inl M) → q_W K 5 Q 0 0 M 86 [none, none, none, none, none] []) (kE1 : ∀ (M : q_Mem), stp = .inr (.inr M) → q_W K 5 Q 0 0 M 94 [none, none, none, none, none] []) : q_W K 5 Q 0 0 M 2 [some (.ref l0), some (.int l1), some (.int l2), some (.int l3), none] [] := by
  unfold B_X7_mayLike_2 at h
  refine q_iload_n C dX7_mayLike_2 rfl ?_
  refine q_aload_n C dX7_mayLike_3 rfl ?_
  refine x_getI (ci := 7) (j := 3) C dX7_mayLike_4 lkF_X7_15 rfl h (fun v1 h => ?_)
  refine q_icmp_ge (tgt := 94) C dX7_mayLike_7 (by decide) h (fun _ h => ?_) (fun _ h => ?_)
  · refine q_iload_n C dX7_mayLike_10 rfl ?_
    refine x_bipush (v := (10 : Int32)) C dX7_mayLike_11 (by decide) ?_
    refine q_icmp_ge (tgt := 94) C dX7_mayLike_13 (by decide) h (fun _ h => ?_) (fun _ h => ?_)
    · refine q_iload_n C dX7_mayLike_16 rfl ?_
      refine x_iconst (v := (5 : Int32)) C dX7_mayLike_17 (by decide) ?_
      refine q_imul C dX7_mayLike_18 ?_
      refine q_istore (L' := [some (.ref l0), some (.int l1), some (.int l2), some (.int l3), some (.int (l3 * (5 : Int32)))]) C dX7_mayLike_19 (by decide) rfl rfl ?_
      refine q_aload_n C dX7_mayLike_21 rfl ?_
      refine x_getR (ci := 7) (j := 2) C dX7_mayLike_22 lkF_X7_11 rfl h (fun c2 h => ?_)
      refine x_nn h (fun r3 h => ?_)
      refine q_iload C dX7_mayLike_25 rfl ?_
      refine x_iald C dX7_mayLike_27 h (fun v4 h => ?_)
      refine q_iload_n C dX7_mayLike_28 rfl ?_
      refine q_icmp_ne (tgt := 88) C dX7_mayLike_29 (by decide) h (fun _ h => ?_) (fun _ h => ?_)
      · refine q_aload_n C dX7_mayLike_32 rfl ?_
        refine q_iload_n C dX7_mayLike_33 rfl ?_
        refine q_iload_n C dX7_mayLike_34 rfl ?_
        refine q_aload_n C dX7_mayLike_35 rfl ?_
        refine x_getR (ci := 7) (j := 2) C dX7_mayLike_36 lkF_X7_11 rfl h (fun c5 h => ?_)
        refine x_nn h (fun r6 h => ?_)
        refine q_iload C dX7_mayLike_39 rfl ?_
        refine x_iconst (v := (1 : Int32)) C dX7_mayLike_41 (by decide) ?_
        refine q_iadd C dX7_mayLike_42 ?_
        refine x_iald C dX7_mayLike_43 h (fun v7 h => ?_)
        refine q_aload_n C dX7_mayLike_44 rfl ?_
        refine x_getR (ci := 7) (j := 2) C dX7_mayLike_45 lkF_X7_11 rfl h (fun c8 h => ?_)
        refine x_nn h (fun r9 h => ?_)
        refine q_iload C dX7_mayLike_48 rfl ?_
        refine x_iconst (v := (2 : Int32)) C dX7_mayLike_50 (by decide) ?_
        refine q_iadd C dX7_mayLike_51 ?_
        refine x_iald C dX7_mayLike_52 h (fun v10 h => ?_)
        refine q_aload_n C dX7_mayLike_53 rfl ?_
        refine x_getR (ci := 7) (j := 2) C dX7_mayLike_54 lkF_X7_11 rfl h (fun c11 h => ?_)
        refine x_nn h (fun r12 h => ?_)
        refine q_iload C dX7_mayLike_57 rfl ?_
        refine x_iconst (v := (3 : Int32)) C dX7_mayLike_59 (by decide) ?_
        refine q_iadd C dX7_mayLike_60 ?_
        refine x_iald C dX7_mayLike_61 h (fun v13 h => ?_)
        obtain ⟨hk, h⟩ := q_obE h
        obtain ⟨⟨u14, M15⟩, e1, h⟩ := q_bind h
        refine x_callV0 C dX7_mayLike_62 lkM_X7_42 mV_X7_hasJoy ⟨_, rfl, rfl⟩ hk (c_X7_hasJoy _ _ _ _ _ _ _ _ _ e1) rfl rfl (Nat.le_of_ble_eq_true rfl) (by decide) (by decide) ?_
        refine q_aload_n C dX7_mayLike_65 rfl ?_
        refine x_getR (ci := 7) (j := 2) C dX7_mayLike_66 lkF_X7_11 rfl h (fun c16 h => ?_)
        refine x_nn h (fun r17 h => ?_)
        refine q_iload C dX7_mayLike_69 rfl ?_
        refine x_iconst (v := (4 : Int32)) C dX7_mayLike_71 (by decide) ?_
        refine q_iadd C dX7_mayLike_72 ?_
        refine x_iald C dX7_mayLike_73 h (fun v18 h => ?_)
        refine x_iconst (v := (1 : Int32)) C dX7_mayLike_74 (by decide) ?_
        refine q_icmp_ne (tgt := 82) C dX7_mayLike_75 (by decide) h (fun _ h => ?_) (fun _ h => ?_)
        · refine x_iconst (v := (1 : Int32)) C dX7_mayLike_78 (by decide) ?_
          refine q_goto (tgt := 83) C dX7_mayLike_79 (by decide) ?_
          exact q_msk [true, true, true, true, false] (jW_X7_mayLike_83_2 C l0 l1 l2 l3 u14 (1 : Int32) M15 h kC kE0 kE1)
        · refine x_iconst (v := (0 : Int32)) C dX7_mayLike_82 (by decide) ?_
          exact q_msk [true, true, true, true, false] (jW_X7_mayLike_83_2 C l0 l1 l2 l3 u14 (0 : Int32) M15 h kC kE0 kE1)
      · exact q_msk [true, true, true, true, false] (jW_X7_mayLike_88_2 C l0 l1 l2 l3 M h kC kE0 kE1)
    · exact q_msk [false, false, false, false, false] (kE1 _ (Option.some.inj h).symm)
  · exact q_msk [false, false, false, false, false] (kE1 _ (Option.some.inj h).symm)
set_option maxRecDepth 100000 in
set_option maxHeartbeats 4000000 in
theorem lW_X7_mayLike_2 {K : q_K} {Q : State → Prop} (C : q_C K yX7_mayLike cX7_mayLike 5 (Option.some Jvm.ClassFile.FieldType.boolean) 5 0 0) (l0 : Nat) (l1 : Int32) (l2 : Int32) (n : Nat) : ∀ (l3 : Int32) (M : q_Mem) (e : ((q_Mem) ⊕ (q_Mem))), q_lp (fun s => B_X7_mayLike_2 l0 l1 l2 s.1 s.2) n (l3, M) = some e → (∀ (M : q_Mem), e = (.inl M) → q_W K 5 Q 0 0 M 86 [none, none, none, none, none] []) → (∀ (M : q_Mem), e = (.inr M) → q_W K 5 Q 0 0 M 94 [none, none, none, none, none] []) → q_W K 5 Q 0 0 M 2 [some (.ref l0), some (.int l1), some (.int l2), some (.int l3), none] [] := by
  induction n with
  | zero => intro l3 M e h; cases h
  | succ n ih =>
    intro l3 M e h kE0 kE1
    obtain ⟨stp, e1, e2⟩ := q_bind h
    refine bW_X7_mayLike_2 C l0 l1 l2 l3 M e1 (fun a0 a1 hs => ?_) (fun b0 hs => ?_) (fun b0 hs => ?_)
    · subst hs; exact ih _ _ _ e2 kE0 kE1
    · subst hs; exact kE0 _ (Option.some.inj e2).symm
    · subst hs; exact kE1 _ (Option.some.inj e2).symm
noncomputable def F_X7_mayLike (l0 : Nat) (l1 : Int32) (l2 : Int32) (M : q_Mem) : Option (Int32 × q_Mem) := (q_lp (fun s => B_X7_mayLike_2 l0 l1 l2 s.1 s.2) q_fu ((0 : Int32), M)).bind (fun e19 => match e19 with | .inl M20 => q_rz (0 : Int32) M20 | .inr M21 => q_rz (1 : Int32) M21)
set_option maxRecDepth 100000 in
set_option maxHeartbeats 4000000 in
theorem c_X7_mayLike (l : Launch) (G : q_G) (l0 : Nat) (l1 : Int32) (l2 : Int32) (M : q_Mem) {r : Int32} {M' : q_Mem} (h : F_X7_mayLike l0 l1 l2 M = some (r, M')) : q_Met l G yX7_mayLike cX7_mayLike 5 (Option.some Jvm.ClassFile.FieldType.boolean) 5 0 0 [.ref l0, .int l1, .int l2] M (some (.int r)) M' := by
  unfold F_X7_mayLike at h
  refine q_enter [some (.ref l0), some (.int l1), some (.int l2), none, none] (by decide) (Nat.le_of_ble_eq_true rfl) rfl (fun K C => ?_)
  refine x_iconst (v := (0 : Int32)) C dX7_mayLike_0 (by decide) ?_
  refine q_istore_n (L' := [some (.ref l0), some (.int l1), some (.int l2), some (.int (0 : Int32)), none]) C dX7_mayLike_1 (by decide) rfl rfl ?_
  obtain ⟨e19, he, h⟩ := q_bind h
  refine q_msk [true, true, true, true, false] (lW_X7_mayLike_2 C l0 l1 l2 q_fu _ _ _ he (fun M20 hs => ?_) (fun M21 hs => ?_))
  · have hs := hs.symm
    subst hs
    refine x_iconst (v := (0 : Int32)) C dX7_mayLike_86 (by decide) ?_
    exact q_zret C dX7_mayLike_87 rfl (by decide) (by decide) (q_rzE h).1 (q_rzE h).2
  · have hs := hs.symm
    subst hs
    refine x_iconst (v := (1 : Int32)) C dX7_mayLike_94 (by decide) ?_
    exact q_zret C dX7_mayLike_95 rfl (by decide) (by decide) (q_rzE h).1 (q_rzE h).2
noncomputable def J_X7_kindsLeft_24_4 (l0 : Nat) (l1 : Int32) (l2 : Int32) (l3 : Int32) (M : q_Mem) : Option ((Int32 × Int32 × q_Mem) ⊕ (Int32 × q_Mem)) := some (.inl (l2, (l3 + (1 : Int32)), M))
set_option maxRecDepth 100000 in
set_option maxHeartbeats 4000000 in
theorem jW_X7_kindsLeft_24_4 {K : q_K} {Q : State → Prop} (C : q_C K yX7_kindsLeft cX7_kindsLeft 4 (Option.some Jvm.ClassFile.FieldType.int) 6 0 0) (l0 : Nat) (l1 : Int32) (l2 : Int32) (l3 : Int32) (M : q_Mem) {stp : (Int32 × Int32 × q_Mem) ⊕ (Int32 × q_Mem)} (h : J_X7_kindsLeft_24_4 l0 l1 l2 l3 M = some stp) (kC : ∀ (l2 : Int32) (l3 : Int32) (M : q_Mem), stp = .inl (l2, l3, M) → q_W K 4 Q 0 0 M 4 [some (.ref l0), some (.int l1), some (.int l2), some (.int l3)] []) (kE0 : ∀ (l2 : Int32) (M : q_Mem), stp = .inr (l2, M) → q_W K 4 Q 0 0 M 30 [none, none, some (.int l2), none] []) : q_W K 4 Q 0 0 M 24 [some (.ref l0), some (.int l1), some (.int l2), some (.int l3)] [] := by
  unfold J_X7_kindsLeft_24_4 at h
  refine x_iinc (w := (1 : Int32)) (L' := [some (.ref l0), some (.int l1), some (.int l2), some (.int (l3 + (1 : Int32)))]) C dX7_kindsLeft_24 rfl (by decide) (by decide) rfl rfl ?_
  refine q_goto (tgt := 4) C dX7_kindsLeft_27 (by decide) ?_
  exact q_msk [true, true, true, true] (kC _ _ _ (Option.some.inj h).symm)
noncomputable def B_X7_kindsLeft_4 (l0 : Nat) (l1 : Int32) (l2 : Int32) (l3 : Int32) (M : q_Mem) : Option ((Int32 × Int32 × q_Mem) ⊕ (Int32 × q_Mem)) := (if l3 < (4 : Int32) then (q_ob M l0 7 ((F_X7_mayLike l0 l1 l3 M).bind (fun x => match x with | (u1, M2) => (if u1 = 0 then J_X7_kindsLeft_24_4 l0 l1 l2 l3 M2 else J_X7_kindsLeft_24_4 l0 l1 (l2 ||| ((1 : Int32) <<< (l3 &&& 31))) l3 M2)))) else some (.inr (l2, M)))
set_option maxRecDepth 100000 in
set_option maxHeartbeats 4000000 in
theorem bW_X7_kindsLeft_4 {K : q_K} {Q : State → Prop} (C : q_C K yX7_kindsLeft cX7_kindsLeft 4 (Option.some Jvm.ClassFile.FieldType.int) 6 0 0) (l0 : Nat) (l1 : Int32) (l2 : Int32) (l3 : Int32) (M : q_Mem) {stp : (Int32 × Int32 × q_Mem) ⊕ (Int32 × q_Mem)} (h : B_X7_kindsLeft_4 l0 l1 l2 l3 M = some stp) (kC : ∀ (l2 : Int32) (l3 : Int32) (M : q_Mem), stp = .inl (l2, l3, M) → q_W K 4 Q 0 0 M 4 [some (.ref l0), some (.int l1), some (.int l2), some (.int l3)] []) (kE0 : ∀ (l2 : Int32) (M : q_Mem), stp = .inr (l2, M) → q_W K 4 Q 0 0 M 30 [none, none, some (.int l2), none] []) : q_W K 4 Q 0 0 M 4 [some (.ref l0), some (.int l1), some (.int l2), some (.int l3)] [] := by
  unfold B_X7_kindsLeft_4 at h
  refine q_iload_n C dX7_kindsLeft_4 rfl ?_
  refine x_iconst (v := (4 : Int32)) C dX7_kindsLeft_5 (by decide) ?_
  refine q_icmp_ge (tgt := 30) C dX7_kindsLeft_6 (by decide) h (fun _ h => ?_) (fun _ h => ?_)
  · refine q_aload_n C dX7_kindsLeft_9 rfl ?_
    refine q_iload_n C dX7_kindsLeft_10 rfl ?_
    refine q_iload_n C dX7_kindsLeft_11 rfl ?_
    obtain ⟨hk, h⟩ := q_obE h
    obtain ⟨⟨u1, M2⟩, e1, h⟩ := q_bind h
    refine x_callV0 C dX7_kindsLeft_12 lkM_X7_46 mV_X7_mayLike ⟨_, rfl, rfl⟩ hk (c_X7_mayLike _ _ _ _ _ _ e1) rfl rfl (Nat.le_of_ble_eq_true rfl) (by decide) (by decide) ?_
    refine q_if_eq (tgt := 24) C dX7_kindsLeft_15 (by decide) h (fun _ h => ?_) (fun _ h => ?_)
    · exact q_msk [true, true, true, true] (jW_X7_kindsLeft_24_4 C l0 l1 l2 l3 M2 h kC kE0)
    · refine q_iload_n C dX7_kindsLeft_18 rfl ?_
      refine x_iconst (v := (1 : Int32)) C dX7_kindsLeft_19 (by decide) ?_
      refine q_iload_n C dX7_kindsLeft_20 rfl ?_
      refine q_ishl C dX7_kindsLeft_21 ?_
      refine q_ior C dX7_kindsLeft_22 ?_
      refine q_istore_n (L' := [some (.ref l0), some (.int l1), some (.int (l2 ||| ((1 : Int32) <<< (l3 &&& 31)))), some (.int l3)]) C dX7_kindsLeft_23 (by decide) rfl rfl ?_
      exact q_msk [true, true, true, true] (jW_X7_kindsLeft_24_4 C l0 l1 (l2 ||| ((1 : Int32) <<< (l3 &&& 31))) l3 M2 h kC kE0)
  · exact q_msk [false, false, true, false] (kE0 _ _ (Option.some.inj h).symm)
set_option maxRecDepth 100000 in
set_option maxHeartbeats 4000000 in
theorem lW_X7_kindsLeft_4 {K : q_K} {Q : State → Prop} (C : q_C K yX7_kindsLeft cX7_kindsLeft 4 (Option.some Jvm.ClassFile.FieldType.int) 6 0 0) (l0 : Nat) (l1 : Int32) (n : Nat) : ∀ (l2 : Int32) (l3 : Int32) (M : q_Mem) (e : (Int32 × q_Mem)), q_lp (fun s => B_X7_kindsLeft_4 l0 l1 s.1 s.2.1 s.2.2) n (l2, l3, M) = some e → (∀ (l2 : Int32) (M : q_Mem), e = (l2, M) → q_W K 4 Q 0 0 M 30 [none, none, some (.int l2), none] []) → q_W K 4 Q 0 0 M 4 [some (.ref l0), some (.int l1), some (.int l2), some (.int l3)] [] := by
  induction n with
  | zero => intro l2 l3 M e h; cases h
  | succ n ih =>
    intro l2 l3 M e h kE0
    obtain ⟨stp, e1, e2⟩ := q_bind h
    refine bW_X7_kindsLeft_4 C l0 l1 l2 l3 M e1 (fun a0 a1 a2 hs => ?_) (fun b0 b1 hs => ?_)
    · subst hs; exact ih _ _ _ _ e2 kE0
    · subst hs; exact kE0 _ _ (Option.some.inj e2).symm
noncomputable def F_X7_kindsLeft (l0 : Nat) (l1 : Int32) (M : q_Mem) : Option (Int32 × q_Mem) := (q_lp (fun s => B_X7_kindsLeft_4 l0 l1 s.1 s.2.1 s.2.2) q_fu ((0 : Int32), (0 : Int32), M)).bind (fun e3 => match e3 with | (w4, M5) => some (w4, M5))
set_option maxRecDepth 100000 in
set_option maxHeartbeats 4000000 in
theorem c_X7_kindsLeft (l : Launch) (G : q_G) (l0 : Nat) (l1 : Int32) (M : q_Mem) {r : Int32} {M' : q_Mem} (h : F_X7_kindsLeft l0 l1 M = some (r, M')) : q_Met l G yX7_kindsLeft cX7_kindsLeft 4 (Option.some Jvm.ClassFile.FieldType.int) 6 0 0 [.ref l0, .int l1] M (some (.int r)) M' := by
  unfold F_X7_kindsLeft at h
  refine q_enter [some (.ref l0), some (.int l1), none, none] (by decide) (Nat.le_of_ble_eq_true rfl) rfl (fun K C => ?_)
  refine x_iconst (v := (0 : Int32)) C dX7_kindsLeft_0 (by decide) ?_
  refine q_istore_n (L' := [some (.ref l0), some (.int l1), some (.int (0 : Int32)), none]) C dX7_kindsLeft_1 (by decide) rfl rfl ?_
  refine x_iconst (v := (0 : Int32)) C dX7_kindsLeft_2 (by decide) ?_
  refine q_istore_n (L' := [some (.ref l0), some (.int l1), some (.int (0 : Int32)), some (.int (0 : Int32))]) C dX7_kindsLeft_3 (by decide) rfl rfl ?_
  obtain ⟨e3, he, h⟩ := q_bind h
  refine q_msk [true, true, true, true] (lW_X7_kindsLeft_4 C l0 l1 q_fu _ _ _ _ he (fun w4 M5 hs => ?_))
  · have hs := hs.symm
    subst hs
    refine q_iload_n C dX7_kindsLeft_30 rfl ?_
    exact q_iret C dX7_kindsLeft_31 rfl (by decide) (by decide) (Option.some.inj h)
noncomputable def J_X7_lean_46_6 (l0 : Nat) (l1 : Int32) (l2 : Int32) (l3 : Int32) (l4 : Int32) (l5 : Int32) (l6 : Int32) (l7 : Int32) (M : q_Mem) : Option ((Int32 × Int32 × q_Mem) ⊕ (Int32 × q_Mem)) := some (.inl (l6, (l7 + (1 : Int32)), M))
set_option maxRecDepth 100000 in
set_option maxHeartbeats 4000000 in
theorem jW_X7_lean_46_6 {K : q_K} {Q : State → Prop} (C : q_C K yX7_lean cX7_lean 8 (Option.some Jvm.ClassFile.FieldType.int) 5 0 0) (l0 : Nat) (l1 : Int32) (l2 : Int32) (l3 : Int32) (l4 : Int32) (l5 : Int32) (l6 : Int32) (l7 : Int32) (M : q_Mem) {stp : (Int32 × Int32 × q_Mem) ⊕ (Int32 × q_Mem)} (h : J_X7_lean_46_6 l0 l1 l2 l3 l4 l5 l6 l7 M = some stp) (kC : ∀ (l6 : Int32) (l7 : Int32) (M : q_Mem), stp = .inl (l6, l7, M) → q_W K 8 Q 0 0 M 6 [some (.ref l0), some (.int l1), some (.int l2), some (.int l3), some (.int l4), some (.int l5), some (.int l6), some (.int l7)] []) (kE0 : ∀ (l6 : Int32) (M : q_Mem), stp = .inr (l6, M) → q_W K 8 Q 0 0 M 52 [none, none, none, none, none, none, some (.int l6), none] []) : q_W K 8 Q 0 0 M 46 [some (.ref l0), some (.int l1), some (.int l2), some (.int l3), some (.int l4), some (.int l5), some (.int l6), some (.int l7)] [] := by
  unfold J_X7_lean_46_6 at h
  refine x_iinc (w := (1 : Int32)) (L' := [some (.ref l0), some (.int l1), some (.int l2), some (.int l3), some (.int l4), some (.int l5), some (.int l6), some (.int (l7 + (1 : Int32)))]) C dX7_lean_46 rfl (by decide) (by decide) rfl rfl ?_
  refine q_goto (tgt := 6) C dX7_lean_49 (by decide) ?_
  exact q_msk [true, true, true, true, true, true, true, true] (kC _ _ _ (Option.some.inj h).symm)
noncomputable def J_X7_lean_43_6 (l0 : Nat) (l1 : Int32) (l2 : Int32) (l3 : Int32) (l4 : Int32) (l5 : Int32) (l7 : Int32) (s0 : Int32) (s1 : Int32) (M : q_Mem) : Option ((Int32 × Int32 × q_Mem) ⊕ (Int32 × q_Mem)) := J_X7_lean_46_6 l0 l1 l2 l3 l4 l5 (s0 + s1) l7 M
set_option maxRecDepth 100000 in
set_option maxHeartbeats 4000000 in
theorem jW_X7_lean_43_6 {K : q_K} {Q : State → Prop} (C : q_C K yX7_lean cX7_lean 8 (Option.some Jvm.ClassFile.FieldType.int) 5 0 0) (l0 : Nat) (l1 : Int32) (l2 : Int32) (l3 : Int32) (l4 : Int32) (l5 : Int32) (l7 : Int32) (s0 : Int32) (s1 : Int32) (M : q_Mem) {stp : (Int32 × Int32 × q_Mem) ⊕ (Int32 × q_Mem)} (h : J_X7_lean_43_6 l0 l1 l2 l3 l4 l5 l7 s0 s1 M = some stp) (kC : ∀ (l6 : Int32) (l7 : Int32) (M : q_Mem), stp = .inl (l6, l7, M) → q_W K 8 Q 0 0 M 6 [some (.ref l0), some (.int l1), some (.int l2), some (.int l3), some (.int l4), some (.int l5), some (.int l6), some (.int l7)] []) (kE0 : ∀ (l6 : Int32) (M : q_Mem), stp = .inr (l6, M) → q_W K 8 Q 0 0 M 52 [none, none, none, none, none, none, some (.int l6), none] []) : q_W K 8 Q 0 0 M 43 [some (.ref l0), some (.int l1), some (.int l2), some (.int l3), some (.int l4), some (.int l5), none, some (.int l7)] [.int s1, .int s0] := by
  unfold J_X7_lean_43_6 at h
  refine q_iadd C dX7_lean_43 ?_
  refine q_istore (L' := [some (.ref l0), some (.int l1), some (.int l2), some (.int l3), some (.int l4), some (.int l5), some (.int (s0 + s1)), some (.int l7)]) C dX7_lean_44 (by decide) rfl rfl ?_
  exact q_msk [true, true, true, true, true, true, true, true] (jW_X7_lean_46_6 C l0 l1 l2 l3 l4 l5 (s0 + s1) l7 M h kC kE0)
noncomputable def B_X7_lean_6 (l0 : Nat) (l1 : Int32) (l2 : Int32) (l3 : Int32) (l4 : Int32) (l5 : Int32) (l6 : Int32) (l7 : Int32) (M : q_Mem) : Option ((Int32 × Int32 × q_Mem) ⊕ (Int32 × q_Mem)) := (if l7 < (4 : Int32) then (if ((l2 >>> (l7 &&& 31)) &&& (1 : Int32)) = 0 then J_X7_lean_46_6 l0 l1 l2 l3 l4 l5 l6 l7 M else (q_ob M l0 7 ((F_X7_hasJoy l0 l1 l7 l3 l4 l5 M).bind (fun x => match x with | (u1, M2) => (if u1 = 0 then J_X7_lean_43_6 l0 l1 l2 l3 l4 l5 l7 l6 (-1 : Int32) M2 else J_X7_lean_43_6 l0 l1 l2 l3 l4 l5 l7 l6 (1 : Int32) M2))))) else some (.inr (l6, M)))
set_option maxRecDepth 100000 in
set_option maxHeartbeats 4000000 in
theorem bW_X7_lean_6 {K : q_K} {Q : State → Prop} (C : q_C K yX7_lean cX7_lean 8 (Option.some Jvm.ClassFile.FieldType.int) 5 0 0) (l0 : Nat) (l1 : Int32) (l2 : Int32) (l3 : Int32) (l4 : Int32) (l5 : Int32) (l6 : Int32) (l7 : Int32) (M : q_Mem) {stp : (Int32 × Int32 × q_Mem) ⊕ (Int32 × q_Mem)} (h : B_X7_lean_6 l0 l1 l2 l3 l4 l5 l6 l7 M = some stp) (kC : ∀ (l6 : Int32) (l7 : Int32) (M : q_Mem), stp = .inl (l6, l7, M) → q_W K 8 Q 0 0 M 6 [some (.ref l0), some (.int l1), some (.int l2), some (.int l3), some (.int l4), some (.int l5), some (.int l6), some (.int l7)] []) (kE0 : ∀ (l6 : Int32) (M : q_Mem), stp = .inr (l6, M) → q_W K 8 Q 0 0 M 52 [none, none, none, none, none, none, some (.int l6), none] []) : q_W K 8 Q 0 0 M 6 [some (.ref l0), some (.int l1), some (.int l2), some (.int l3), some (.int l4), some (.int l5), some (.int l6), some (.int l7)] [] := by
  unfold B_X7_lean_6 at h
  refine q_iload C dX7_lean_6 rfl ?_
  refine x_iconst (v := (4 : Int32)) C dX7_lean_8 (by decide) ?_
  refine q_icmp_ge (tgt := 52) C dX7_lean_9 (by decide) h (fun _ h => ?_) (fun _ h => ?_)
  · refine q_iload_n C dX7_lean_12 rfl ?_
    refine q_iload C dX7_lean_13 rfl ?_
    refine q_ishr C dX7_lean_15 ?_
    refine x_iconst (v := (1 : Int32)) C dX7_lean_16 (by decide) ?_
    refine q_iand C dX7_lean_17 ?_
    refine q_if_eq (tgt := 46) C dX7_lean_18 (by decide) h (fun _ h => ?_) (fun _ h => ?_)
    · exact q_msk [true, true, true, true, true, true, true, true] (jW_X7_lean_46_6 C l0 l1 l2 l3 l4 l5 l6 l7 M h kC kE0)
    · refine q_iload C dX7_lean_21 rfl ?_
      refine q_aload_n C dX7_lean_23 rfl ?_
      refine q_iload_n C dX7_lean_24 rfl ?_
      refine q_iload C dX7_lean_25 rfl ?_
      refine q_iload_n C dX7_lean_27 rfl ?_
      refine q_iload C dX7_lean_28 rfl ?_
      refine q_iload C dX7_lean_30 rfl ?_
      obtain ⟨hk, h⟩ := q_obE h
      obtain ⟨⟨u1, M2⟩, e1, h⟩ := q_bind h
      refine x_callV0 C dX7_lean_32 lkM_X7_42 mV_X7_hasJoy ⟨_, rfl, rfl⟩ hk (c_X7_hasJoy _ _ _ _ _ _ _ _ _ e1) rfl rfl (Nat.le_of_ble_eq_true rfl) (by decide) (by decide) ?_
      refine q_if_eq (tgt := 42) C dX7_lean_35 (by decide) h (fun _ h => ?_) (fun _ h => ?_)
      · refine x_iconst (v := (-1 : Int32)) C dX7_lean_42 (by decide) ?_
        exact q_msk [true, true, true, true, true, true, false, true] (jW_X7_lean_43_6 C l0 l1 l2 l3 l4 l5 l7 l6 (-1 : Int32) M2 h kC kE0)
      · refine x_iconst (v := (1 : Int32)) C dX7_lean_38 (by decide) ?_
        refine q_goto (tgt := 43) C dX7_lean_39 (by decide) ?_
        exact q_msk [true, true, true, true, true, true, false, true] (jW_X7_lean_43_6 C l0 l1 l2 l3 l4 l5 l7 l6 (1 : Int32) M2 h kC kE0)
  · exact q_msk [false, false, false, false, false, false, true, false] (kE0 _ _ (Option.some.inj h).symm)
set_option maxRecDepth 100000 in
set_option maxHeartbeats 4000000 in
theorem lW_X7_lean_6 {K : q_K} {Q : State → Prop} (C : q_C K yX7_lean cX7_lean 8 (Option.some Jvm.ClassFile.FieldType.int) 5 0 0) (l0 : Nat) (l1 : Int32) (l2 : Int32) (l3 : Int32) (l4 : Int32) (l5 : Int32) (n : Nat) : ∀ (l6 : Int32) (l7 : Int32) (M : q_Mem) (e : (Int32 × q_Mem)), q_lp (fun s => B_X7_lean_6 l0 l1 l2 l3 l4 l5 s.1 s.2.1 s.2.2) n (l6, l7, M) = some e → (∀ (l6 : Int32) (M : q_Mem), e = (l6, M) → q_W K 8 Q 0 0 M 52 [none, none, none, none, none, none, some (.int l6), none] []) → q_W K 8 Q 0 0 M 6 [some (.ref l0), some (.int l1), some (.int l2), some (.int l3), some (.int l4), some (.int l5), some (.int l6), some (.int l7)] [] := by
  induction n with
  | zero => intro l6 l7 M e h; cases h
  | succ n ih =>
    intro l6 l7 M e h kE0
    obtain ⟨stp, e1, e2⟩ := q_bind h
    refine bW_X7_lean_6 C l0 l1 l2 l3 l4 l5 l6 l7 M e1 (fun a0 a1 a2 hs => ?_) (fun b0 b1 hs => ?_)
    · subst hs; exact ih _ _ _ _ e2 kE0
    · subst hs; exact kE0 _ _ (Option.some.inj e2).symm
noncomputable def F_X7_lean (l0 : Nat) (l1 : Int32) (l2 : Int32) (l3 : Int32) (l4 : Int32) (l5 : Int32) (M : q_Mem) : Option (Int32 × q_Mem) := (q_lp (fun s => B_X7_lean_6 l0 l1 l2 l3 l4 l5 s.1 s.2.1 s.2.2) q_fu ((0 : Int32), (0 : Int32), M)).bind (fun e3 => match e3 with | (w4, M5) => some (w4, M5))
set_option maxRecDepth 100000 in
set_option maxHeartbeats 4000000 in
theorem c_X7_lean (l : Launch) (G : q_G) (l0 : Nat) (l1 : Int32) (l2 : Int32) (l3 : Int32) (l4 : Int32) (l5 : Int32) (M : q_Mem) {r : Int32} {M' : q_Mem} (h : F_X7_lean l0 l1 l2 l3 l4 l5 M = some (r, M')) : q_Met l G yX7_lean cX7_lean 8 (Option.some Jvm.ClassFile.FieldType.int) 5 0 0 [.ref l0, .int l1, .int l2, .int l3, .int l4, .int l5] M (some (.int r)) M' := by
  unfold F_X7_lean at h
  refine q_enter [some (.ref l0), some (.int l1), some (.int l2), some (.int l3), some (.int l4), some (.int l5), none, none] (by decide) (Nat.le_of_ble_eq_true rfl) rfl (fun K C => ?_)
  refine x_iconst (v := (0 : Int32)) C dX7_lean_0 (by decide) ?_
  refine q_istore (L' := [some (.ref l0), some (.int l1), some (.int l2), some (.int l3), some (.int l4), some (.int l5), some (.int (0 : Int32)), none]) C dX7_lean_1 (by decide) rfl rfl ?_
  refine x_iconst (v := (0 : Int32)) C dX7_lean_3 (by decide) ?_
  refine q_istore (L' := [some (.ref l0), some (.int l1), some (.int l2), some (.int l3), some (.int l4), some (.int l5), some (.int (0 : Int32)), some (.int (0 : Int32))]) C dX7_lean_4 (by decide) rfl rfl ?_
  obtain ⟨e3, he, h⟩ := q_bind h
  refine q_msk [true, true, true, true, true, true, true, true] (lW_X7_lean_6 C l0 l1 l2 l3 l4 l5 q_fu _ _ _ _ he (fun w4 M5 hs => ?_))
  · have hs := hs.symm
    subst hs
    refine q_iload C dX7_lean_52 rfl ?_
    exact q_iret C dX7_lean_54 rfl (by decide) (by decide) (Option.some.inj h)
noncomputable def J_X7_dishToTry_66_23 (l0 : Nat) (l1 : Int32) (l2 : Int32) (l3 : Int32) (l4 : Int32) (l5 : Int32) (l6 : Int32) (l7 : Int32) (M : q_Mem) : Option ((Int32 × Int32 × Int32 × q_Mem) ⊕ (Int32 × q_Mem)) := some (.inl (l5, l6, (l7 + (1 : Int32)), M))
set_option maxRecDepth 100000 in
set_option maxHeartbeats 4000000 in
theorem jW_X7_dishToTry_66_23 {K : q_K} {Q : State → Prop} (C : q_C K yX7_dishToTry cX7_dishToTry 9 (Option.some Jvm.ClassFile.FieldType.int) 7 0 0) (l0 : Nat) (l1 : Int32) (l2 : Int32) (l3 : Int32) (l4 : Int32) (l5 : Int32) (l6 : Int32) (l7 : Int32) (M : q_Mem) {stp : (Int32 × Int32 × Int32 × q_Mem) ⊕ (Int32 × q_Mem)} (h : J_X7_dishToTry_66_23 l0 l1 l2 l3 l4 l5 l6 l7 M = some stp) (kC : ∀ (l5 : Int32) (l6 : Int32) (l7 : Int32) (M : q_Mem), stp = .inl (l5, l6, l7, M) → q_W K 9 Q 0 0 M 23 [some (.ref l0), some (.int l1), some (.int l2), some (.int l3), some (.int l4), some (.int l5), some (.int l6), some (.int l7), none] []) (kE0 : ∀ (l5 : Int32) (M : q_Mem), stp = .inr (l5, M) → q_W K 9 Q 0 0 M 72 [none, none, none, none, none, some (.int l5), none, none, none] []) : q_W K 9 Q 0 0 M 66 [some (.ref l0), some (.int l1), some (.int l2), some (.int l3), some (.int l4), some (.int l5), some (.int l6), some (.int l7), none] [] := by
  unfold J_X7_dishToTry_66_23 at h
  refine x_iinc (w := (1 : Int32)) (L' := [some (.ref l0), some (.int l1), some (.int l2), some (.int l3), some (.int l4), some (.int l5), some (.int l6), some (.int (l7 + (1 : Int32))), none]) C dX7_dishToTry_66 rfl (by decide) (by decide) rfl rfl ?_
  refine q_goto (tgt := 23) C dX7_dishToTry_69 (by decide) ?_
  exact q_msk [true, true, true, true, true, true, true, true, false] (kC _ _ _ _ (Option.some.inj h).symm)
noncomputable def B_X7_dishToTry_23 (l0 : Nat) (l1 : Int32) (l2 : Int32) (l3 : Int32) (l4 : Int32) (l5 : Int32) (l6 : Int32) (l7 : Int32) (M : q_Mem) : Option ((Int32 × Int32 × Int32 × q_Mem) ⊕ (Int32 × q_Mem)) := (q_gR M l0 7 0 (fun c3 => q_nn c3 (fun r4 => (q_gI M r4 3 4 (fun v5 => (if l7 < v5 then (q_ob M l0 7 ((F_X7_lean l0 l1 l4 l7 l2 l3 M).bind (fun x => match x with | (u6, M7) => (if (q_ab u6) < l6 then J_X7_dishToTry_66_23 l0 l1 l2 l3 l4 l7 (q_ab u6) l7 M7 else J_X7_dishToTry_66_23 l0 l1 l2 l3 l4 l5 l6 l7 M7)))) else some (.inr (l5, M))))))))
set_option maxRecDepth 100000 in
set_option maxHeartbeats 4000000 in
theorem bW_X7_dishToTry_23 {K : q_K} {Q : State → Prop} (C : q_C K yX7_dishToTry cX7_dishToTry 9 (Option.some Jvm.ClassFile.FieldType.int) 7 0 0) (l0 : Nat) (l1 : Int32) (l2 : Int32) (l3 : Int32) (l4 : Int32) (l5 : Int32) (l6 : Int32) (l7 : Int32) (M : q_Mem) {stp : (Int32 × Int32 × Int32 × q_Mem) ⊕ (Int32 × q_Mem)} (h : B_X7_dishToTry_23 l0 l1 l2 l3 l4 l5 l6 l7 M = some stp) (kC : ∀ (l5 : Int32) (l6 : Int32) (l7 : Int32) (M : q_Mem), stp = .inl (l5, l6, l7, M) → q_W K 9 Q 0 0 M 23 [some (.ref l0), some (.int l1), some (.int l2), some (.int l3), some (.int l4), some (.int l5), some (.int l6), some (.int l7), none] []) (kE0 : ∀ (l5 : Int32) (M : q_Mem), stp = .inr (l5, M) → q_W K 9 Q 0 0 M 72 [none, none, none, none, none, some (.int l5), none, none, none] []) : q_W K 9 Q 0 0 M 23 [some (.ref l0), some (.int l1), some (.int l2), some (.int l3), some (.int l4), some (.int l5), some (.int l6), some (.int l7), none] [] := by
  unfold B_X7_dishToTry_23 at h
  refine q_iload C dX7_dishToTry_23 rfl ?_
  refine q_aload_n C dX7_dishToTry_25 rfl ?_
  refine x_getR (ci := 7) (j := 0) C dX7_dishToTry_26 lkF_X7_19 rfl h (fun c3 h => ?_)
  refine x_nn h (fun r4 h => ?_)
  refine x_getI (ci := 3) (j := 4) C dX7_dishToTry_29 lkF_X7_54 rfl h (fun v5 h => ?_)
  refine q_icmp_ge (tgt := 72) C dX7_dishToTry_32 (by decide) h (fun _ h => ?_) (fun _ h => ?_)
  · refine q_aload_n C dX7_dishToTry_35 rfl ?_
    refine q_iload_n C dX7_dishToTry_36 rfl ?_
    refine q_iload C dX7_dishToTry_37 rfl ?_
    refine q_iload C dX7_dishToTry_39 rfl ?_
    refine q_iload_n C dX7_dishToTry_41 rfl ?_
    refine q_iload_n C dX7_dishToTry_42 rfl ?_
    obtain ⟨hk, h⟩ := q_obE h
    obtain ⟨⟨u6, M7⟩, e1, h⟩ := q_bind h
    refine x_callV0 C dX7_dishToTry_43 lkM_X7_57 mV_X7_lean ⟨_, rfl, rfl⟩ hk (c_X7_lean _ _ _ _ _ _ _ _ _ e1) rfl rfl (Nat.le_of_ble_eq_true rfl) (by decide) (by decide) ?_
    refine q_abs C dX7_dishToTry_46 wd_989 wd_990 wd_15 wd_991 (by decide) (Nat.le_of_ble_eq_true rfl) (by decide) ?_
    refine q_istore (L' := [some (.ref l0), some (.int l1), some (.int l2), some (.int l3), some (.int l4), some (.int l5), some (.int l6), some (.int l7), some (.int (q_ab u6))]) C dX7_dishToTry_49 (by decide) rfl rfl ?_
    refine q_iload C dX7_dishToTry_51 rfl ?_
    refine q_iload C dX7_dishToTry_53 rfl ?_
    refine q_icmp_ge (tgt := 66) C dX7_dishToTry_55 (by decide) h (fun _ h => ?_) (fun _ h => ?_)
    · refine q_iload C dX7_dishToTry_58 rfl ?_
      refine q_istore (L' := [some (.ref l0), some (.int l1), some (.int l2), some (.int l3), some (.int l4), some (.int l5), some (.int (q_ab u6)), some (.int l7), some (.int (q_ab u6))]) C dX7_dishToTry_60 (by decide) rfl rfl ?_
      refine q_iload C dX7_dishToTry_62 rfl ?_
      refine q_istore (L' := [some (.ref l0), some (.int l1), some (.int l2), some (.int l3), some (.int l4), some (.int l7), some (.int (q_ab u6)), some (.int l7), some (.int (q_ab u6))]) C dX7_dishToTry_64 (by decide) rfl rfl ?_
      exact q_msk [true, true, true, true, true, true, true, true, false] (jW_X7_dishToTry_66_23 C l0 l1 l2 l3 l4 l7 (q_ab u6) l7 M7 h kC kE0)
    · exact q_msk [true, true, true, true, true, true, true, true, false] (jW_X7_dishToTry_66_23 C l0 l1 l2 l3 l4 l5 l6 l7 M7 h kC kE0)
  · exact q_msk [false, false, false, false, false, true, false, false, false] (kE0 _ _ (Option.some.inj h).symm)
set_option maxRecDepth 100000 in
set_option maxHeartbeats 4000000 in
theorem lW_X7_dishToTry_23 {K : q_K} {Q : State → Prop} (C : q_C K yX7_dishToTry cX7_dishToTry 9 (Option.some Jvm.ClassFile.FieldType.int) 7 0 0) (l0 : Nat) (l1 : Int32) (l2 : Int32) (l3 : Int32) (l4 : Int32) (n : Nat) : ∀ (l5 : Int32) (l6 : Int32) (l7 : Int32) (M : q_Mem) (e : (Int32 × q_Mem)), q_lp (fun s => B_X7_dishToTry_23 l0 l1 l2 l3 l4 s.1 s.2.1 s.2.2.1 s.2.2.2) n (l5, l6, l7, M) = some e → (∀ (l5 : Int32) (M : q_Mem), e = (l5, M) → q_W K 9 Q 0 0 M 72 [none, none, none, none, none, some (.int l5), none, none, none] []) → q_W K 9 Q 0 0 M 23 [some (.ref l0), some (.int l1), some (.int l2), some (.int l3), some (.int l4), some (.int l5), some (.int l6), some (.int l7), none] [] := by
  induction n with
  | zero => intro l5 l6 l7 M e h; cases h
  | succ n ih =>
    intro l5 l6 l7 M e h kE0
    obtain ⟨stp, e1, e2⟩ := q_bind h
    refine bW_X7_dishToTry_23 C l0 l1 l2 l3 l4 l5 l6 l7 M e1 (fun a0 a1 a2 a3 hs => ?_) (fun b0 b1 hs => ?_)
    · subst hs; exact ih _ _ _ _ _ e2 kE0
    · subst hs; exact kE0 _ _ (Option.some.inj e2).symm
noncomputable def F_X7_dishToTry (l0 : Nat) (l1 : Int32) (l2 : Int32) (l3 : Int32) (M : q_Mem) : Option (Int32 × q_Mem) := (q_ob M l0 7 ((F_X7_kindsLeft l0 l1 M).bind (fun x => match x with | (u1, M2) => (if u1 = 0 then some ((-1 : Int32), M2) else (q_lp (fun s => B_X7_dishToTry_23 l0 l1 l2 l3 u1 s.1 s.2.1 s.2.2.1 s.2.2.2) q_fu ((-1 : Int32), (5 : Int32), (0 : Int32), M2)).bind (fun e8 => match e8 with | (w9, M10) => some (w9, M10))))))
set_option maxRecDepth 100000 in
set_option maxHeartbeats 4000000 in
theorem c_X7_dishToTry (l : Launch) (G : q_G) (l0 : Nat) (l1 : Int32) (l2 : Int32) (l3 : Int32) (M : q_Mem) {r : Int32} {M' : q_Mem} (h : F_X7_dishToTry l0 l1 l2 l3 M = some (r, M')) : q_Met l G yX7_dishToTry cX7_dishToTry 9 (Option.some Jvm.ClassFile.FieldType.int) 7 0 0 [.ref l0, .int l1, .int l2, .int l3] M (some (.int r)) M' := by
  unfold F_X7_dishToTry at h
  refine q_enter [some (.ref l0), some (.int l1), some (.int l2), some (.int l3), none, none, none, none, none] (by decide) (Nat.le_of_ble_eq_true rfl) rfl (fun K C => ?_)
  refine q_aload_n C dX7_dishToTry_0 rfl ?_
  refine q_iload_n C dX7_dishToTry_1 rfl ?_
  obtain ⟨hk, h⟩ := q_obE h
  obtain ⟨⟨u1, M2⟩, e1, h⟩ := q_bind h
  refine x_callV0 C dX7_dishToTry_2 lkM_X7_50 mV_X7_kindsLeft ⟨_, rfl, rfl⟩ hk (c_X7_kindsLeft _ _ _ _ _ e1) rfl rfl (Nat.le_of_ble_eq_true rfl) (by decide) (by decide) ?_
  refine q_istore (L' := [some (.ref l0), some (.int l1), some (.int l2), some (.int l3), some (.int u1), none, none, none, none]) C dX7_dishToTry_5 (by decide) rfl rfl ?_
  refine q_iload C dX7_dishToTry_7 rfl ?_
  refine q_if_ne (tgt := 14) C dX7_dishToTry_9 (by decide) h (fun _ h => ?_) (fun _ h => ?_)
  · refine x_iconst (v := (-1 : Int32)) C dX7_dishToTry_12 (by decide) ?_
    exact q_iret C dX7_dishToTry_13 rfl (by decide) (by decide) (Option.some.inj h)
  · refine x_iconst (v := (-1 : Int32)) C dX7_dishToTry_14 (by decide) ?_
    refine q_istore (L' := [some (.ref l0), some (.int l1), some (.int l2), some (.int l3), some (.int u1), some (.int (-1 : Int32)), none, none, none]) C dX7_dishToTry_15 (by decide) rfl rfl ?_
    refine x_iconst (v := (5 : Int32)) C dX7_dishToTry_17 (by decide) ?_
    refine q_istore (L' := [some (.ref l0), some (.int l1), some (.int l2), some (.int l3), some (.int u1), some (.int (-1 : Int32)), some (.int (5 : Int32)), none, none]) C dX7_dishToTry_18 (by decide) rfl rfl ?_
    refine x_iconst (v := (0 : Int32)) C dX7_dishToTry_20 (by decide) ?_
    refine q_istore (L' := [some (.ref l0), some (.int l1), some (.int l2), some (.int l3), some (.int u1), some (.int (-1 : Int32)), some (.int (5 : Int32)), some (.int (0 : Int32)), none]) C dX7_dishToTry_21 (by decide) rfl rfl ?_
    obtain ⟨e8, he, h⟩ := q_bind h
    refine q_msk [true, true, true, true, true, true, true, true, false] (lW_X7_dishToTry_23 C l0 l1 l2 l3 u1 q_fu _ _ _ _ _ he (fun w9 M10 hs => ?_))
    · have hs := hs.symm
      subst hs
      refine q_iload C dX7_dishToTry_72 rfl ?_
      exact q_iret C dX7_dishToTry_74 rfl (by decide) (by decide) (Option.some.inj h)
noncomputable def B_J7_fill_53178_5 (l0 : Nat) (l1 : Int32) (l3 : Int32) (l2 : Int32) (M : q_Mem) : Option ((Int32 × q_Mem) ⊕ (q_Mem)) := (if l2 < l3 then (q_tI M l0 l2 l1 (fun M2 => some (.inl ((l2 + (1 : Int32)), M2)))) else some (.inr M))
set_option maxRecDepth 100000 in
set_option maxHeartbeats 4000000 in
theorem bW_J7_fill_53178_5 {K : q_K} {Q : State → Prop} (C : q_C K yJ7_fill_53178 cJ7_fill_53178 4 (Option.none : Option Jvm.ClassFile.FieldType) 1 0 0) (l0 : Nat) (l1 : Int32) (l2 : Int32) (l3 : Int32) (M : q_Mem) {stp : (Int32 × q_Mem) ⊕ (q_Mem)} (h : B_J7_fill_53178_5 l0 l1 l3 l2 M = some stp) (kC : ∀ (l2 : Int32) (M : q_Mem), stp = .inl (l2, M) → q_W K 4 Q 0 0 M 5 [some (.ref l0), some (.int l1), some (.int l2), some (.int l3)] []) (kE0 : ∀ (M : q_Mem), stp = .inr M → q_W K 4 Q 0 0 M 20 [none, none, none, none] []) : q_W K 4 Q 0 0 M 5 [some (.ref l0), some (.int l1), some (.int l2), some (.int l3)] [] := by
  unfold B_J7_fill_53178_5 at h
  refine q_iload_n C dJ7_fill_53178_5 rfl ?_
  refine q_iload_n C dJ7_fill_53178_6 rfl ?_
  refine q_icmp_ge (tgt := 20) C dJ7_fill_53178_7 (by decide) h (fun _ h => ?_) (fun _ h => ?_)
  · refine q_aload_n C dJ7_fill_53178_10 rfl ?_
    refine q_iload_n C dJ7_fill_53178_11 rfl ?_
    refine q_iload_n C dJ7_fill_53178_12 rfl ?_
    refine x_iast C dJ7_fill_53178_13 h (fun M2 h => ?_)
    refine x_iinc (w := (1 : Int32)) (L' := [some (.ref l0), some (.int l1), some (.int (l2 + (1 : Int32))), some (.int l3)]) C dJ7_fill_53178_14 rfl (by decide) (by decide) rfl rfl ?_
    refine q_goto (tgt := 5) C dJ7_fill_53178_17 (by decide) ?_
    exact q_msk [true, true, true, true] (kC _ _ (Option.some.inj h).symm)
  · exact q_msk [false, false, false, false] (kE0 _ (Option.some.inj h).symm)
set_option maxRecDepth 100000 in
set_option maxHeartbeats 4000000 in
theorem lW_J7_fill_53178_5 {K : q_K} {Q : State → Prop} (C : q_C K yJ7_fill_53178 cJ7_fill_53178 4 (Option.none : Option Jvm.ClassFile.FieldType) 1 0 0) (l0 : Nat) (l1 : Int32) (l3 : Int32) (n : Nat) : ∀ (l2 : Int32) (M : q_Mem) (e : (q_Mem)), q_lp (fun s => B_J7_fill_53178_5 l0 l1 l3 s.1 s.2) n (l2, M) = some e → (∀ (M : q_Mem), e = M → q_W K 4 Q 0 0 M 20 [none, none, none, none] []) → q_W K 4 Q 0 0 M 5 [some (.ref l0), some (.int l1), some (.int l2), some (.int l3)] [] := by
  induction n with
  | zero => intro l2 M e h; cases h
  | succ n ih =>
    intro l2 M e h kE0
    obtain ⟨stp, e1, e2⟩ := q_bind h
    refine bW_J7_fill_53178_5 C l0 l1 l2 l3 M e1 (fun a0 a1 hs => ?_) (fun b0 hs => ?_)
    · subst hs; exact ih _ _ _ e2 kE0
    · subst hs; exact kE0 _ (Option.some.inj e2).symm
noncomputable def F_J7_fill_53178 (l0 : Nat) (l1 : Int32) (M : q_Mem) : Option (Unit × q_Mem) := (q_al M l0 (fun v1 => (q_lp (fun s => B_J7_fill_53178_5 l0 l1 v1 s.1 s.2) q_fu ((0 : Int32), M)).bind (fun e3 => match e3 with | M4 => some ((), M4))))
set_option maxRecDepth 100000 in
set_option maxHeartbeats 4000000 in
theorem c_J7_fill_53178 (l : Launch) (G : q_G) (l0 : Nat) (l1 : Int32) (M : q_Mem) {r : Unit} {M' : q_Mem} (h : F_J7_fill_53178 l0 l1 M = some (r, M')) : q_Met l G yJ7_fill_53178 cJ7_fill_53178 4 (Option.none : Option Jvm.ClassFile.FieldType) 1 0 0 [.ref l0, .int l1] M none M' := by
  unfold F_J7_fill_53178 at h
  refine q_enter [some (.ref l0), some (.int l1), none, none] (by decide) (Nat.le_of_ble_eq_true rfl) rfl (fun K C => ?_)
  refine x_iconst (v := (0 : Int32)) C dJ7_fill_53178_0 (by decide) ?_
  refine q_istore_n (L' := [some (.ref l0), some (.int l1), some (.int (0 : Int32)), none]) C dJ7_fill_53178_1 (by decide) rfl rfl ?_
  refine q_aload_n C dJ7_fill_53178_2 rfl ?_
  refine x_alen C dJ7_fill_53178_3 h (fun v1 h => ?_)
  refine q_istore_n (L' := [some (.ref l0), some (.int l1), some (.int (0 : Int32)), some (.int v1)]) C dJ7_fill_53178_4 (by decide) rfl rfl ?_
  obtain ⟨e3, he, h⟩ := q_bind h
  refine q_msk [true, true, true, true] (lW_J7_fill_53178_5 C l0 l1 v1 q_fu _ _ _ he (fun M4 hs => ?_))
  · have hs := hs.symm
    subst hs
    exact q_vret C dJ7_fill_53178_20 rfl (by decide) (by decide) (Option.some.inj h)
noncomputable def B_X8_begin_41 (l0 : Nat) (l1 : Nat) (l2 : Int32) (M : q_Mem) : Option ((Int32 × q_Mem) ⊕ (q_Mem)) := (q_gI M l1 3 5 (fun v20 => (if l2 < v20 then (if l2 < (6 : Int32) then (q_gR M l0 8 0 (fun c21 => q_nn c21 (fun r22 => (q_ob M l1 3 ((F_X3_ofGuest l1 l2 (1 : Int32) M).bind (fun u23 => (q_tI M r22 ((13 : Int32) + l2) u23 (fun M24 => (q_gR M24 l0 8 0 (fun c25 => q_nn c25 (fun r26 => (q_ob M24 l1 3 ((F_X3_ofGuest l1 l2 (2 : Int32) M24).bind (fun u27 => (q_tI M24 r26 ((19 : Int32) + l2) u27 (fun M28 => some (.inl ((l2 + (1 : Int32)), M28)))))))))))))))))) else some (.inr M)) else some (.inr M))))
set_option maxRecDepth 100000 in
set_option maxHeartbeats 4000000 in
theorem bW_X8_begin_41 {K : q_K} {Q : State → Prop} (C : q_C K yX8_begin cX8_begin 3 (Option.none : Option Jvm.ClassFile.FieldType) 2 0 0) (l0 : Nat) (l1 : Nat) (l2 : Int32) (M : q_Mem) {stp : (Int32 × q_Mem) ⊕ (q_Mem)} (h : B_X8_begin_41 l0 l1 l2 M = some stp) (kC : ∀ (l2 : Int32) (M : q_Mem), stp = .inl (l2, M) → q_W K 3 Q 0 0 M 41 [some (.ref l0), some (.ref l1), some (.int l2)] []) (kE0 : ∀ (M : q_Mem), stp = .inr M → q_W K 3 Q 0 0 M 91 [none, none, none] []) : q_W K 3 Q 0 0 M 41 [some (.ref l0), some (.ref l1), some (.int l2)] [] := by
  unfold B_X8_begin_41 at h
  refine q_iload_n C dX8_begin_41 rfl ?_
  refine q_aload_n C dX8_begin_42 rfl ?_
  refine x_getI (ci := 3) (j := 5) C dX8_begin_43 lkF_X8_32 rfl h (fun v20 h => ?_)
  refine q_icmp_ge (tgt := 91) C dX8_begin_46 (by decide) h (fun _ h => ?_) (fun _ h => ?_)
  · refine q_iload_n C dX8_begin_49 rfl ?_
    refine x_bipush (v := (6 : Int32)) C dX8_begin_50 (by decide) ?_
    refine q_icmp_ge (tgt := 91) C dX8_begin_52 (by decide) h (fun _ h => ?_) (fun _ h => ?_)
    · refine q_aload_n C dX8_begin_55 rfl ?_
      refine x_getR (ci := 8) (j := 0) C dX8_begin_56 lkF_X8_9 rfl h (fun c21 h => ?_)
      refine x_nn h (fun r22 h => ?_)
      refine x_bipush (v := (13 : Int32)) C dX8_begin_59 (by decide) ?_
      refine q_iload_n C dX8_begin_61 rfl ?_
      refine q_iadd C dX8_begin_62 ?_
      refine q_aload_n C dX8_begin_63 rfl ?_
      refine q_iload_n C dX8_begin_64 rfl ?_
      refine x_iconst (v := (1 : Int32)) C dX8_begin_65 (by decide) ?_
      obtain ⟨hk, h⟩ := q_obE h
      obtain ⟨u23, e1, h⟩ := q_bind h
      refine x_callV0 C dX8_begin_66 lkM_X8_36 mV_X3_ofGuest ⟨_, rfl, rfl⟩ hk (c_X3_ofGuest _ _ _ _ _ _ e1) rfl rfl (Nat.le_of_ble_eq_true rfl) (by decide) (by decide) ?_
      refine x_iast C dX8_begin_69 h (fun M24 h => ?_)
      refine q_aload_n C dX8_begin_70 rfl ?_
      refine x_getR (ci := 8) (j := 0) C dX8_begin_71 lkF_X8_9 rfl h (fun c25 h => ?_)
      refine x_nn h (fun r26 h => ?_)
      refine x_bipush (v := (19 : Int32)) C dX8_begin_74 (by decide) ?_
      refine q_iload_n C dX8_begin_76 rfl ?_
      refine q_iadd C dX8_begin_77 ?_
      refine q_aload_n C dX8_begin_78 rfl ?_
      refine q_iload_n C dX8_begin_79 rfl ?_
      refine x_iconst (v := (2 : Int32)) C dX8_begin_80 (by decide) ?_
      obtain ⟨hk, h⟩ := q_obE h
      obtain ⟨u27, e1, h⟩ := q_bind h
      refine x_callV0 C dX8_begin_81 lkM_X8_36 mV_X3_ofGuest ⟨_, rfl, rfl⟩ hk (c_X3_ofGuest _ _ _ _ _ _ e1) rfl rfl (Nat.le_of_ble_eq_true rfl) (by decide) (by decide) ?_
      refine x_iast C dX8_begin_84 h (fun M28 h => ?_)
      refine x_iinc (w := (1 : Int32)) (L' := [some (.ref l0), some (.ref l1), some (.int (l2 + (1 : Int32)))]) C dX8_begin_85 rfl (by decide) (by decide) rfl rfl ?_
      refine q_goto (tgt := 41) C dX8_begin_88 (by decide) ?_
      exact q_msk [true, true, true] (kC _ _ (Option.some.inj h).symm)
    · exact q_msk [false, false, false] (kE0 _ (Option.some.inj h).symm)
  · exact q_msk [false, false, false] (kE0 _ (Option.some.inj h).symm)
set_option maxRecDepth 100000 in
set_option maxHeartbeats 4000000 in
theorem lW_X8_begin_41 {K : q_K} {Q : State → Prop} (C : q_C K yX8_begin cX8_begin 3 (Option.none : Option Jvm.ClassFile.FieldType) 2 0 0) (l0 : Nat) (l1 : Nat) (n : Nat) : ∀ (l2 : Int32) (M : q_Mem) (e : (q_Mem)), q_lp (fun s => B_X8_begin_41 l0 l1 s.1 s.2) n (l2, M) = some e → (∀ (M : q_Mem), e = M → q_W K 3 Q 0 0 M 91 [none, none, none] []) → q_W K 3 Q 0 0 M 41 [some (.ref l0), some (.ref l1), some (.int l2)] [] := by
  induction n with
  | zero => intro l2 M e h; cases h
  | succ n ih =>
    intro l2 M e h kE0
    obtain ⟨stp, e1, e2⟩ := q_bind h
    refine bW_X8_begin_41 C l0 l1 l2 M e1 (fun a0 a1 hs => ?_) (fun b0 hs => ?_)
    · subst hs; exact ih _ _ _ e2 kE0
    · subst hs; exact kE0 _ (Option.some.inj e2).symm
noncomputable def F_X8_begin (l0 : Nat) (l1 : Nat) (M : q_Mem) : Option (Unit × q_Mem) := (q_gR M l0 8 0 (fun c1 => q_nn c1 (fun r2 => ((F_J7_fill_53178 r2 (0 : Int32) M).bind (fun x => match x with | (_, M4) => (q_gR M4 l0 8 0 (fun c5 => q_nn c5 (fun r6 => (q_gR M4 l1 3 0 (fun c7 => q_nn c7 (fun r8 => (q_lI M4 0 r8 (0 : Int32) (fun v9 => (q_tI M4 r6 (1 : Int32) v9 (fun M10 => (q_gR M10 l0 8 0 (fun c11 => q_nn c11 (fun r12 => (q_gR M10 l1 3 0 (fun c13 => q_nn c13 (fun r14 => (q_lI M10 0 r14 (2 : Int32) (fun v15 => (q_tI M10 r12 (2 : Int32) v15 (fun M16 => (q_gR M16 l0 8 0 (fun c17 => q_nn c17 (fun r18 => (q_tI M16 r18 (3 : Int32) (-1 : Int32) (fun M19 => (q_lp (fun s => B_X8_begin_41 l0 l1 s.1 s.2) q_fu ((0 : Int32), M19)).bind (fun e29 => match e29 with | M30 => some ((), M30))))))))))))))))))))))))))))))))
set_option maxRecDepth 100000 in
set_option maxHeartbeats 4000000 in
theorem c_X8_begin (l : Launch) (G : q_G) (l0 : Nat) (l1 : Nat) (M : q_Mem) {r : Unit} {M' : q_Mem} (h : F_X8_begin l0 l1 M = some (r, M')) : q_Met l G yX8_begin cX8_begin 3 (Option.none : Option Jvm.ClassFile.FieldType) 2 0 0 [.ref l0, .ref l1] M none M' := by
  unfold F_X8_begin at h
  refine q_enter [some (.ref l0), some (.ref l1), none] (by decide) (Nat.le_of_ble_eq_true rfl) rfl (fun K C => ?_)
  refine q_aload_n C dX8_begin_0 rfl ?_
  refine x_getR (ci := 8) (j := 0) C dX8_begin_1 lkF_X8_9 rfl h (fun c1 h => ?_)
  refine x_nn h (fun r2 h => ?_)
  refine x_iconst (v := (0 : Int32)) C dX8_begin_4 (by decide) ?_
  obtain ⟨⟨_, M4⟩, e1, h⟩ := q_bind h
  refine x_callSv0 C dX8_begin_5 lkM_X8_21 mS_J7_fill_53178 (c_J7_fill_53178 _ _ _ _ _ e1) rfl rfl (Nat.le_of_ble_eq_true rfl) (by decide) (by decide) ?_
  refine q_aload_n C dX8_begin_8 rfl ?_
  refine x_getR (ci := 8) (j := 0) C dX8_begin_9 lkF_X8_9 rfl h (fun c5 h => ?_)
  refine x_nn h (fun r6 h => ?_)
  refine x_iconst (v := (1 : Int32)) C dX8_begin_12 (by decide) ?_
  refine q_aload_n C dX8_begin_13 rfl ?_
  refine x_getR (ci := 3) (j := 0) C dX8_begin_14 lkF_X8_27 rfl h (fun c7 h => ?_)
  refine x_nn h (fun r8 h => ?_)
  refine x_iconst (v := (0 : Int32)) C dX8_begin_17 (by decide) ?_
  refine x_iald C dX8_begin_18 h (fun v9 h => ?_)
  refine x_iast C dX8_begin_19 h (fun M10 h => ?_)
  refine q_aload_n C dX8_begin_20 rfl ?_
  refine x_getR (ci := 8) (j := 0) C dX8_begin_21 lkF_X8_9 rfl h (fun c11 h => ?_)
  refine x_nn h (fun r12 h => ?_)
  refine x_iconst (v := (2 : Int32)) C dX8_begin_24 (by decide) ?_
  refine q_aload_n C dX8_begin_25 rfl ?_
  refine x_getR (ci := 3) (j := 0) C dX8_begin_26 lkF_X8_27 rfl h (fun c13 h => ?_)
  refine x_nn h (fun r14 h => ?_)
  refine x_iconst (v := (2 : Int32)) C dX8_begin_29 (by decide) ?_
  refine x_iald C dX8_begin_30 h (fun v15 h => ?_)
  refine x_iast C dX8_begin_31 h (fun M16 h => ?_)
  refine q_aload_n C dX8_begin_32 rfl ?_
  refine x_getR (ci := 8) (j := 0) C dX8_begin_33 lkF_X8_9 rfl h (fun c17 h => ?_)
  refine x_nn h (fun r18 h => ?_)
  refine x_iconst (v := (3 : Int32)) C dX8_begin_36 (by decide) ?_
  refine x_iconst (v := (-1 : Int32)) C dX8_begin_37 (by decide) ?_
  refine x_iast C dX8_begin_38 h (fun M19 h => ?_)
  refine x_iconst (v := (0 : Int32)) C dX8_begin_39 (by decide) ?_
  refine q_istore_n (L' := [some (.ref l0), some (.ref l1), some (.int (0 : Int32))]) C dX8_begin_40 (by decide) rfl rfl ?_
  obtain ⟨e29, he, h⟩ := q_bind h
  refine q_msk [true, true, true] (lW_X8_begin_41 C l0 l1 q_fu _ _ _ he (fun M30 hs => ?_))
  · have hs := hs.symm
    subst hs
    exact q_vret C dX8_begin_91 rfl (by decide) (by decide) (Option.some.inj h)
