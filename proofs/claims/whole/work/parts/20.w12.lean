noncomputable def F_X11_staying (l0 : Nat) (l1 : Int32) (M : q_Mem) : Option (Int32) := (q_gR M l0 11 1 (fun c1 => q_nn c1 (fun r2 => (q_ob M r2 3 ((F_X3_hasGuest r2 l1 M).bind (fun u3 => (if u3 = 0 then some (-1 : Int32) else (q_gR M l0 11 6 (fun c4 => q_nn c4 (fun r5 => (q_ob M r5 8 ((F_X8_hasLeft r5 l1 M).bind (fun u6 => (if u6 = 0 then (q_gR M l0 11 1 (fun c7 => q_nn c7 (fun r8 => (q_ob M r8 3 ((F_X3_ofGuest r8 l1 (0 : Int32) M).bind (fun u9 => (q_gR M l0 11 6 (fun c10 => q_nn c10 (fun r11 => (q_gR M r11 8 0 (fun c12 => q_nn c12 (fun r13 => (q_lI M 0 r13 (0 : Int32) (fun v14 => (q_gR M l0 11 6 (fun c15 => q_nn c15 (fun r16 => (q_gR M r16 8 0 (fun c17 => q_nn c17 (fun r18 => (q_lI M 0 r18 ((13 : Int32) + l1) (fun v19 => some (q_mx (0 : Int32) ((u9 + v19) - (q_mx v14 u9))))))))))))))))))))))))) else some (0 : Int32)))))))))))))))
set_option maxRecDepth 100000 in
set_option maxHeartbeats 4000000 in
theorem c_X11_staying (l : Launch) (G : q_G) (l0 : Nat) (l1 : Int32) (M : q_Mem) {r : Int32} (h : F_X11_staying l0 l1 M = some r) : q_Met l G yX11_staying cX11_staying 4 (Option.some Jvm.ClassFile.FieldType.int) 2 0 0 [.ref l0, .int l1] M (some (.int r)) M := by
  unfold F_X11_staying at h
  refine q_enter [some (.ref l0), some (.int l1), none, none] (by decide) (Nat.le_of_ble_eq_true rfl) rfl (fun K C => ?_)
  refine q_aload_n C dX11_staying_0 rfl ?_
  refine x_getR (ci := 11) (j := 1) C dX11_staying_1 lkF_X11_19 rfl h (fun c1 h => ?_)
  refine x_nn h (fun r2 h => ?_)
  refine q_iload_n C dX11_staying_4 rfl ?_
  obtain ⟨hk, h⟩ := q_obE h
  obtain ⟨u3, e1, h⟩ := q_bind h
  refine x_callV0 C dX11_staying_5 lkM_X11_170 mV_X3_hasGuest ⟨_, rfl, rfl⟩ hk (c_X3_hasGuest _ _ _ _ _ e1) rfl rfl (Nat.le_of_ble_eq_true rfl) (by decide) (by decide) ?_
  refine q_if_ne (tgt := 13) C dX11_staying_8 (by decide) h (fun _ h => ?_) (fun _ h => ?_)
  · refine x_iconst (v := (-1 : Int32)) C dX11_staying_11 (by decide) ?_
    exact q_iret (res := (r, M)) C dX11_staying_12 rfl (by decide) (by decide) (congrArg (fun z => (z, M)) (Option.some.inj h))
  · refine q_aload_n C dX11_staying_13 rfl ?_
    refine x_getR (ci := 11) (j := 6) C dX11_staying_14 lkF_X11_50 rfl h (fun c4 h => ?_)
    refine x_nn h (fun r5 h => ?_)
    refine q_iload_n C dX11_staying_17 rfl ?_
    obtain ⟨hk, h⟩ := q_obE h
    obtain ⟨u6, e1, h⟩ := q_bind h
    refine x_callV0 C dX11_staying_18 lkM_X11_183 mV_X8_hasLeft ⟨_, rfl, rfl⟩ hk (c_X8_hasLeft _ _ _ _ _ e1) rfl rfl (Nat.le_of_ble_eq_true rfl) (by decide) (by decide) ?_
    refine q_if_eq (tgt := 26) C dX11_staying_21 (by decide) h (fun _ h => ?_) (fun _ h => ?_)
    · refine q_aload_n C dX11_staying_26 rfl ?_
      refine x_getR (ci := 11) (j := 1) C dX11_staying_27 lkF_X11_19 rfl h (fun c7 h => ?_)
      refine x_nn h (fun r8 h => ?_)
      refine q_iload_n C dX11_staying_30 rfl ?_
      refine x_iconst (v := (0 : Int32)) C dX11_staying_31 (by decide) ?_
      obtain ⟨hk, h⟩ := q_obE h
      obtain ⟨u9, e1, h⟩ := q_bind h
      refine x_callV0 C dX11_staying_32 lkM_X11_180 mV_X3_ofGuest ⟨_, rfl, rfl⟩ hk (c_X3_ofGuest _ _ _ _ _ _ e1) rfl rfl (Nat.le_of_ble_eq_true rfl) (by decide) (by decide) ?_
      refine q_istore_n (L' := [some (.ref l0), some (.int l1), some (.int u9), none]) C dX11_staying_35 (by decide) rfl rfl ?_
      refine q_aload_n C dX11_staying_36 rfl ?_
      refine x_getR (ci := 11) (j := 6) C dX11_staying_37 lkF_X11_50 rfl h (fun c10 h => ?_)
      refine x_nn h (fun r11 h => ?_)
      refine x_getR (ci := 8) (j := 0) C dX11_staying_40 lkF_X11_156 rfl h (fun c12 h => ?_)
      refine x_nn h (fun r13 h => ?_)
      refine x_iconst (v := (0 : Int32)) C dX11_staying_43 (by decide) ?_
      refine x_iald C dX11_staying_44 h (fun v14 h => ?_)
      refine q_iload_n C dX11_staying_45 rfl ?_
      refine q_max C dX11_staying_46 wd_1074 wd_467 wd_15 wd_468 (by decide) (Nat.le_of_ble_eq_true rfl) (by decide) ?_
      refine q_istore_n (L' := [some (.ref l0), some (.int l1), some (.int u9), some (.int (q_mx v14 u9))]) C dX11_staying_49 (by decide) rfl rfl ?_
      refine x_iconst (v := (0 : Int32)) C dX11_staying_50 (by decide) ?_
      refine q_iload_n C dX11_staying_51 rfl ?_
      refine q_aload_n C dX11_staying_52 rfl ?_
      refine x_getR (ci := 11) (j := 6) C dX11_staying_53 lkF_X11_50 rfl h (fun c15 h => ?_)
      refine x_nn h (fun r16 h => ?_)
      refine x_getR (ci := 8) (j := 0) C dX11_staying_56 lkF_X11_156 rfl h (fun c17 h => ?_)
      refine x_nn h (fun r18 h => ?_)
      refine x_bipush (v := (13 : Int32)) C dX11_staying_59 (by decide) ?_
      refine q_iload_n C dX11_staying_61 rfl ?_
      refine q_iadd C dX11_staying_62 ?_
      refine x_iald C dX11_staying_63 h (fun v19 h => ?_)
      refine q_iadd C dX11_staying_64 ?_
      refine q_iload_n C dX11_staying_65 rfl ?_
      refine q_isub C dX11_staying_66 ?_
      refine q_max C dX11_staying_67 wd_1074 wd_467 wd_15 wd_468 (by decide) (Nat.le_of_ble_eq_true rfl) (by decide) ?_
      exact q_iret (res := (r, M)) C dX11_staying_70 rfl (by decide) (by decide) (congrArg (fun z => (z, M)) (Option.some.inj h))
    · refine x_iconst (v := (0 : Int32)) C dX11_staying_24 (by decide) ?_
      exact q_iret (res := (r, M)) C dX11_staying_25 rfl (by decide) (by decide) (congrArg (fun z => (z, M)) (Option.some.inj h))
noncomputable def F_X11_image (l0 : Nat) (M : q_Mem) : Option (Int32 × q_Mem) := (q_gI M l0 11 18 (fun v1 => (if v1 = 0 then some ((-1 : Int32), M) else (q_gR M l0 11 8 (fun c2 => q_nn c2 (fun r3 => (q_gR M l0 11 6 (fun c4 => q_nn c4 (fun r5 => (q_ob M r3 6 ((F_X6_takePicture r3 r5 M).bind (fun x => match x with | (_, M7) => (q_gR M7 l0 11 6 (fun c8 => q_nn c8 (fun r9 => (q_gR M7 r9 8 0 (fun c10 => q_nn c10 (fun r11 => (q_lI M7 0 r11 (0 : Int32) (fun v12 => some (v12, M7)))))))))))))))))))))
set_option maxRecDepth 100000 in
set_option maxHeartbeats 4000000 in
theorem c_X11_image (l : Launch) (G : q_G) (l0 : Nat) (M : q_Mem) {r : Int32} {M' : q_Mem} (h : F_X11_image l0 M = some (r, M')) : q_Met l G yX11_image cX11_image 1 (Option.some Jvm.ClassFile.FieldType.int) 4 0 0 [.ref l0] M (some (.int r)) M' := by
  unfold F_X11_image at h
  refine q_enter [some (.ref l0)] (by decide) (Nat.le_of_ble_eq_true rfl) rfl (fun K C => ?_)
  refine q_aload_n C dX11_image_0 rfl ?_
  refine x_getI (ci := 11) (j := 18) C dX11_image_1 lkF_X11_116 rfl h (fun v1 h => ?_)
  refine q_if_ne (tgt := 9) C dX11_image_4 (by decide) h (fun _ h => ?_) (fun _ h => ?_)
  · refine x_iconst (v := (-1 : Int32)) C dX11_image_7 (by decide) ?_
    exact q_iret C dX11_image_8 rfl (by decide) (by decide) (Option.some.inj h)
  · refine q_aload_n C dX11_image_9 rfl ?_
    refine x_getR (ci := 11) (j := 8) C dX11_image_10 lkF_X11_60 rfl h (fun c2 h => ?_)
    refine x_nn h (fun r3 h => ?_)
    refine q_aload_n C dX11_image_13 rfl ?_
    refine x_getR (ci := 11) (j := 6) C dX11_image_14 lkF_X11_50 rfl h (fun c4 h => ?_)
    refine x_nn h (fun r5 h => ?_)
    obtain ⟨hk, h⟩ := q_obE h
    obtain ⟨⟨_, M7⟩, e1, h⟩ := q_bind h
    refine x_callVv0 C dX11_image_17 lkM_X11_382 mV_X6_takePicture ⟨_, rfl, rfl⟩ hk (c_X6_takePicture _ _ _ _ _ e1) rfl rfl (Nat.le_of_ble_eq_true rfl) (by decide) (by decide) ?_
    refine q_aload_n C dX11_image_20 rfl ?_
    refine x_getR (ci := 11) (j := 6) C dX11_image_21 lkF_X11_50 rfl h (fun c8 h => ?_)
    refine x_nn h (fun r9 h => ?_)
    refine x_getR (ci := 8) (j := 0) C dX11_image_24 lkF_X11_156 rfl h (fun c10 h => ?_)
    refine x_nn h (fun r11 h => ?_)
    refine x_iconst (v := (0 : Int32)) C dX11_image_27 (by decide) ?_
    refine x_iald C dX11_image_28 h (fun v12 h => ?_)
    exact q_iret C dX11_image_29 rfl (by decide) (by decide) (Option.some.inj h)
noncomputable def F_X11_back (l0 : Nat) (M : q_Mem) : Option (Int32 × q_Mem) := (q_gR M l0 11 8 (fun c1 => q_nn c1 (fun r2 => (q_gR M l0 11 6 (fun c3 => q_nn c3 (fun r4 => (q_ob M r2 6 ((F_X6_showPicture r2 r4 M).bind (fun x => match x with | (u5, M6) => (if u5 = 0 then some ((-1 : Int32), M6) else (q_gR M6 l0 11 6 (fun c7 => q_nn c7 (fun r8 => (q_gR M6 r8 8 0 (fun c9 => q_nn c9 (fun r10 => (q_lI M6 0 r10 (0 : Int32) (fun v11 => some (v11, M6)))))))))))))))))))
set_option maxRecDepth 100000 in
set_option maxHeartbeats 4000000 in
theorem c_X11_back (l : Launch) (G : q_G) (l0 : Nat) (M : q_Mem) {r : Int32} {M' : q_Mem} (h : F_X11_back l0 M = some (r, M')) : q_Met l G yX11_back cX11_back 1 (Option.some Jvm.ClassFile.FieldType.int) 4 0 0 [.ref l0] M (some (.int r)) M' := by
  unfold F_X11_back at h
  refine q_enter [some (.ref l0)] (by decide) (Nat.le_of_ble_eq_true rfl) rfl (fun K C => ?_)
  refine q_aload_n C dX11_back_0 rfl ?_
  refine x_getR (ci := 11) (j := 8) C dX11_back_1 lkF_X11_60 rfl h (fun c1 h => ?_)
  refine x_nn h (fun r2 h => ?_)
  refine q_aload_n C dX11_back_4 rfl ?_
  refine x_getR (ci := 11) (j := 6) C dX11_back_5 lkF_X11_50 rfl h (fun c3 h => ?_)
  refine x_nn h (fun r4 h => ?_)
  obtain ⟨hk, h⟩ := q_obE h
  obtain ⟨⟨u5, M6⟩, e1, h⟩ := q_bind h
  refine x_callV0 C dX11_back_8 lkM_X11_385 mV_X6_showPicture ⟨_, rfl, rfl⟩ hk (c_X6_showPicture _ _ _ _ _ e1) rfl rfl (Nat.le_of_ble_eq_true rfl) (by decide) (by decide) ?_
  refine q_if_eq (tgt := 26) C dX11_back_11 (by decide) h (fun _ h => ?_) (fun _ h => ?_)
  · refine x_iconst (v := (-1 : Int32)) C dX11_back_26 (by decide) ?_
    exact q_iret C dX11_back_27 rfl (by decide) (by decide) (Option.some.inj h)
  · refine q_aload_n C dX11_back_14 rfl ?_
    refine x_getR (ci := 11) (j := 6) C dX11_back_15 lkF_X11_50 rfl h (fun c7 h => ?_)
    refine x_nn h (fun r8 h => ?_)
    refine x_getR (ci := 8) (j := 0) C dX11_back_18 lkF_X11_156 rfl h (fun c9 h => ?_)
    refine x_nn h (fun r10 h => ?_)
    refine x_iconst (v := (0 : Int32)) C dX11_back_21 (by decide) ?_
    refine x_iald C dX11_back_22 h (fun v11 h => ?_)
    refine q_goto (tgt := 27) C dX11_back_23 (by decide) ?_
    exact q_iret C dX11_back_27 rfl (by decide) (by decide) (Option.some.inj h)
noncomputable def F_X11_count (l0 : Nat) (l1 : Int32) (M : q_Mem) : Option (Int32) := (if l1 = (0 : Int32) then (q_gR M l0 11 1 (fun c1 => q_nn c1 (fun r2 => (q_gI M r2 3 5 (fun v3 => some v3))))) else (if l1 = (1 : Int32) then (q_gR M l0 11 1 (fun c4 => q_nn c4 (fun r5 => (q_gI M r5 3 4 (fun v6 => some v6))))) else (if l1 = (2 : Int32) then (q_gI M l0 11 14 (fun v7 => some v7)) else (if l1 = (3 : Int32) then (q_gI M l0 11 15 (fun v8 => some v8)) else (if l1 = (4 : Int32) then (q_gR M l0 11 0 (fun c9 => q_nn c9 (fun r10 => (q_gI M r10 9 1 (fun v11 => some v11))))) else (if l1 = (5 : Int32) then (q_gI M l0 11 16 (fun v12 => some v12)) else (if l1 = (6 : Int32) then (q_gR M l0 11 6 (fun c13 => q_nn c13 (fun r14 => (q_gR M r14 8 0 (fun c15 => q_nn c15 (fun r16 => (q_lI M 0 r16 (0 : Int32) (fun v17 => some v17)))))))) else (if l1 = (7 : Int32) then (q_gR M l0 11 6 (fun c18 => q_nn c18 (fun r19 => (q_ob M r19 8 ((F_X8_joyOfAll r19 M).bind (fun u20 => some u20)))))) else (if l1 = (8 : Int32) then (q_gR M l0 11 6 (fun c21 => q_nn c21 (fun r22 => (q_gR M r22 8 0 (fun c23 => q_nn c23 (fun r24 => (q_lI M 0 r24 (4 : Int32) (fun v25 => some v25)))))))) else (if l1 = (9 : Int32) then (q_gI M l0 11 17 (fun v26 => some v26)) else (if l1 = (10 : Int32) then (q_gR M l0 11 12 (fun c27 => q_nn c27 (fun r28 => (q_gI M r28 7 3 (fun v29 => some v29))))) else (if l1 = (11 : Int32) then (q_gR M l0 11 6 (fun c30 => q_nn c30 (fun r31 => (q_gR M r31 8 0 (fun c32 => q_nn c32 (fun r33 => (q_lI M 0 r33 (0 : Int32) (fun v34 => ((F_X6_logLength v34 M).bind (fun u35 => some u35)))))))))) else (if l1 = (12 : Int32) then (q_gR M l0 11 8 (fun c36 => q_nn c36 (fun r37 => (q_gI M r37 6 6 (fun v38 => some v38))))) else some (-1000000 : Int32))))))))))))))
set_option maxRecDepth 100000 in
set_option maxHeartbeats 4000000 in
theorem c_X11_count (l : Launch) (G : q_G) (l0 : Nat) (l1 : Int32) (M : q_Mem) {r : Int32} (h : F_X11_count l0 l1 M = some r) : q_Met l G yX11_count cX11_count 2 (Option.some Jvm.ClassFile.FieldType.int) 3 0 0 [.ref l0, .int l1] M (some (.int r)) M := by
  unfold F_X11_count at h
  refine q_enter [some (.ref l0), some (.int l1)] (by decide) (Nat.le_of_ble_eq_true rfl) rfl (fun K C => ?_)
  refine q_iload_n C dX11_count_0 rfl ?_
  by_cases hs1_0 : l1 = (0 : Int32)
  · have h := q_iteT h hs1_0
    refine q_tsIn (tgt := 68) C dX11_count_1 hs1_0 (by decide) (by decide) rfl (by decide) ?_
    refine q_aload_n C dX11_count_68 rfl ?_
    refine x_getR (ci := 11) (j := 1) C dX11_count_69 lkF_X11_19 rfl h (fun c1 h => ?_)
    refine x_nn h (fun r2 h => ?_)
    refine x_getI (ci := 3) (j := 5) C dX11_count_72 lkF_X11_336 rfl h (fun v3 h => ?_)
    exact q_iret (res := (r, M)) C dX11_count_75 rfl (by decide) (by decide) (congrArg (fun z => (z, M)) (Option.some.inj h))
  have h := q_iteF h hs1_0
  by_cases hs1_1 : l1 = (1 : Int32)
  · have h := q_iteT h hs1_1
    refine q_tsIn (tgt := 76) C dX11_count_1 hs1_1 (by decide) (by decide) rfl (by decide) ?_
    refine q_aload_n C dX11_count_76 rfl ?_
    refine x_getR (ci := 11) (j := 1) C dX11_count_77 lkF_X11_19 rfl h (fun c4 h => ?_)
    refine x_nn h (fun r5 h => ?_)
    refine x_getI (ci := 3) (j := 4) C dX11_count_80 lkF_X11_349 rfl h (fun v6 h => ?_)
    exact q_iret (res := (r, M)) C dX11_count_83 rfl (by decide) (by decide) (congrArg (fun z => (z, M)) (Option.some.inj h))
  have h := q_iteF h hs1_1
  by_cases hs1_2 : l1 = (2 : Int32)
  · have h := q_iteT h hs1_2
    refine q_tsIn (tgt := 84) C dX11_count_1 hs1_2 (by decide) (by decide) rfl (by decide) ?_
    refine q_aload_n C dX11_count_84 rfl ?_
    refine x_getI (ci := 11) (j := 14) C dX11_count_85 lkF_X11_103 rfl h (fun v7 h => ?_)
    exact q_iret (res := (r, M)) C dX11_count_88 rfl (by decide) (by decide) (congrArg (fun z => (z, M)) (Option.some.inj h))
  have h := q_iteF h hs1_2
  by_cases hs1_3 : l1 = (3 : Int32)
  · have h := q_iteT h hs1_3
    refine q_tsIn (tgt := 89) C dX11_count_1 hs1_3 (by decide) (by decide) rfl (by decide) ?_
    refine q_aload_n C dX11_count_89 rfl ?_
    refine x_getI (ci := 11) (j := 15) C dX11_count_90 lkF_X11_107 rfl h (fun v8 h => ?_)
    exact q_iret (res := (r, M)) C dX11_count_93 rfl (by decide) (by decide) (congrArg (fun z => (z, M)) (Option.some.inj h))
  have h := q_iteF h hs1_3
  by_cases hs1_4 : l1 = (4 : Int32)
  · have h := q_iteT h hs1_4
    refine q_tsIn (tgt := 94) C dX11_count_1 hs1_4 (by decide) (by decide) rfl (by decide) ?_
    refine q_aload_n C dX11_count_94 rfl ?_
    refine x_getR (ci := 11) (j := 0) C dX11_count_95 lkF_X11_12 rfl h (fun c9 h => ?_)
    refine x_nn h (fun r10 h => ?_)
    refine x_getI (ci := 9) (j := 1) C dX11_count_98 lkF_X11_128 rfl h (fun v11 h => ?_)
    exact q_iret (res := (r, M)) C dX11_count_101 rfl (by decide) (by decide) (congrArg (fun z => (z, M)) (Option.some.inj h))
  have h := q_iteF h hs1_4
  by_cases hs1_5 : l1 = (5 : Int32)
  · have h := q_iteT h hs1_5
    refine q_tsIn (tgt := 102) C dX11_count_1 hs1_5 (by decide) (by decide) rfl (by decide) ?_
    refine q_aload_n C dX11_count_102 rfl ?_
    refine x_getI (ci := 11) (j := 16) C dX11_count_103 lkF_X11_110 rfl h (fun v12 h => ?_)
    exact q_iret (res := (r, M)) C dX11_count_106 rfl (by decide) (by decide) (congrArg (fun z => (z, M)) (Option.some.inj h))
  have h := q_iteF h hs1_5
  by_cases hs1_6 : l1 = (6 : Int32)
  · have h := q_iteT h hs1_6
    refine q_tsIn (tgt := 107) C dX11_count_1 hs1_6 (by decide) (by decide) rfl (by decide) ?_
    refine q_aload_n C dX11_count_107 rfl ?_
    refine x_getR (ci := 11) (j := 6) C dX11_count_108 lkF_X11_50 rfl h (fun c13 h => ?_)
    refine x_nn h (fun r14 h => ?_)
    refine x_getR (ci := 8) (j := 0) C dX11_count_111 lkF_X11_156 rfl h (fun c15 h => ?_)
    refine x_nn h (fun r16 h => ?_)
    refine x_iconst (v := (0 : Int32)) C dX11_count_114 (by decide) ?_
    refine x_iald C dX11_count_115 h (fun v17 h => ?_)
    exact q_iret (res := (r, M)) C dX11_count_116 rfl (by decide) (by decide) (congrArg (fun z => (z, M)) (Option.some.inj h))
  have h := q_iteF h hs1_6
  by_cases hs1_7 : l1 = (7 : Int32)
  · have h := q_iteT h hs1_7
    refine q_tsIn (tgt := 117) C dX11_count_1 hs1_7 (by decide) (by decide) rfl (by decide) ?_
    refine q_aload_n C dX11_count_117 rfl ?_
    refine x_getR (ci := 11) (j := 6) C dX11_count_118 lkF_X11_50 rfl h (fun c18 h => ?_)
    refine x_nn h (fun r19 h => ?_)
    obtain ⟨hk, h⟩ := q_obE h
    obtain ⟨u20, e1, h⟩ := q_bind h
    refine x_callV0 C dX11_count_121 lkM_X11_388 mV_X8_joyOfAll ⟨_, rfl, rfl⟩ hk (c_X8_joyOfAll _ _ _ _ e1) rfl rfl (Nat.le_of_ble_eq_true rfl) (by decide) (by decide) ?_
    exact q_iret (res := (r, M)) C dX11_count_124 rfl (by decide) (by decide) (congrArg (fun z => (z, M)) (Option.some.inj h))
  have h := q_iteF h hs1_7
  by_cases hs1_8 : l1 = (8 : Int32)
  · have h := q_iteT h hs1_8
    refine q_tsIn (tgt := 125) C dX11_count_1 hs1_8 (by decide) (by decide) rfl (by decide) ?_
    refine q_aload_n C dX11_count_125 rfl ?_
    refine x_getR (ci := 11) (j := 6) C dX11_count_126 lkF_X11_50 rfl h (fun c21 h => ?_)
    refine x_nn h (fun r22 h => ?_)
    refine x_getR (ci := 8) (j := 0) C dX11_count_129 lkF_X11_156 rfl h (fun c23 h => ?_)
    refine x_nn h (fun r24 h => ?_)
    refine x_iconst (v := (4 : Int32)) C dX11_count_132 (by decide) ?_
    refine x_iald C dX11_count_133 h (fun v25 h => ?_)
    exact q_iret (res := (r, M)) C dX11_count_134 rfl (by decide) (by decide) (congrArg (fun z => (z, M)) (Option.some.inj h))
  have h := q_iteF h hs1_8
  by_cases hs1_9 : l1 = (9 : Int32)
  · have h := q_iteT h hs1_9
    refine q_tsIn (tgt := 135) C dX11_count_1 hs1_9 (by decide) (by decide) rfl (by decide) ?_
    refine q_aload_n C dX11_count_135 rfl ?_
    refine x_getI (ci := 11) (j := 17) C dX11_count_136 lkF_X11_113 rfl h (fun v26 h => ?_)
    exact q_iret (res := (r, M)) C dX11_count_139 rfl (by decide) (by decide) (congrArg (fun z => (z, M)) (Option.some.inj h))
  have h := q_iteF h hs1_9
  by_cases hs1_10 : l1 = (10 : Int32)
  · have h := q_iteT h hs1_10
    refine q_tsIn (tgt := 140) C dX11_count_1 hs1_10 (by decide) (by decide) rfl (by decide) ?_
    refine q_aload_n C dX11_count_140 rfl ?_
    refine x_getR (ci := 11) (j := 12) C dX11_count_141 lkF_X11_94 rfl h (fun c27 h => ?_)
    refine x_nn h (fun r28 h => ?_)
    refine x_getI (ci := 7) (j := 3) C dX11_count_144 lkF_X11_391 rfl h (fun v29 h => ?_)
    exact q_iret (res := (r, M)) C dX11_count_147 rfl (by decide) (by decide) (congrArg (fun z => (z, M)) (Option.some.inj h))
  have h := q_iteF h hs1_10
  by_cases hs1_11 : l1 = (11 : Int32)
  · have h := q_iteT h hs1_11
    refine q_tsIn (tgt := 148) C dX11_count_1 hs1_11 (by decide) (by decide) rfl (by decide) ?_
    refine q_aload_n C dX11_count_148 rfl ?_
    refine x_getR (ci := 11) (j := 6) C dX11_count_149 lkF_X11_50 rfl h (fun c30 h => ?_)
    refine x_nn h (fun r31 h => ?_)
    refine x_getR (ci := 8) (j := 0) C dX11_count_152 lkF_X11_156 rfl h (fun c32 h => ?_)
    refine x_nn h (fun r33 h => ?_)
    refine x_iconst (v := (0 : Int32)) C dX11_count_155 (by decide) ?_
    refine x_iald C dX11_count_156 h (fun v34 h => ?_)
    obtain ⟨u35, e1, h⟩ := q_bind h
    refine x_callS0 C dX11_count_157 lkM_X11_228 mS_X6_logLength (c_X6_logLength _ _ _ _ e1) rfl rfl (Nat.le_of_ble_eq_true rfl) (by decide) (by decide) ?_
    exact q_iret (res := (r, M)) C dX11_count_160 rfl (by decide) (by decide) (congrArg (fun z => (z, M)) (Option.some.inj h))
  have h := q_iteF h hs1_11
  by_cases hs1_12 : l1 = (12 : Int32)
  · have h := q_iteT h hs1_12
    refine q_tsIn (tgt := 161) C dX11_count_1 hs1_12 (by decide) (by decide) rfl (by decide) ?_
    refine q_aload_n C dX11_count_161 rfl ?_
    refine x_getR (ci := 11) (j := 8) C dX11_count_162 lkF_X11_60 rfl h (fun c36 h => ?_)
    refine x_nn h (fun r37 h => ?_)
    refine x_getI (ci := 6) (j := 6) C dX11_count_165 lkF_X11_225 rfl h (fun v38 h => ?_)
    exact q_iret (res := (r, M)) C dX11_count_168 rfl (by decide) (by decide) (congrArg (fun z => (z, M)) (Option.some.inj h))
  have h := q_iteF h hs1_12
  have ho1 : (l1 : Int32).toInt < 0 ∨ 12 < (l1 : Int32).toInt := by
    have z0 := lv_neT (a := 0) hs1_0 (by decide)
    have z1 := lv_neT (a := 1) hs1_1 (by decide)
    have z2 := lv_neT (a := 2) hs1_2 (by decide)
    have z3 := lv_neT (a := 3) hs1_3 (by decide)
    have z4 := lv_neT (a := 4) hs1_4 (by decide)
    have z5 := lv_neT (a := 5) hs1_5 (by decide)
    have z6 := lv_neT (a := 6) hs1_6 (by decide)
    have z7 := lv_neT (a := 7) hs1_7 (by decide)
    have z8 := lv_neT (a := 8) hs1_8 (by decide)
    have z9 := lv_neT (a := 9) hs1_9 (by decide)
    have z10 := lv_neT (a := 10) hs1_10 (by decide)
    have z11 := lv_neT (a := 11) hs1_11 (by decide)
    have z12 := lv_neT (a := 12) hs1_12 (by decide)
    omega
  refine q_tsOut (tgt := 169) C dX11_count_1 ho1 (by decide) ?_
  refine q_ldc (v := (-1000000 : Int32)) C dX11_count_169 wd_866 ?_
  exact q_iret (res := (r, M)) C dX11_count_171 rfl (by decide) (by decide) (congrArg (fun z => (z, M)) (Option.some.inj h))
noncomputable def F_X12_init (l0 : Nat) (M : q_Mem) : Option (Unit × q_Mem) := (q_nA M 1 (240 : Int32) 240 (fun k1 M2 => (q_pR M2 l0 12 1 (k1 + 1) (fun M3 => (q_nA M3 1 (960 : Int32) 960 (fun k4 M5 => (q_pR M5 l0 12 2 (k4 + 1) (fun M6 => (q_nA M6 0 (4 : Int32) 4 (fun k7 M8 => (q_pR M8 l0 12 3 (k7 + 1) (fun M9 => (q_nA M9 0 (128 : Int32) 128 (fun k10 M11 => (q_pR M11 l0 12 4 (k10 + 1) (fun M12 => (q_gR M12 l0 12 1 (fun c13 => q_nn c13 (fun r14 => (q_pR M12 l0 12 5 (r14 + 1) (fun M15 => (q_pR M15 l0 12 15 (30 + 1) (fun M16 => (q_pR M16 l0 12 16 (32 + 1) (fun M17 => (q_nA M17 0 (3 : Int32) 3 (fun k18 M19 => (q_pR M19 l0 12 18 (k18 + 1) (fun M20 => (q_nA M20 0 (3 : Int32) 3 (fun k21 M22 => (q_pR M22 l0 12 19 (k21 + 1) (fun M23 => (q_nA M23 0 (15 : Int32) 15 (fun k24 M25 => (q_pR M25 l0 12 20 (k24 + 1) (fun M26 => (q_nA M26 0 (15 : Int32) 15 (fun k27 M28 => (q_pR M28 l0 12 21 (k27 + 1) (fun M29 => (q_nA M29 0 (24 : Int32) 24 (fun k30 M31 => (q_pR M31 l0 12 22 (k30 + 1) (fun M32 => (q_nA M32 0 (24 : Int32) 24 (fun k33 M34 => (q_pR M34 l0 12 23 (k33 + 1) (fun M35 => (q_nA M35 0 (240 : Int32) 240 (fun k36 M37 => (q_pR M37 l0 12 24 (k36 + 1) (fun M38 => (q_nA M38 0 (5 : Int32) 5 (fun k39 M40 => (q_pR M40 l0 12 25 (k39 + 1) (fun M41 => (q_nA M41 0 (217 : Int32) 217 (fun k42 M43 => (q_pR M43 l0 12 32 (k42 + 1) (fun M44 => (q_nA M44 0 (217 : Int32) 217 (fun k45 M46 => (q_pR M46 l0 12 33 (k45 + 1) (fun M47 => (q_pI M47 l0 12 34 (-1 : Int32) (fun M48 => (q_pI M48 l0 12 35 (1 : Int32) (fun M49 => (q_nA M49 0 (6 : Int32) 6 (fun k50 M51 => (q_pR M51 l0 12 36 (k50 + 1) (fun M52 => (q_nA M52 0 (8680 : Int32) 8680 (fun k53 M54 => (q_pR M54 l0 12 41 (k53 + 1) (fun M55 => (q_nA M55 0 (50 : Int32) 50 (fun k56 M57 => (q_pR M57 l0 12 44 (k56 + 1) (fun M58 => (q_nA M58 0 (32 : Int32) 32 (fun k59 M60 => (q_pR M60 l0 12 46 (k59 + 1) (fun M61 => (q_nA M61 0 (185 : Int32) 185 (fun k62 M63 => (q_pR M63 l0 12 47 (k62 + 1) (fun M64 => (q_nA M64 0 (217 : Int32) 217 (fun k65 M66 => (q_pR M66 l0 12 48 (k65 + 1) (fun M67 => some ((), M67))))))))))))))))))))))))))))))))))))))))))))))))))))))))))))))))))))))))))))))))))))))))))))))
set_option maxRecDepth 100000 in
set_option maxHeartbeats 4000000 in
theorem c_X12_init (l : Launch) (G : q_G) (l0 : Nat) (M : q_Mem) {r : Unit} {M' : q_Mem} (h : F_X12_init l0 M = some (r, M')) : q_Met l G yX12_init cX12_init 1 (Option.none : Option Jvm.ClassFile.FieldType) 2 20 11265 [.ref l0] M none M' := by
  unfold F_X12_init at h
  refine q_enter [some (.ref l0)] (by decide) (Nat.le_of_ble_eq_true rfl) rfl (fun K C => ?_)
  refine q_aload_n C dX12_init_0 rfl ?_
  refine q_objI C dX12_init_1 wd_1196 wd_33 wd_34 (by decide) (Nat.le_of_ble_eq_true rfl) ?_
  refine q_aload_n C dX12_init_4 rfl ?_
  refine x_sipush (v := (240 : Int32)) C dX12_init_5 (by decide) ?_
  refine x_newa C dX12_init_8 (by simp) wd_62 (by decide) h (by decide) (fun k1 M2 h => ?_)
  refine x_putR (ci := 12) (j := 1) (k1 + 1) C dX12_init_10 lkF_X12_9 (fun r hr => by cases hr; exact Or.inr ⟨rfl, rfl, wd_1200⟩) (Or.inr ⟨_, rfl⟩) rfl h (fun M3 h => ?_)
  refine q_aload_n C dX12_init_13 rfl ?_
  refine x_sipush (v := (960 : Int32)) C dX12_init_14 (by decide) ?_
  refine x_newa C dX12_init_17 (by simp) wd_62 (by decide) h (by decide) (fun k4 M5 h => ?_)
  refine x_putR (ci := 12) (j := 2) (k4 + 1) C dX12_init_19 lkF_X12_13 (fun r hr => by cases hr; exact Or.inr ⟨rfl, rfl, wd_1201⟩) (Or.inr ⟨_, rfl⟩) rfl h (fun M6 h => ?_)
  refine q_aload_n C dX12_init_22 rfl ?_
  refine x_iconst (v := (4 : Int32)) C dX12_init_23 (by decide) ?_
  refine x_newa C dX12_init_24 (by simp) wd_103 (by decide) h (by decide) (fun k7 M8 h => ?_)
  refine x_putR (ci := 12) (j := 3) (k7 + 1) C dX12_init_26 lkF_X12_16 (fun r hr => by cases hr; exact Or.inr ⟨rfl, rfl, wd_1202⟩) (Or.inr ⟨_, rfl⟩) rfl h (fun M9 h => ?_)
  refine q_aload_n C dX12_init_29 rfl ?_
  refine x_sipush (v := (128 : Int32)) C dX12_init_30 (by decide) ?_
  refine x_newa C dX12_init_33 (by simp) wd_103 (by decide) h (by decide) (fun k10 M11 h => ?_)
  refine x_putR (ci := 12) (j := 4) (k10 + 1) C dX12_init_35 lkF_X12_20 (fun r hr => by cases hr; exact Or.inr ⟨rfl, rfl, wd_1203⟩) (Or.inr ⟨_, rfl⟩) rfl h (fun M12 h => ?_)
  refine q_aload_n C dX12_init_38 rfl ?_
  refine q_aload_n C dX12_init_39 rfl ?_
  refine x_getR (ci := 12) (j := 1) C dX12_init_40 lkF_X12_9 rfl h (fun c13 h => ?_)
  refine x_nn h (fun r14 h => ?_)
  refine x_putR (ci := 12) (j := 5) (r14 + 1) C dX12_init_43 lkF_X12_23 (fun r hr => by cases hr; exact Or.inl rfl) (Or.inr ⟨_, rfl⟩) rfl h (fun M15 h => ?_)
  refine q_aload_n C dX12_init_46 rfl ?_
  refine q_ldcS (i := 13) C dX12_init_47 rfl ?_
  refine x_putR (ci := 12) (j := 15) (30 + 1) C dX12_init_49 lkF_X12_28 (fun r hr => by cases hr; exact Or.inr ⟨rfl, rfl, wd_1214⟩) (Or.inl ⟨_, rfl⟩) rfl h (fun M16 h => ?_)
  refine q_aload_n C dX12_init_52 rfl ?_
  refine q_ldcS (i := 14) C dX12_init_53 rfl ?_
  refine x_putR (ci := 12) (j := 16) (32 + 1) C dX12_init_55 lkF_X12_34 (fun r hr => by cases hr; exact Or.inr ⟨rfl, rfl, wd_1215⟩) (Or.inl ⟨_, rfl⟩) rfl h (fun M17 h => ?_)
  refine q_aload_n C dX12_init_58 rfl ?_
  refine x_iconst (v := (3 : Int32)) C dX12_init_59 (by decide) ?_
  refine x_newa C dX12_init_60 (by simp) wd_103 (by decide) h (by decide) (fun k18 M19 h => ?_)
  refine x_putR (ci := 12) (j := 18) (k18 + 1) C dX12_init_62 lkF_X12_37 (fun r hr => by cases hr; exact Or.inr ⟨rfl, rfl, wd_1217⟩) (Or.inr ⟨_, rfl⟩) rfl h (fun M20 h => ?_)
  refine q_aload_n C dX12_init_65 rfl ?_
  refine x_iconst (v := (3 : Int32)) C dX12_init_66 (by decide) ?_
  refine x_newa C dX12_init_67 (by simp) wd_103 (by decide) h (by decide) (fun k21 M22 h => ?_)
  refine x_putR (ci := 12) (j := 19) (k21 + 1) C dX12_init_69 lkF_X12_40 (fun r hr => by cases hr; exact Or.inr ⟨rfl, rfl, wd_1218⟩) (Or.inr ⟨_, rfl⟩) rfl h (fun M23 h => ?_)
  refine q_aload_n C dX12_init_72 rfl ?_
  refine x_bipush (v := (15 : Int32)) C dX12_init_73 (by decide) ?_
  refine x_newa C dX12_init_75 (by simp) wd_103 (by decide) h (by decide) (fun k24 M25 h => ?_)
  refine x_putR (ci := 12) (j := 20) (k24 + 1) C dX12_init_77 lkF_X12_43 (fun r hr => by cases hr; exact Or.inr ⟨rfl, rfl, wd_1219⟩) (Or.inr ⟨_, rfl⟩) rfl h (fun M26 h => ?_)
  refine q_aload_n C dX12_init_80 rfl ?_
  refine x_bipush (v := (15 : Int32)) C dX12_init_81 (by decide) ?_
  refine x_newa C dX12_init_83 (by simp) wd_103 (by decide) h (by decide) (fun k27 M28 h => ?_)
  refine x_putR (ci := 12) (j := 21) (k27 + 1) C dX12_init_85 lkF_X12_46 (fun r hr => by cases hr; exact Or.inr ⟨rfl, rfl, wd_1220⟩) (Or.inr ⟨_, rfl⟩) rfl h (fun M29 h => ?_)
  refine q_aload_n C dX12_init_88 rfl ?_
  refine x_bipush (v := (24 : Int32)) C dX12_init_89 (by decide) ?_
  refine x_newa C dX12_init_91 (by simp) wd_103 (by decide) h (by decide) (fun k30 M31 h => ?_)
  refine x_putR (ci := 12) (j := 22) (k30 + 1) C dX12_init_93 lkF_X12_49 (fun r hr => by cases hr; exact Or.inr ⟨rfl, rfl, wd_1221⟩) (Or.inr ⟨_, rfl⟩) rfl h (fun M32 h => ?_)
  refine q_aload_n C dX12_init_96 rfl ?_
  refine x_bipush (v := (24 : Int32)) C dX12_init_97 (by decide) ?_
  refine x_newa C dX12_init_99 (by simp) wd_103 (by decide) h (by decide) (fun k33 M34 h => ?_)
  refine x_putR (ci := 12) (j := 23) (k33 + 1) C dX12_init_101 lkF_X12_52 (fun r hr => by cases hr; exact Or.inr ⟨rfl, rfl, wd_1222⟩) (Or.inr ⟨_, rfl⟩) rfl h (fun M35 h => ?_)
  refine q_aload_n C dX12_init_104 rfl ?_
  refine x_sipush (v := (240 : Int32)) C dX12_init_105 (by decide) ?_
  refine x_newa C dX12_init_108 (by simp) wd_103 (by decide) h (by decide) (fun k36 M37 h => ?_)
  refine x_putR (ci := 12) (j := 24) (k36 + 1) C dX12_init_110 lkF_X12_55 (fun r hr => by cases hr; exact Or.inr ⟨rfl, rfl, wd_1223⟩) (Or.inr ⟨_, rfl⟩) rfl h (fun M38 h => ?_)
  refine q_aload_n C dX12_init_113 rfl ?_
  refine x_iconst (v := (5 : Int32)) C dX12_init_114 (by decide) ?_
  refine x_newa C dX12_init_115 (by simp) wd_103 (by decide) h (by decide) (fun k39 M40 h => ?_)
  refine x_putR (ci := 12) (j := 25) (k39 + 1) C dX12_init_117 lkF_X12_58 (fun r hr => by cases hr; exact Or.inr ⟨rfl, rfl, wd_1224⟩) (Or.inr ⟨_, rfl⟩) rfl h (fun M41 h => ?_)
  refine q_aload_n C dX12_init_120 rfl ?_
  refine x_sipush (v := (217 : Int32)) C dX12_init_121 (by decide) ?_
  refine x_newa C dX12_init_124 (by simp) wd_103 (by decide) h (by decide) (fun k42 M43 h => ?_)
  refine x_putR (ci := 12) (j := 32) (k42 + 1) C dX12_init_126 lkF_X12_61 (fun r hr => by cases hr; exact Or.inr ⟨rfl, rfl, wd_1231⟩) (Or.inr ⟨_, rfl⟩) rfl h (fun M44 h => ?_)
  refine q_aload_n C dX12_init_129 rfl ?_
  refine x_sipush (v := (217 : Int32)) C dX12_init_130 (by decide) ?_
  refine x_newa C dX12_init_133 (by simp) wd_103 (by decide) h (by decide) (fun k45 M46 h => ?_)
  refine x_putR (ci := 12) (j := 33) (k45 + 1) C dX12_init_135 lkF_X12_64 (fun r hr => by cases hr; exact Or.inr ⟨rfl, rfl, wd_1232⟩) (Or.inr ⟨_, rfl⟩) rfl h (fun M47 h => ?_)
  refine q_aload_n C dX12_init_138 rfl ?_
  refine x_iconst (v := (-1 : Int32)) C dX12_init_139 (by decide) ?_
  refine x_putI (ci := 12) (j := 34) C dX12_init_140 lkF_X12_67 (fun r hr => by cases hr; rfl) rfl h (fun M48 h => ?_)
  refine q_aload_n C dX12_init_143 rfl ?_
  refine x_iconst (v := (1 : Int32)) C dX12_init_144 (by decide) ?_
  refine x_putI (ci := 12) (j := 35) C dX12_init_145 lkF_X12_71 (fun r hr => by cases hr; rfl) rfl h (fun M49 h => ?_)
  refine q_aload_n C dX12_init_148 rfl ?_
  refine x_bipush (v := (6 : Int32)) C dX12_init_149 (by decide) ?_
  refine x_newa C dX12_init_151 (by simp) wd_103 (by decide) h (by decide) (fun k50 M51 h => ?_)
  refine x_putR (ci := 12) (j := 36) (k50 + 1) C dX12_init_153 lkF_X12_74 (fun r hr => by cases hr; exact Or.inr ⟨rfl, rfl, wd_1235⟩) (Or.inr ⟨_, rfl⟩) rfl h (fun M52 h => ?_)
  refine q_aload_n C dX12_init_156 rfl ?_
  refine x_sipush (v := (8680 : Int32)) C dX12_init_157 (by decide) ?_
  refine x_newa C dX12_init_160 (by simp) wd_103 (by decide) h (by decide) (fun k53 M54 h => ?_)
  refine x_putR (ci := 12) (j := 41) (k53 + 1) C dX12_init_162 lkF_X12_77 (fun r hr => by cases hr; exact Or.inr ⟨rfl, rfl, wd_1240⟩) (Or.inr ⟨_, rfl⟩) rfl h (fun M55 h => ?_)
  refine q_aload_n C dX12_init_165 rfl ?_
  refine x_bipush (v := (50 : Int32)) C dX12_init_166 (by decide) ?_
  refine x_newa C dX12_init_168 (by simp) wd_103 (by decide) h (by decide) (fun k56 M57 h => ?_)
  refine x_putR (ci := 12) (j := 44) (k56 + 1) C dX12_init_170 lkF_X12_80 (fun r hr => by cases hr; exact Or.inr ⟨rfl, rfl, wd_1243⟩) (Or.inr ⟨_, rfl⟩) rfl h (fun M58 h => ?_)
  refine q_aload_n C dX12_init_173 rfl ?_
  refine x_bipush (v := (32 : Int32)) C dX12_init_174 (by decide) ?_
  refine x_newa C dX12_init_176 (by simp) wd_103 (by decide) h (by decide) (fun k59 M60 h => ?_)
  refine x_putR (ci := 12) (j := 46) (k59 + 1) C dX12_init_178 lkF_X12_83 (fun r hr => by cases hr; exact Or.inr ⟨rfl, rfl, wd_1245⟩) (Or.inr ⟨_, rfl⟩) rfl h (fun M61 h => ?_)
  refine q_aload_n C dX12_init_181 rfl ?_
  refine x_sipush (v := (185 : Int32)) C dX12_init_182 (by decide) ?_
  refine x_newa C dX12_init_185 (by simp) wd_103 (by decide) h (by decide) (fun k62 M63 h => ?_)
  refine x_putR (ci := 12) (j := 47) (k62 + 1) C dX12_init_187 lkF_X12_86 (fun r hr => by cases hr; exact Or.inr ⟨rfl, rfl, wd_1246⟩) (Or.inr ⟨_, rfl⟩) rfl h (fun M64 h => ?_)
  refine q_aload_n C dX12_init_190 rfl ?_
  refine x_sipush (v := (217 : Int32)) C dX12_init_191 (by decide) ?_
  refine x_newa C dX12_init_194 (by simp) wd_103 (by decide) h (by decide) (fun k65 M66 h => ?_)
  refine x_putR (ci := 12) (j := 48) (k65 + 1) C dX12_init_196 lkF_X12_89 (fun r hr => by cases hr; exact Or.inr ⟨rfl, rfl, wd_1247⟩) (Or.inr ⟨_, rfl⟩) rfl h (fun M67 h => ?_)
  exact q_vret C dX12_init_199 rfl (by decide) (by decide) (Option.some.inj h)
noncomputable def J_X12_bytesIn_25_5 (l0 : Int32) (l2 : Int32) (s0 : Int32) (s1 : Int32) (M : q_Mem) : Option ((Int32 × Int32) ⊕ (Int32)) := some (.inl ((s0 + s1), (l2 + (-8 : Int32))))
set_option maxRecDepth 100000 in
set_option maxHeartbeats 4000000 in
theorem jW_X12_bytesIn_25_5 {K : q_K} {Q : State → Prop} (C : q_C K yX12_bytesIn cX12_bytesIn 3 (Option.some Jvm.ClassFile.FieldType.int) 1 0 0) (l0 : Int32) (l2 : Int32) (s0 : Int32) (s1 : Int32) (M : q_Mem) {stp : (Int32 × Int32) ⊕ (Int32)} (h : J_X12_bytesIn_25_5 l0 l2 s0 s1 M = some stp) (kC : ∀ (l1 : Int32) (l2 : Int32), stp = .inl (l1, l2) → q_W K 3 Q 0 0 M 5 [some (.int l0), some (.int l1), some (.int l2)] []) (kE0 : ∀ (l1 : Int32), stp = .inr l1 → q_W K 3 Q 0 0 M 33 [none, some (.int l1), none] []) : q_W K 3 Q 0 0 M 25 [some (.int l0), none, some (.int l2)] [.int s1, .int s0] := by
  unfold J_X12_bytesIn_25_5 at h
  refine q_iadd C dX12_bytesIn_25 ?_
  refine q_istore_n (L' := [some (.int l0), some (.int (s0 + s1)), some (.int l2)]) C dX12_bytesIn_26 (by decide) rfl rfl ?_
  refine x_iinc (w := (-8 : Int32)) (L' := [some (.int l0), some (.int (s0 + s1)), some (.int (l2 + (-8 : Int32)))]) C dX12_bytesIn_27 rfl (by decide) (by decide) rfl rfl ?_
  refine q_goto (tgt := 5) C dX12_bytesIn_30 (by decide) ?_
  exact q_msk [true, true, true] (kC _ _ (Option.some.inj h).symm)
noncomputable def B_X12_bytesIn_5 (l0 : Int32) (l1 : Int32) (l2 : Int32) (M : q_Mem) : Option ((Int32 × Int32) ⊕ (Int32)) := (if l2 < 0 then some (.inr l1) else (if ((l0 >>> (l2 &&& 31)) &&& (255 : Int32)) = 0 then J_X12_bytesIn_25_5 l0 l2 l1 (0 : Int32) M else J_X12_bytesIn_25_5 l0 l2 l1 (1 : Int32) M))
set_option maxRecDepth 100000 in
set_option maxHeartbeats 4000000 in
theorem bW_X12_bytesIn_5 {K : q_K} {Q : State → Prop} (C : q_C K yX12_bytesIn cX12_bytesIn 3 (Option.some Jvm.ClassFile.FieldType.int) 1 0 0) (l0 : Int32) (l1 : Int32) (l2 : Int32) (M : q_Mem) {stp : (Int32 × Int32) ⊕ (Int32)} (h : B_X12_bytesIn_5 l0 l1 l2 M = some stp) (kC : ∀ (l1 : Int32) (l2 : Int32), stp = .inl (l1, l2) → q_W K 3 Q 0 0 M 5 [some (.int l0), some (.int l1), some (.int l2)] []) (kE0 : ∀ (l1 : Int32), stp = .inr l1 → q_W K 3 Q 0 0 M 33 [none, some (.int l1), none] []) : q_W K 3 Q 0 0 M 5 [some (.int l0), some (.int l1), some (.int l2)] [] := by
  unfold B_X12_bytesIn_5 at h
  refine q_iload_n C dX12_bytesIn_5 rfl ?_
  refine q_if_lt (tgt := 33) C dX12_bytesIn_6 (by decide) h (fun _ h => ?_) (fun _ h => ?_)
  · exact q_msk [false, true, false] (kE0 _ (Option.some.inj h).symm)
  · refine q_iload_n C dX12_bytesIn_9 rfl ?_
    refine q_iload_n C dX12_bytesIn_10 rfl ?_
    refine q_iload_n C dX12_bytesIn_11 rfl ?_
    refine q_ishr C dX12_bytesIn_12 ?_
    refine x_sipush (v := (255 : Int32)) C dX12_bytesIn_13 (by decide) ?_
    refine q_iand C dX12_bytesIn_16 ?_
    refine q_if_eq (tgt := 24) C dX12_bytesIn_17 (by decide) h (fun _ h => ?_) (fun _ h => ?_)
    · refine x_iconst (v := (0 : Int32)) C dX12_bytesIn_24 (by decide) ?_
      exact q_msk [true, false, true] (jW_X12_bytesIn_25_5 C l0 l2 l1 (0 : Int32) M h kC kE0)
    · refine x_iconst (v := (1 : Int32)) C dX12_bytesIn_20 (by decide) ?_
      refine q_goto (tgt := 25) C dX12_bytesIn_21 (by decide) ?_
      exact q_msk [true, false, true] (jW_X12_bytesIn_25_5 C l0 l2 l1 (1 : Int32) M h kC kE0)
set_option maxRecDepth 100000 in
set_option maxHeartbeats 4000000 in
theorem lW_X12_bytesIn_5 {K : q_K} {Q : State → Prop} (C : q_C K yX12_bytesIn cX12_bytesIn 3 (Option.some Jvm.ClassFile.FieldType.int) 1 0 0) (l0 : Int32) (M : q_Mem) (n : Nat) : ∀ (l1 : Int32) (l2 : Int32) (e : (Int32)), q_lp (fun s => B_X12_bytesIn_5 l0 s.1 s.2 M) n (l1, l2) = some e → (∀ (l1 : Int32), e = l1 → q_W K 3 Q 0 0 M 33 [none, some (.int l1), none] []) → q_W K 3 Q 0 0 M 5 [some (.int l0), some (.int l1), some (.int l2)] [] := by
  induction n with
  | zero => intro l1 l2 e h; cases h
  | succ n ih =>
    intro l1 l2 e h kE0
    obtain ⟨stp, e1, e2⟩ := q_bind h
    refine bW_X12_bytesIn_5 C l0 l1 l2 M e1 (fun a0 a1 hs => ?_) (fun b0 hs => ?_)
    · subst hs; exact ih _ _ _ e2 kE0
    · subst hs; exact kE0 _ (Option.some.inj e2).symm
noncomputable def F_X12_bytesIn (l0 : Int32) (M : q_Mem) : Option (Int32) := (q_lp (fun s => B_X12_bytesIn_5 l0 s.1 s.2 M) q_fu ((0 : Int32), (24 : Int32))).bind (fun e1 => match e1 with | w2 => some w2)
set_option maxRecDepth 100000 in
set_option maxHeartbeats 4000000 in
theorem c_X12_bytesIn (l : Launch) (G : q_G) (l0 : Int32) (M : q_Mem) {r : Int32} (h : F_X12_bytesIn l0 M = some r) : q_Met l G yX12_bytesIn cX12_bytesIn 3 (Option.some Jvm.ClassFile.FieldType.int) 1 0 0 [.int l0] M (some (.int r)) M := by
  unfold F_X12_bytesIn at h
  refine q_enter [some (.int l0), none, none] (by decide) (Nat.le_of_ble_eq_true rfl) rfl (fun K C => ?_)
  refine x_iconst (v := (0 : Int32)) C dX12_bytesIn_0 (by decide) ?_
  refine q_istore_n (L' := [some (.int l0), some (.int (0 : Int32)), none]) C dX12_bytesIn_1 (by decide) rfl rfl ?_
  refine x_bipush (v := (24 : Int32)) C dX12_bytesIn_2 (by decide) ?_
  refine q_istore_n (L' := [some (.int l0), some (.int (0 : Int32)), some (.int (24 : Int32))]) C dX12_bytesIn_4 (by decide) rfl rfl ?_
  obtain ⟨e1, he, h⟩ := q_bind h
  refine q_msk [true, true, true] (lW_X12_bytesIn_5 C l0 M q_fu _ _ _ he (fun w2 hs => ?_))
  · have hs := hs.symm
    subst hs
    refine q_iload_n C dX12_bytesIn_33 rfl ?_
    exact q_iret (res := (r, M)) C dX12_bytesIn_34 rfl (by decide) (by decide) (congrArg (fun z => (z, M)) (Option.some.inj h))
noncomputable def J_X12_put_43_3 (l0 : Nat) (l1 : Int32) (l2 : Int32) (M : q_Mem) : Option ((Int32 × q_Mem) ⊕ (q_Mem)) := some (.inl ((l2 + (-8 : Int32)), M))
set_option maxRecDepth 100000 in
set_option maxHeartbeats 4000000 in
theorem jW_X12_put_43_3 {K : q_K} {Q : State → Prop} (C : q_C K yX12_put cX12_put 3 (Option.none : Option Jvm.ClassFile.FieldType) 1 0 0) (l0 : Nat) (l1 : Int32) (l2 : Int32) (M : q_Mem) {stp : (Int32 × q_Mem) ⊕ (q_Mem)} (h : J_X12_put_43_3 l0 l1 l2 M = some stp) (kC : ∀ (l2 : Int32) (M : q_Mem), stp = .inl (l2, M) → q_W K 3 Q 0 0 M 3 [some (.ref l0), some (.int l1), some (.int l2)] []) (kE0 : ∀ (M : q_Mem), stp = .inr M → q_W K 3 Q 0 0 M 49 [none, none, none] []) : q_W K 3 Q 0 0 M 43 [some (.ref l0), some (.int l1), some (.int l2)] [] := by
  unfold J_X12_put_43_3 at h
  refine x_iinc (w := (-8 : Int32)) (L' := [some (.ref l0), some (.int l1), some (.int (l2 + (-8 : Int32)))]) C dX12_put_43 rfl (by decide) (by decide) rfl rfl ?_
  refine q_goto (tgt := 3) C dX12_put_46 (by decide) ?_
  exact q_msk [true, true, true] (kC _ _ (Option.some.inj h).symm)
noncomputable def B_X12_put_3 (l0 : Nat) (l1 : Int32) (l2 : Int32) (M : q_Mem) : Option ((Int32 × q_Mem) ⊕ (q_Mem)) := (if l2 < 0 then some (.inr M) else (if ((l1 >>> (l2 &&& 31)) &&& (255 : Int32)) = 0 then J_X12_put_43_3 l0 l1 l2 M else (q_gR M l0 12 1 (fun c1 => q_nn c1 (fun r2 => (q_gI M l0 12 6 (fun v3 => (q_tB M r2 v3 ((l1 >>> (l2 &&& 31)).toInt8.toInt32) (fun M4 => (q_gI M4 l0 12 6 (fun v5 => (q_pI M4 l0 12 6 (v5 + (1 : Int32)) (fun M6 => J_X12_put_43_3 l0 l1 l2 M6)))))))))))))
set_option maxRecDepth 100000 in
set_option maxHeartbeats 4000000 in
theorem bW_X12_put_3 {K : q_K} {Q : State → Prop} (C : q_C K yX12_put cX12_put 3 (Option.none : Option Jvm.ClassFile.FieldType) 1 0 0) (l0 : Nat) (l1 : Int32) (l2 : Int32) (M : q_Mem) {stp : (Int32 × q_Mem) ⊕ (q_Mem)} (h : B_X12_put_3 l0 l1 l2 M = some stp) (kC : ∀ (l2 : Int32) (M : q_Mem), stp = .inl (l2, M) → q_W K 3 Q 0 0 M 3 [some (.ref l0), some (.int l1), some (.int l2)] []) (kE0 : ∀ (M : q_Mem), stp = .inr M → q_W K 3 Q 0 0 M 49 [none, none, none] []) : q_W K 3 Q 0 0 M 3 [some (.ref l0), some (.int l1), some (.int l2)] [] := by
  unfold B_X12_put_3 at h
  refine q_iload_n C dX12_put_3 rfl ?_
  refine q_if_lt (tgt := 49) C dX12_put_4 (by decide) h (fun _ h => ?_) (fun _ h => ?_)
  · exact q_msk [false, false, false] (kE0 _ (Option.some.inj h).symm)
  · refine q_iload_n C dX12_put_7 rfl ?_
    refine q_iload_n C dX12_put_8 rfl ?_
    refine q_ishr C dX12_put_9 ?_
    refine x_sipush (v := (255 : Int32)) C dX12_put_10 (by decide) ?_
    refine q_iand C dX12_put_13 ?_
    refine q_if_ne (tgt := 20) C dX12_put_14 (by decide) h (fun _ h => ?_) (fun _ h => ?_)
    · refine q_goto (tgt := 43) C dX12_put_17 (by decide) ?_
      exact q_msk [true, true, true] (jW_X12_put_43_3 C l0 l1 l2 M h kC kE0)
    · refine q_aload_n C dX12_put_20 rfl ?_
      refine x_getR (ci := 12) (j := 1) C dX12_put_21 lkF_X12_9 rfl h (fun c1 h => ?_)
      refine x_nn h (fun r2 h => ?_)
      refine q_aload_n C dX12_put_24 rfl ?_
      refine x_getI (ci := 12) (j := 6) C dX12_put_25 lkF_X12_105 rfl h (fun v3 h => ?_)
      refine q_iload_n C dX12_put_28 rfl ?_
      refine q_iload_n C dX12_put_29 rfl ?_
      refine q_ishr C dX12_put_30 ?_
      refine q_i2b C dX12_put_31 ?_
      refine x_bast C dX12_put_32 h (fun M4 h => ?_)
      refine q_aload_n C dX12_put_33 rfl ?_
      refine q_dup C dX12_put_34 rfl ?_
      refine x_getI (ci := 12) (j := 6) C dX12_put_35 lkF_X12_105 rfl h (fun v5 h => ?_)
      refine x_iconst (v := (1 : Int32)) C dX12_put_38 (by decide) ?_
      refine q_iadd C dX12_put_39 ?_
      refine x_putI (ci := 12) (j := 6) C dX12_put_40 lkF_X12_105 (fun r hr => by cases hr; rfl) rfl h (fun M6 h => ?_)
      exact q_msk [true, true, true] (jW_X12_put_43_3 C l0 l1 l2 M6 h kC kE0)
set_option maxRecDepth 100000 in
set_option maxHeartbeats 4000000 in
theorem lW_X12_put_3 {K : q_K} {Q : State → Prop} (C : q_C K yX12_put cX12_put 3 (Option.none : Option Jvm.ClassFile.FieldType) 1 0 0) (l0 : Nat) (l1 : Int32) (n : Nat) : ∀ (l2 : Int32) (M : q_Mem) (e : (q_Mem)), q_lp (fun s => B_X12_put_3 l0 l1 s.1 s.2) n (l2, M) = some e → (∀ (M : q_Mem), e = M → q_W K 3 Q 0 0 M 49 [none, none, none] []) → q_W K 3 Q 0 0 M 3 [some (.ref l0), some (.int l1), some (.int l2)] [] := by
  induction n with
  | zero => intro l2 M e h; cases h
  | succ n ih =>
    intro l2 M e h kE0
    obtain ⟨stp, e1, e2⟩ := q_bind h
    refine bW_X12_put_3 C l0 l1 l2 M e1 (fun a0 a1 hs => ?_) (fun b0 hs => ?_)
    · subst hs; exact ih _ _ _ e2 kE0
    · subst hs; exact kE0 _ (Option.some.inj e2).symm
noncomputable def F_X12_put (l0 : Nat) (l1 : Int32) (M : q_Mem) : Option (Unit × q_Mem) := (q_lp (fun s => B_X12_put_3 l0 l1 s.1 s.2) q_fu ((24 : Int32), M)).bind (fun e7 => match e7 with | M8 => some ((), M8))
set_option maxRecDepth 100000 in
set_option maxHeartbeats 4000000 in
theorem c_X12_put (l : Launch) (G : q_G) (l0 : Nat) (l1 : Int32) (M : q_Mem) {r : Unit} {M' : q_Mem} (h : F_X12_put l0 l1 M = some (r, M')) : q_Met l G yX12_put cX12_put 3 (Option.none : Option Jvm.ClassFile.FieldType) 1 0 0 [.ref l0, .int l1] M none M' := by
  unfold F_X12_put at h
  refine q_enter [some (.ref l0), some (.int l1), none] (by decide) (Nat.le_of_ble_eq_true rfl) rfl (fun K C => ?_)
  refine x_bipush (v := (24 : Int32)) C dX12_put_0 (by decide) ?_
  refine q_istore_n (L' := [some (.ref l0), some (.int l1), some (.int (24 : Int32))]) C dX12_put_2 (by decide) rfl rfl ?_
  obtain ⟨e7, he, h⟩ := q_bind h
  refine q_msk [true, true, true] (lW_X12_put_3 C l0 l1 q_fu _ _ _ he (fun M8 hs => ?_))
  · have hs := hs.symm
    subst hs
    exact q_vret C dX12_put_49 rfl (by decide) (by decide) (Option.some.inj h)
noncomputable def F_X12_feed (l0 : Nat) (l1 : Int32) (l2 : Int32) (l3 : Int32) (l4 : Int32) (l5 : Int32) (M : q_Mem) : Option (Int32 × q_Mem) := (q_pI M l0 12 0 (0 : Int32) (fun M1 => (q_gI M1 l0 12 6 (fun v2 => ((F_X12_bytesIn l1 M1).bind (fun u3 => ((F_X12_bytesIn l2 M1).bind (fun u4 => ((F_X12_bytesIn l3 M1).bind (fun u5 => ((F_X12_bytesIn l4 M1).bind (fun u6 => ((F_X12_bytesIn l5 M1).bind (fun u7 => (if (240 : Int32) < (((((v2 + u3) + u4) + u5) + u6) + u7) then some ((-1 : Int32), M1) else (q_ob M1 l0 12 ((F_X12_put l0 l1 M1).bind (fun x => match x with | (_, M9) => (q_ob M9 l0 12 ((F_X12_put l0 l2 M9).bind (fun x => match x with | (_, M11) => (q_ob M11 l0 12 ((F_X12_put l0 l3 M11).bind (fun x => match x with | (_, M13) => (q_ob M13 l0 12 ((F_X12_put l0 l4 M13).bind (fun x => match x with | (_, M15) => (q_ob M15 l0 12 ((F_X12_put l0 l5 M15).bind (fun x => match x with | (_, M17) => (q_gI M17 l0 12 6 (fun v18 => some (v18, M17)))))))))))))))))))))))))))))))))
set_option maxRecDepth 100000 in
set_option maxHeartbeats 4000000 in
theorem c_X12_feed (l : Launch) (G : q_G) (l0 : Nat) (l1 : Int32) (l2 : Int32) (l3 : Int32) (l4 : Int32) (l5 : Int32) (M : q_Mem) {r : Int32} {M' : q_Mem} (h : F_X12_feed l0 l1 l2 l3 l4 l5 M = some (r, M')) : q_Met l G yX12_feed cX12_feed 6 (Option.some Jvm.ClassFile.FieldType.int) 2 0 0 [.ref l0, .int l1, .int l2, .int l3, .int l4, .int l5] M (some (.int r)) M' := by
  unfold F_X12_feed at h
  refine q_enter [some (.ref l0), some (.int l1), some (.int l2), some (.int l3), some (.int l4), some (.int l5)] (by decide) (Nat.le_of_ble_eq_true rfl) rfl (fun K C => ?_)
  refine q_aload_n C dX12_feed_0 rfl ?_
  refine x_iconst (v := (0 : Int32)) C dX12_feed_1 (by decide) ?_
  refine x_putI (ci := 12) (j := 0) C dX12_feed_2 lkF_X12_92 (fun r hr => by cases hr; rfl) rfl h (fun M1 h => ?_)
  refine q_aload_n C dX12_feed_5 rfl ?_
  refine x_getI (ci := 12) (j := 6) C dX12_feed_6 lkF_X12_105 rfl h (fun v2 h => ?_)
  refine q_iload_n C dX12_feed_9 rfl ?_
  obtain ⟨u3, e1, h⟩ := q_bind h
  refine x_callS0 C dX12_feed_10 lkM_X12_107 mS_X12_bytesIn (c_X12_bytesIn _ _ _ _ e1) rfl rfl (Nat.le_of_ble_eq_true rfl) (by decide) (by decide) ?_
  refine q_iadd C dX12_feed_13 ?_
  refine q_iload_n C dX12_feed_14 rfl ?_
  obtain ⟨u4, e1, h⟩ := q_bind h
  refine x_callS0 C dX12_feed_15 lkM_X12_107 mS_X12_bytesIn (c_X12_bytesIn _ _ _ _ e1) rfl rfl (Nat.le_of_ble_eq_true rfl) (by decide) (by decide) ?_
  refine q_iadd C dX12_feed_18 ?_
  refine q_iload_n C dX12_feed_19 rfl ?_
  obtain ⟨u5, e1, h⟩ := q_bind h
  refine x_callS0 C dX12_feed_20 lkM_X12_107 mS_X12_bytesIn (c_X12_bytesIn _ _ _ _ e1) rfl rfl (Nat.le_of_ble_eq_true rfl) (by decide) (by decide) ?_
  refine q_iadd C dX12_feed_23 ?_
  refine q_iload C dX12_feed_24 rfl ?_
  obtain ⟨u6, e1, h⟩ := q_bind h
  refine x_callS0 C dX12_feed_26 lkM_X12_107 mS_X12_bytesIn (c_X12_bytesIn _ _ _ _ e1) rfl rfl (Nat.le_of_ble_eq_true rfl) (by decide) (by decide) ?_
  refine q_iadd C dX12_feed_29 ?_
  refine q_iload C dX12_feed_30 rfl ?_
  obtain ⟨u7, e1, h⟩ := q_bind h
  refine x_callS0 C dX12_feed_32 lkM_X12_107 mS_X12_bytesIn (c_X12_bytesIn _ _ _ _ e1) rfl rfl (Nat.le_of_ble_eq_true rfl) (by decide) (by decide) ?_
  refine q_iadd C dX12_feed_35 ?_
  refine x_sipush (v := (240 : Int32)) C dX12_feed_36 (by decide) ?_
  refine q_icmp_le (tgt := 44) C dX12_feed_39 (by decide) h (fun _ h => ?_) (fun _ h => ?_)
  · refine x_iconst (v := (-1 : Int32)) C dX12_feed_42 (by decide) ?_
    exact q_iret C dX12_feed_43 rfl (by decide) (by decide) (Option.some.inj h)
  · refine q_aload_n C dX12_feed_44 rfl ?_
    refine q_iload_n C dX12_feed_45 rfl ?_
    obtain ⟨hk, h⟩ := q_obE h
    obtain ⟨⟨_, M9⟩, e1, h⟩ := q_bind h
    refine x_callVv0 C dX12_feed_46 lkM_X12_111 mV_X12_put ⟨_, rfl, rfl⟩ hk (c_X12_put _ _ _ _ _ e1) rfl rfl (Nat.le_of_ble_eq_true rfl) (by decide) (by decide) ?_
    refine q_aload_n C dX12_feed_49 rfl ?_
    refine q_iload_n C dX12_feed_50 rfl ?_
    obtain ⟨hk, h⟩ := q_obE h
    obtain ⟨⟨_, M11⟩, e1, h⟩ := q_bind h
    refine x_callVv0 C dX12_feed_51 lkM_X12_111 mV_X12_put ⟨_, rfl, rfl⟩ hk (c_X12_put _ _ _ _ _ e1) rfl rfl (Nat.le_of_ble_eq_true rfl) (by decide) (by decide) ?_
    refine q_aload_n C dX12_feed_54 rfl ?_
    refine q_iload_n C dX12_feed_55 rfl ?_
    obtain ⟨hk, h⟩ := q_obE h
    obtain ⟨⟨_, M13⟩, e1, h⟩ := q_bind h
    refine x_callVv0 C dX12_feed_56 lkM_X12_111 mV_X12_put ⟨_, rfl, rfl⟩ hk (c_X12_put _ _ _ _ _ e1) rfl rfl (Nat.le_of_ble_eq_true rfl) (by decide) (by decide) ?_
    refine q_aload_n C dX12_feed_59 rfl ?_
    refine q_iload C dX12_feed_60 rfl ?_
    obtain ⟨hk, h⟩ := q_obE h
    obtain ⟨⟨_, M15⟩, e1, h⟩ := q_bind h
    refine x_callVv0 C dX12_feed_62 lkM_X12_111 mV_X12_put ⟨_, rfl, rfl⟩ hk (c_X12_put _ _ _ _ _ e1) rfl rfl (Nat.le_of_ble_eq_true rfl) (by decide) (by decide) ?_
    refine q_aload_n C dX12_feed_65 rfl ?_
    refine q_iload C dX12_feed_66 rfl ?_
    obtain ⟨hk, h⟩ := q_obE h
    obtain ⟨⟨_, M17⟩, e1, h⟩ := q_bind h
    refine x_callVv0 C dX12_feed_68 lkM_X12_111 mV_X12_put ⟨_, rfl, rfl⟩ hk (c_X12_put _ _ _ _ _ e1) rfl rfl (Nat.le_of_ble_eq_true rfl) (by decide) (by decide) ?_
    refine q_aload_n C dX12_feed_71 rfl ?_
    refine x_getI (ci := 12) (j := 6) C dX12_feed_72 lkF_X12_105 rfl h (fun v18 h => ?_)
    exact q_iret C dX12_feed_75 rfl (by decide) (by decide) (Option.some.inj h)
noncomputable def F_X12_end (l0 : Nat) (l1 : Int32) (M : q_Mem) : Option (Int32 × q_Mem) := (q_pI M l0 12 0 (0 : Int32) (fun M1 => (if l1 < 0 then q_rz (0 : Int32) M1 else (q_gI M1 l0 12 6 (fun v2 => (if v2 < l1 then q_rz (0 : Int32) M1 else (q_pI M1 l0 12 6 l1 (fun M3 => q_rz (1 : Int32) M3))))))))
set_option maxRecDepth 100000 in
set_option maxHeartbeats 4000000 in
theorem c_X12_end (l : Launch) (G : q_G) (l0 : Nat) (l1 : Int32) (M : q_Mem) {r : Int32} {M' : q_Mem} (h : F_X12_end l0 l1 M = some (r, M')) : q_Met l G yX12_end cX12_end 2 (Option.some Jvm.ClassFile.FieldType.boolean) 1 0 0 [.ref l0, .int l1] M (some (.int r)) M' := by
  unfold F_X12_end at h
  refine q_enter [some (.ref l0), some (.int l1)] (by decide) (Nat.le_of_ble_eq_true rfl) rfl (fun K C => ?_)
  refine q_aload_n C dX12_end_0 rfl ?_
  refine x_iconst (v := (0 : Int32)) C dX12_end_1 (by decide) ?_
  refine x_putI (ci := 12) (j := 0) C dX12_end_2 lkF_X12_92 (fun r hr => by cases hr; rfl) rfl h (fun M1 h => ?_)
  refine q_iload_n C dX12_end_5 rfl ?_
  refine q_if_lt (tgt := 17) C dX12_end_6 (by decide) h (fun _ h => ?_) (fun _ h => ?_)
  · refine x_iconst (v := (0 : Int32)) C dX12_end_17 (by decide) ?_
    exact q_zret C dX12_end_18 rfl (by decide) (by decide) (q_rzE h).1 (q_rzE h).2
  · refine q_iload_n C dX12_end_9 rfl ?_
    refine q_aload_n C dX12_end_10 rfl ?_
    refine x_getI (ci := 12) (j := 6) C dX12_end_11 lkF_X12_105 rfl h (fun v2 h => ?_)
    refine q_icmp_le (tgt := 19) C dX12_end_14 (by decide) h (fun _ h => ?_) (fun _ h => ?_)
    · refine x_iconst (v := (0 : Int32)) C dX12_end_17 (by decide) ?_
      exact q_zret C dX12_end_18 rfl (by decide) (by decide) (q_rzE h).1 (q_rzE h).2
    · refine q_aload_n C dX12_end_19 rfl ?_
      refine q_iload_n C dX12_end_20 rfl ?_
      refine x_putI (ci := 12) (j := 6) C dX12_end_21 lkF_X12_105 (fun r hr => by cases hr; rfl) rfl h (fun M3 h => ?_)
      refine x_iconst (v := (1 : Int32)) C dX12_end_24 (by decide) ?_
      exact q_zret C dX12_end_25 rfl (by decide) (by decide) (q_rzE h).1 (q_rzE h).2
noncomputable def F_X12_isIn (l0 : Int64) (l2 : Int64) (l4 : Int64) (M : q_Mem) : Option (Int32) := (if (lg_cmp l0 l2) < 0 then q_rq (0 : Int32) else (if 0 < (lg_cmp l0 l4) then q_rq (0 : Int32) else q_rq (1 : Int32)))
set_option maxRecDepth 100000 in
set_option maxHeartbeats 4000000 in
theorem c_X12_isIn (l : Launch) (G : q_G) (l0 : Int64) (l2 : Int64) (l4 : Int64) (M : q_Mem) {r : Int32} (h : F_X12_isIn l0 l2 l4 M = some r) : q_Met l G yX12_isIn cX12_isIn 6 (Option.some Jvm.ClassFile.FieldType.boolean) 1 0 0 [.long l0, .long l2, .long l4] M (some (.int r)) M := by
  unfold F_X12_isIn at h
  refine q_enter [some (.long l0), none, some (.long l2), none, some (.long l4), none] (by decide) (Nat.le_of_ble_eq_true rfl) rfl (fun K C => ?_)
  refine q_lload_n C dX12_isIn_0 rfl ?_
  refine q_lload_n C dX12_isIn_1 rfl ?_
  refine q_lcmp C dX12_isIn_2 ?_
  refine q_if_lt (tgt := 17) C dX12_isIn_3 (by decide) h (fun _ h => ?_) (fun _ h => ?_)
  · refine x_iconst (v := (0 : Int32)) C dX12_isIn_17 (by decide) ?_
    exact q_zret (res := (r, M)) C dX12_isIn_18 rfl (by decide) (by decide) (q_rqE h).1 (congrArg (fun z => (z, M)) (q_rqE h).2)
  · refine q_lload_n C dX12_isIn_6 rfl ?_
    refine q_lload C dX12_isIn_7 rfl ?_
    refine q_lcmp C dX12_isIn_9 ?_
    refine q_if_gt (tgt := 17) C dX12_isIn_10 (by decide) h (fun _ h => ?_) (fun _ h => ?_)
    · refine x_iconst (v := (0 : Int32)) C dX12_isIn_17 (by decide) ?_
      exact q_zret (res := (r, M)) C dX12_isIn_18 rfl (by decide) (by decide) (q_rqE h).1 (congrArg (fun z => (z, M)) (q_rqE h).2)
    · refine x_iconst (v := (1 : Int32)) C dX12_isIn_13 (by decide) ?_
      refine q_goto (tgt := 18) C dX12_isIn_14 (by decide) ?_
      exact q_zret (res := (r, M)) C dX12_isIn_18 rfl (by decide) (by decide) (q_rqE h).1 (congrArg (fun z => (z, M)) (q_rqE h).2)
noncomputable def F_X12_starts (l0 : Nat) (l1 : Nat) (l2 : Int32) (l3 : Int32) (M : q_Mem) : Option (Unit × q_Mem) := (q_pR M l0 12 5 (l1 + 1) (fun M1 => (q_pI M1 l0 12 8 l2 (fun M2 => (q_pI M2 l0 12 9 l3 (fun M3 => (q_pI M3 l0 12 10 (0 : Int32) (fun M4 => (q_pI M4 l0 12 11 (-1 : Int32) (fun M5 => some ((), M5)))))))))))
set_option maxRecDepth 100000 in
set_option maxHeartbeats 4000000 in
theorem c_X12_starts (l : Launch) (G : q_G) (l0 : Nat) (l1 : Nat) (l2 : Int32) (l3 : Int32) (M : q_Mem) {r : Unit} {M' : q_Mem} (h : F_X12_starts l0 l1 l2 l3 M = some (r, M')) : q_Met l G yX12_starts cX12_starts 4 (Option.none : Option Jvm.ClassFile.FieldType) 1 0 0 [.ref l0, .ref l1, .int l2, .int l3] M none M' := by
  unfold F_X12_starts at h
  refine q_enter [some (.ref l0), some (.ref l1), some (.int l2), some (.int l3)] (by decide) (Nat.le_of_ble_eq_true rfl) rfl (fun K C => ?_)
  refine q_aload_n C dX12_starts_0 rfl ?_
  refine q_aload_n C dX12_starts_1 rfl ?_
  refine x_putR (ci := 12) (j := 5) (l1 + 1) C dX12_starts_2 lkF_X12_23 (fun r hr => by cases hr; exact Or.inl rfl) (Or.inr ⟨_, rfl⟩) rfl h (fun M1 h => ?_)
  refine q_aload_n C dX12_starts_5 rfl ?_
  refine q_iload_n C dX12_starts_6 rfl ?_
  refine x_putI (ci := 12) (j := 8) C dX12_starts_7 lkF_X12_121 (fun r hr => by cases hr; rfl) rfl h (fun M2 h => ?_)
  refine q_aload_n C dX12_starts_10 rfl ?_
  refine q_iload_n C dX12_starts_11 rfl ?_
  refine x_putI (ci := 12) (j := 9) C dX12_starts_12 lkF_X12_118 (fun r hr => by cases hr; rfl) rfl h (fun M3 h => ?_)
  refine q_aload_n C dX12_starts_15 rfl ?_
  refine x_iconst (v := (0 : Int32)) C dX12_starts_16 (by decide) ?_
  refine x_putI (ci := 12) (j := 10) C dX12_starts_17 lkF_X12_115 (fun r hr => by cases hr; rfl) rfl h (fun M4 h => ?_)
  refine q_aload_n C dX12_starts_20 rfl ?_
  refine x_iconst (v := (-1 : Int32)) C dX12_starts_21 (by decide) ?_
  refine x_putI (ci := 12) (j := 11) C dX12_starts_22 lkF_X12_124 (fun r hr => by cases hr; rfl) rfl h (fun M5 h => ?_)
  exact q_vret C dX12_starts_25 rfl (by decide) (by decide) (Option.some.inj h)
noncomputable def F_X12_usual (l0 : Int32) (l1 : Int32) (M : q_Mem) : Option (Int32) := (if l0 = (115 : Int32) then (if l1 = 0 then some (1 : Int32) else (if l1 = (1 : Int32) then some (3 : Int32) else some (20 : Int32))) else (if l0 = (100 : Int32) then (if l1 = 0 then some (12 : Int32) else (if l1 = (1 : Int32) then some (2 : Int32) else some (0 : Int32))) else (if l1 = (1 : Int32) then some (7 : Int32) else (if l1 = (3 : Int32) then some (3 : Int32) else some (0 : Int32)))))
set_option maxRecDepth 100000 in
set_option maxHeartbeats 4000000 in
theorem c_X12_usual (l : Launch) (G : q_G) (l0 : Int32) (l1 : Int32) (M : q_Mem) {r : Int32} (h : F_X12_usual l0 l1 M = some r) : q_Met l G yX12_usual cX12_usual 2 (Option.some Jvm.ClassFile.FieldType.int) 1 0 0 [.int l0, .int l1] M (some (.int r)) M := by
  unfold F_X12_usual at h
  refine q_enter [some (.int l0), some (.int l1)] (by decide) (Nat.le_of_ble_eq_true rfl) rfl (fun K C => ?_)
  refine q_iload_n C dX12_usual_0 rfl ?_
  refine x_bipush (v := (115 : Int32)) C dX12_usual_1 (by decide) ?_
  refine q_icmp_ne (tgt := 26) C dX12_usual_3 (by decide) h (fun _ h => ?_) (fun _ h => ?_)
  · refine q_iload_n C dX12_usual_6 rfl ?_
    refine q_if_ne (tgt := 14) C dX12_usual_7 (by decide) h (fun _ h => ?_) (fun _ h => ?_)
    · refine x_iconst (v := (1 : Int32)) C dX12_usual_10 (by decide) ?_
      refine q_goto (tgt := 25) C dX12_usual_11 (by decide) ?_
      exact q_iret (res := (r, M)) C dX12_usual_25 rfl (by decide) (by decide) (congrArg (fun z => (z, M)) (Option.some.inj h))
    · refine q_iload_n C dX12_usual_14 rfl ?_
      refine x_iconst (v := (1 : Int32)) C dX12_usual_15 (by decide) ?_
      refine q_icmp_ne (tgt := 23) C dX12_usual_16 (by decide) h (fun _ h => ?_) (fun _ h => ?_)
      · refine x_iconst (v := (3 : Int32)) C dX12_usual_19 (by decide) ?_
        refine q_goto (tgt := 25) C dX12_usual_20 (by decide) ?_
        exact q_iret (res := (r, M)) C dX12_usual_25 rfl (by decide) (by decide) (congrArg (fun z => (z, M)) (Option.some.inj h))
      · refine x_bipush (v := (20 : Int32)) C dX12_usual_23 (by decide) ?_
        exact q_iret (res := (r, M)) C dX12_usual_25 rfl (by decide) (by decide) (congrArg (fun z => (z, M)) (Option.some.inj h))
  · refine q_iload_n C dX12_usual_26 rfl ?_
    refine x_bipush (v := (100 : Int32)) C dX12_usual_27 (by decide) ?_
    refine q_icmp_ne (tgt := 52) C dX12_usual_29 (by decide) h (fun _ h => ?_) (fun _ h => ?_)
    · refine q_iload_n C dX12_usual_32 rfl ?_
      refine q_if_ne (tgt := 41) C dX12_usual_33 (by decide) h (fun _ h => ?_) (fun _ h => ?_)
      · refine x_bipush (v := (12 : Int32)) C dX12_usual_36 (by decide) ?_
        refine q_goto (tgt := 51) C dX12_usual_38 (by decide) ?_
        exact q_iret (res := (r, M)) C dX12_usual_51 rfl (by decide) (by decide) (congrArg (fun z => (z, M)) (Option.some.inj h))
      · refine q_iload_n C dX12_usual_41 rfl ?_
        refine x_iconst (v := (1 : Int32)) C dX12_usual_42 (by decide) ?_
        refine q_icmp_ne (tgt := 50) C dX12_usual_43 (by decide) h (fun _ h => ?_) (fun _ h => ?_)
        · refine x_iconst (v := (2 : Int32)) C dX12_usual_46 (by decide) ?_
          refine q_goto (tgt := 51) C dX12_usual_47 (by decide) ?_
          exact q_iret (res := (r, M)) C dX12_usual_51 rfl (by decide) (by decide) (congrArg (fun z => (z, M)) (Option.some.inj h))
        · refine x_iconst (v := (0 : Int32)) C dX12_usual_50 (by decide) ?_
          exact q_iret (res := (r, M)) C dX12_usual_51 rfl (by decide) (by decide) (congrArg (fun z => (z, M)) (Option.some.inj h))
    · refine q_iload_n C dX12_usual_52 rfl ?_
      refine x_iconst (v := (1 : Int32)) C dX12_usual_53 (by decide) ?_
      refine q_icmp_ne (tgt := 62) C dX12_usual_54 (by decide) h (fun _ h => ?_) (fun _ h => ?_)
      · refine x_bipush (v := (7 : Int32)) C dX12_usual_57 (by decide) ?_
        refine q_goto (tgt := 72) C dX12_usual_59 (by decide) ?_
        exact q_iret (res := (r, M)) C dX12_usual_72 rfl (by decide) (by decide) (congrArg (fun z => (z, M)) (Option.some.inj h))
      · refine q_iload_n C dX12_usual_62 rfl ?_
        refine x_iconst (v := (3 : Int32)) C dX12_usual_63 (by decide) ?_
        refine q_icmp_ne (tgt := 71) C dX12_usual_64 (by decide) h (fun _ h => ?_) (fun _ h => ?_)
        · refine x_iconst (v := (3 : Int32)) C dX12_usual_67 (by decide) ?_
          refine q_goto (tgt := 72) C dX12_usual_68 (by decide) ?_
          exact q_iret (res := (r, M)) C dX12_usual_72 rfl (by decide) (by decide) (congrArg (fun z => (z, M)) (Option.some.inj h))
        · refine x_iconst (v := (0 : Int32)) C dX12_usual_71 (by decide) ?_
          exact q_iret (res := (r, M)) C dX12_usual_72 rfl (by decide) (by decide) (congrArg (fun z => (z, M)) (Option.some.inj h))
noncomputable def B_X12_look_0 (l0 : Nat) (M : q_Mem) : Option ((q_Mem) ⊕ (q_Mem)) := (q_gI M l0 12 10 (fun v1 => (q_gI M l0 12 9 (fun v2 => (if v1 < v2 then (q_gR M l0 12 5 (fun c3 => q_nn c3 (fun r4 => (q_gI M l0 12 8 (fun v5 => (q_gI M l0 12 10 (fun v6 => (q_lI M 1 r4 (v5 + v6) (fun v7 => (if v7 = (32 : Int32) then (q_gI M l0 12 10 (fun v8 => (q_pI M l0 12 10 (v8 + (1 : Int32)) (fun M9 => some (.inl M9))))) else some (.inr M))))))))))) else some (.inr M))))))
set_option maxRecDepth 100000 in
set_option maxHeartbeats 4000000 in
theorem bW_X12_look_0 {K : q_K} {Q : State → Prop} (C : q_C K yX12_look cX12_look 1 (Option.some Jvm.ClassFile.FieldType.int) 1 0 0) (l0 : Nat) (M : q_Mem) {stp : (q_Mem) ⊕ (q_Mem)} (h : B_X12_look_0 l0 M = some stp) (kC : ∀ (M : q_Mem), stp = .inl M → q_W K 1 Q 0 0 M 0 [some (.ref l0)] []) (kE0 : ∀ (M : q_Mem), stp = .inr M → q_W K 1 Q 0 0 M 43 [some (.ref l0)] []) : q_W K 1 Q 0 0 M 0 [some (.ref l0)] [] := by
  unfold B_X12_look_0 at h
  refine q_aload_n C dX12_look_0 rfl ?_
  refine x_getI (ci := 12) (j := 10) C dX12_look_1 lkF_X12_115 rfl h (fun v1 h => ?_)
  refine q_aload_n C dX12_look_4 rfl ?_
  refine x_getI (ci := 12) (j := 9) C dX12_look_5 lkF_X12_118 rfl h (fun v2 h => ?_)
  refine q_icmp_ge (tgt := 43) C dX12_look_8 (by decide) h (fun _ h => ?_) (fun _ h => ?_)
  · refine q_aload_n C dX12_look_11 rfl ?_
    refine x_getR (ci := 12) (j := 5) C dX12_look_12 lkF_X12_23 rfl h (fun c3 h => ?_)
    refine x_nn h (fun r4 h => ?_)
    refine q_aload_n C dX12_look_15 rfl ?_
    refine x_getI (ci := 12) (j := 8) C dX12_look_16 lkF_X12_121 rfl h (fun v5 h => ?_)
    refine q_aload_n C dX12_look_19 rfl ?_
    refine x_getI (ci := 12) (j := 10) C dX12_look_20 lkF_X12_115 rfl h (fun v6 h => ?_)
    refine q_iadd C dX12_look_23 ?_
    refine x_bald C dX12_look_24 h (fun v7 h => ?_)
    refine x_bipush (v := (32 : Int32)) C dX12_look_25 (by decide) ?_
    refine q_icmp_ne (tgt := 43) C dX12_look_27 (by decide) h (fun _ h => ?_) (fun _ h => ?_)
    · refine q_aload_n C dX12_look_30 rfl ?_
      refine q_dup C dX12_look_31 rfl ?_
      refine x_getI (ci := 12) (j := 10) C dX12_look_32 lkF_X12_115 rfl h (fun v8 h => ?_)
      refine x_iconst (v := (1 : Int32)) C dX12_look_35 (by decide) ?_
      refine q_iadd C dX12_look_36 ?_
      refine x_putI (ci := 12) (j := 10) C dX12_look_37 lkF_X12_115 (fun r hr => by cases hr; rfl) rfl h (fun M9 h => ?_)
      refine q_goto (tgt := 0) C dX12_look_40 (by decide) ?_
      exact q_msk [true] (kC _ (Option.some.inj h).symm)
    · exact q_msk [true] (kE0 _ (Option.some.inj h).symm)
  · exact q_msk [true] (kE0 _ (Option.some.inj h).symm)
set_option maxRecDepth 100000 in
set_option maxHeartbeats 4000000 in
theorem lW_X12_look_0 {K : q_K} {Q : State → Prop} (C : q_C K yX12_look cX12_look 1 (Option.some Jvm.ClassFile.FieldType.int) 1 0 0) (l0 : Nat) (n : Nat) : ∀ (M : q_Mem) (e : (q_Mem)), q_lp (fun s => B_X12_look_0 l0 s) n M = some e → (∀ (M : q_Mem), e = M → q_W K 1 Q 0 0 M 43 [some (.ref l0)] []) → q_W K 1 Q 0 0 M 0 [some (.ref l0)] [] := by
  induction n with
  | zero => intro M e h; cases h
  | succ n ih =>
    intro M e h kE0
    obtain ⟨stp, e1, e2⟩ := q_bind h
    refine bW_X12_look_0 C l0 M e1 (fun a0 hs => ?_) (fun b0 hs => ?_)
    · subst hs; exact ih _ _ e2 kE0
    · subst hs; exact kE0 _ (Option.some.inj e2).symm
noncomputable def F_X12_look (l0 : Nat) (M : q_Mem) : Option (Int32 × q_Mem) := (q_lp (fun s => B_X12_look_0 l0 s) q_fu M).bind (fun e10 => match e10 with | M11 => (q_gI M11 l0 12 10 (fun v12 => (q_gI M11 l0 12 9 (fun v13 => (if v12 < v13 then (q_gR M11 l0 12 5 (fun c14 => q_nn c14 (fun r15 => (q_gI M11 l0 12 8 (fun v16 => (q_gI M11 l0 12 10 (fun v17 => (q_lI M11 1 r15 (v16 + v17) (fun v18 => some ((v18 &&& (255 : Int32)), M11)))))))))) else some ((-1 : Int32), M11)))))))
set_option maxRecDepth 100000 in
set_option maxHeartbeats 4000000 in
theorem c_X12_look (l : Launch) (G : q_G) (l0 : Nat) (M : q_Mem) {r : Int32} {M' : q_Mem} (h : F_X12_look l0 M = some (r, M')) : q_Met l G yX12_look cX12_look 1 (Option.some Jvm.ClassFile.FieldType.int) 1 0 0 [.ref l0] M (some (.int r)) M' := by
  unfold F_X12_look at h
  refine q_enter [some (.ref l0)] (by decide) (Nat.le_of_ble_eq_true rfl) rfl (fun K C => ?_)
  obtain ⟨e10, he, h⟩ := q_bind h
  refine q_msk [true] (lW_X12_look_0 C l0 q_fu _ _ he (fun M11 hs => ?_))
  · have hs := hs.symm
    subst hs
    refine q_aload_n C dX12_look_43 rfl ?_
    refine x_getI (ci := 12) (j := 10) C dX12_look_44 lkF_X12_115 rfl h (fun v12 h => ?_)
    refine q_aload_n C dX12_look_47 rfl ?_
    refine x_getI (ci := 12) (j := 9) C dX12_look_48 lkF_X12_118 rfl h (fun v13 h => ?_)
    refine q_icmp_ge (tgt := 75) C dX12_look_51 (by decide) h (fun _ h => ?_) (fun _ h => ?_)
    · refine q_aload_n C dX12_look_54 rfl ?_
      refine x_getR (ci := 12) (j := 5) C dX12_look_55 lkF_X12_23 rfl h (fun c14 h => ?_)
      refine x_nn h (fun r15 h => ?_)
      refine q_aload_n C dX12_look_58 rfl ?_
      refine x_getI (ci := 12) (j := 8) C dX12_look_59 lkF_X12_121 rfl h (fun v16 h => ?_)
      refine q_aload_n C dX12_look_62 rfl ?_
      refine x_getI (ci := 12) (j := 10) C dX12_look_63 lkF_X12_115 rfl h (fun v17 h => ?_)
      refine q_iadd C dX12_look_66 ?_
      refine x_bald C dX12_look_67 h (fun v18 h => ?_)
      refine x_sipush (v := (255 : Int32)) C dX12_look_68 (by decide) ?_
      refine q_iand C dX12_look_71 ?_
      refine q_goto (tgt := 76) C dX12_look_72 (by decide) ?_
      exact q_iret C dX12_look_76 rfl (by decide) (by decide) (Option.some.inj h)
    · refine x_iconst (v := (-1 : Int32)) C dX12_look_75 (by decide) ?_
      exact q_iret C dX12_look_76 rfl (by decide) (by decide) (Option.some.inj h)
noncomputable def F_X12_fails (l0 : Nat) (M : q_Mem) : Option (Int32 × q_Mem) := (q_gI M l0 12 11 (fun v1 => (if v1 = (-1 : Int32) then (q_gI M l0 12 10 (fun v2 => (q_pI M l0 12 11 v2 (fun M3 => q_rz (0 : Int32) M3)))) else q_rz (0 : Int32) M)))
set_option maxRecDepth 100000 in
set_option maxHeartbeats 4000000 in
theorem c_X12_fails (l : Launch) (G : q_G) (l0 : Nat) (M : q_Mem) {r : Int32} {M' : q_Mem} (h : F_X12_fails l0 M = some (r, M')) : q_Met l G yX12_fails cX12_fails 1 (Option.some Jvm.ClassFile.FieldType.boolean) 1 0 0 [.ref l0] M (some (.int r)) M' := by
  unfold F_X12_fails at h
  refine q_enter [some (.ref l0)] (by decide) (Nat.le_of_ble_eq_true rfl) rfl (fun K C => ?_)
  refine q_aload_n C dX12_fails_0 rfl ?_
  refine x_getI (ci := 12) (j := 11) C dX12_fails_1 lkF_X12_124 rfl h (fun v1 h => ?_)
  refine x_iconst (v := (-1 : Int32)) C dX12_fails_4 (by decide) ?_
  refine q_icmp_ne (tgt := 16) C dX12_fails_5 (by decide) h (fun _ h => ?_) (fun _ h => ?_)
  · refine q_aload_n C dX12_fails_8 rfl ?_
    refine q_aload_n C dX12_fails_9 rfl ?_
    refine x_getI (ci := 12) (j := 10) C dX12_fails_10 lkF_X12_115 rfl h (fun v2 h => ?_)
    refine x_putI (ci := 12) (j := 11) C dX12_fails_13 lkF_X12_124 (fun r hr => by cases hr; rfl) rfl h (fun M3 h => ?_)
    refine x_iconst (v := (0 : Int32)) C dX12_fails_16 (by decide) ?_
    exact q_zret C dX12_fails_17 rfl (by decide) (by decide) (q_rzE h).1 (q_rzE h).2
  · refine x_iconst (v := (0 : Int32)) C dX12_fails_16 (by decide) ?_
    exact q_zret C dX12_fails_17 rfl (by decide) (by decide) (q_rzE h).1 (q_rzE h).2
noncomputable def B_X12_spotOf_2 (l0 : Nat) (l1 : Int32) (l2 : Int32) (M : q_Mem) : Option ((Int32 × q_Mem) ⊕ ((Int32 × q_Mem) ⊕ (q_Mem))) := (q_ob M l0 14 ((F_J0_length_8abf5 l0 M).bind (fun u1 => (if l2 < u1 then (q_ob M l0 14 ((F_J0_charAt_5068e l0 l2 M).bind (fun x => match x with | (u2, M3) => (if u2 = l1 then some (.inr (.inl (l2, M3))) else some (.inl ((l2 + (1 : Int32)), M3)))))) else some (.inr (.inr M))))))
set_option maxRecDepth 100000 in
set_option maxHeartbeats 4000000 in
theorem bW_X12_spotOf_2 {K : q_K} {Q : State → Prop} (C : q_C K yX12_spotOf cX12_spotOf 3 (Option.some Jvm.ClassFile.FieldType.int) 5 0 0) (l0 : Nat) (l1 : Int32) (l2 : Int32) (M : q_Mem) {stp : (Int32 × q_Mem) ⊕ ((Int32 × q_Mem) ⊕ (q_Mem))} (h : B_X12_spotOf_2 l0 l1 l2 M = some stp) (kC : ∀ (l2 : Int32) (M : q_Mem), stp = .inl (l2, M) → q_W K 3 Q 0 0 M 2 [some (.ref l0), some (.int l1), some (.int l2)] []) (kE0 : ∀ (l2 : Int32) (M : q_Mem), stp = .inr (.inl (l2, M)) → q_W K 3 Q 0 0 M 19 [none, none, some (.int l2)] []) (kE1 : ∀ (M : q_Mem), stp = .inr (.inr M) → q_W K 3 Q 0 0 M 27 [none, none, none] []) : q_W K 3 Q 0 0 M 2 [some (.ref l0), some (.int l1), some (.int l2)] [] := by
  unfold B_X12_spotOf_2 at h
  refine q_iload_n C dX12_spotOf_2 rfl ?_
  refine q_aload_n C dX12_spotOf_3 rfl ?_
  obtain ⟨hk, h⟩ := q_obE h
  obtain ⟨u1, e1, h⟩ := q_bind h
  refine x_callT C dX12_spotOf_4 wd_1405 mV_J0_length_8abf5 rfl hk (c_J0_length_8abf5 _ _ _ _ e1) rfl rfl (Nat.le_of_ble_eq_true rfl) (by decide) (by decide) ?_
  refine q_icmp_ge (tgt := 27) C dX12_spotOf_7 (by decide) h (fun _ h => ?_) (fun _ h => ?_)
  · refine q_aload_n C dX12_spotOf_10 rfl ?_
    refine q_iload_n C dX12_spotOf_11 rfl ?_
    obtain ⟨hk, h⟩ := q_obE h
    obtain ⟨⟨u2, M3⟩, e1, h⟩ := q_bind h
    refine x_callT C dX12_spotOf_12 wd_1409 mV_J0_charAt_5068e rfl hk (c_J0_charAt_5068e _ _ _ _ _ e1) rfl rfl (Nat.le_of_ble_eq_true rfl) (by decide) (by decide) ?_
    refine q_iload_n C dX12_spotOf_15 rfl ?_
    refine q_icmp_ne (tgt := 21) C dX12_spotOf_16 (by decide) h (fun _ h => ?_) (fun _ h => ?_)
    · exact q_msk [false, false, true] (kE0 _ _ (Option.some.inj h).symm)
    · refine x_iinc (w := (1 : Int32)) (L' := [some (.ref l0), some (.int l1), some (.int (l2 + (1 : Int32)))]) C dX12_spotOf_21 rfl (by decide) (by decide) rfl rfl ?_
      refine q_goto (tgt := 2) C dX12_spotOf_24 (by decide) ?_
      exact q_msk [true, true, true] (kC _ _ (Option.some.inj h).symm)
  · exact q_msk [false, false, false] (kE1 _ (Option.some.inj h).symm)
set_option maxRecDepth 100000 in
set_option maxHeartbeats 4000000 in
theorem lW_X12_spotOf_2 {K : q_K} {Q : State → Prop} (C : q_C K yX12_spotOf cX12_spotOf 3 (Option.some Jvm.ClassFile.FieldType.int) 5 0 0) (l0 : Nat) (l1 : Int32) (n : Nat) : ∀ (l2 : Int32) (M : q_Mem) (e : ((Int32 × q_Mem) ⊕ (q_Mem))), q_lp (fun s => B_X12_spotOf_2 l0 l1 s.1 s.2) n (l2, M) = some e → (∀ (l2 : Int32) (M : q_Mem), e = (.inl (l2, M)) → q_W K 3 Q 0 0 M 19 [none, none, some (.int l2)] []) → (∀ (M : q_Mem), e = (.inr M) → q_W K 3 Q 0 0 M 27 [none, none, none] []) → q_W K 3 Q 0 0 M 2 [some (.ref l0), some (.int l1), some (.int l2)] [] := by
  induction n with
  | zero => intro l2 M e h; cases h
  | succ n ih =>
    intro l2 M e h kE0 kE1
    obtain ⟨stp, e1, e2⟩ := q_bind h
    refine bW_X12_spotOf_2 C l0 l1 l2 M e1 (fun a0 a1 hs => ?_) (fun b0 b1 hs => ?_) (fun b0 hs => ?_)
    · subst hs; exact ih _ _ _ e2 kE0 kE1
    · subst hs; exact kE0 _ _ (Option.some.inj e2).symm
    · subst hs; exact kE1 _ (Option.some.inj e2).symm
noncomputable def F_X12_spotOf (l0 : Nat) (l1 : Int32) (M : q_Mem) : Option (Int32 × q_Mem) := (q_lp (fun s => B_X12_spotOf_2 l0 l1 s.1 s.2) q_fu ((0 : Int32), M)).bind (fun e4 => match e4 with | .inl (w5, M6) => some (w5, M6) | .inr M7 => some ((-1 : Int32), M7))
set_option maxRecDepth 100000 in
set_option maxHeartbeats 4000000 in
theorem c_X12_spotOf (l : Launch) (G : q_G) (l0 : Nat) (l1 : Int32) (M : q_Mem) {r : Int32} {M' : q_Mem} (h : F_X12_spotOf l0 l1 M = some (r, M')) : q_Met l G yX12_spotOf cX12_spotOf 3 (Option.some Jvm.ClassFile.FieldType.int) 5 0 0 [.ref l0, .int l1] M (some (.int r)) M' := by
  unfold F_X12_spotOf at h
  refine q_enter [some (.ref l0), some (.int l1), none] (by decide) (Nat.le_of_ble_eq_true rfl) rfl (fun K C => ?_)
  refine x_iconst (v := (0 : Int32)) C dX12_spotOf_0 (by decide) ?_
  refine q_istore_n (L' := [some (.ref l0), some (.int l1), some (.int (0 : Int32))]) C dX12_spotOf_1 (by decide) rfl rfl ?_
  obtain ⟨e4, he, h⟩ := q_bind h
  refine q_msk [true, true, true] (lW_X12_spotOf_2 C l0 l1 q_fu _ _ _ he (fun w5 M6 hs => ?_) (fun M7 hs => ?_))
  · have hs := hs.symm
    subst hs
    refine q_iload_n C dX12_spotOf_19 rfl ?_
    exact q_iret C dX12_spotOf_20 rfl (by decide) (by decide) (Option.some.inj h)
  · have hs := hs.symm
    subst hs
    refine x_iconst (v := (-1 : Int32)) C dX12_spotOf_27 (by decide) ?_
    exact q_iret C dX12_spotOf_28 rfl (by decide) (by decide) (Option.some.inj h)
