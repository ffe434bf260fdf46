noncomputable def F_X11_feed (l0 : Nat) (l1 : Int32) (l2 : Int32) (l3 : Int32) (l4 : Int32) (l5 : Int32) (M : q_Mem) : Option (Int32 × q_Mem) := ((F_X9_bytesIn l1 M).bind (fun u1 => ((F_X9_bytesIn l2 M).bind (fun u2 => ((F_X9_bytesIn l3 M).bind (fun u3 => ((F_X9_bytesIn l4 M).bind (fun u4 => ((F_X9_bytesIn l5 M).bind (fun u5 => (q_gR M l0 11 0 (fun c6 => q_nn c6 (fun r7 => (q_gI M r7 9 1 (fun v8 => (if (240 : Int32) < (v8 + ((((u1 + u2) + u3) + u4) + u5)) then some ((-1 : Int32), M) else (q_gR M l0 11 0 (fun c9 => q_nn c9 (fun r10 => (q_ob M r10 9 ((F_X9_append r10 l1 M).bind (fun x => match x with | (_, M12) => (q_gR M12 l0 11 0 (fun c13 => q_nn c13 (fun r14 => (q_ob M12 r14 9 ((F_X9_append r14 l2 M12).bind (fun x => match x with | (_, M16) => (q_gR M16 l0 11 0 (fun c17 => q_nn c17 (fun r18 => (q_ob M16 r18 9 ((F_X9_append r18 l3 M16).bind (fun x => match x with | (_, M20) => (q_gR M20 l0 11 0 (fun c21 => q_nn c21 (fun r22 => (q_ob M20 r22 9 ((F_X9_append r22 l4 M20).bind (fun x => match x with | (_, M24) => (q_gR M24 l0 11 0 (fun c25 => q_nn c25 (fun r26 => (q_ob M24 r26 9 ((F_X9_append r26 l5 M24).bind (fun x => match x with | (_, M28) => (q_gR M28 l0 11 0 (fun c29 => q_nn c29 (fun r30 => (q_gI M28 r30 9 1 (fun v31 => some (v31, M28))))))))))))))))))))))))))))))))))))))))))))))))))))
set_option maxRecDepth 100000 in
set_option maxHeartbeats 4000000 in
theorem c_X11_feed (l : Launch) (G : q_G) (l0 : Nat) (l1 : Int32) (l2 : Int32) (l3 : Int32) (l4 : Int32) (l5 : Int32) (M : q_Mem) {r : Int32} {M' : q_Mem} (h : F_X11_feed l0 l1 l2 l3 l4 l5 M = some (r, M')) : q_Met l G yX11_feed cX11_feed 7 (Option.some Jvm.ClassFile.FieldType.int) 2 0 0 [.ref l0, .int l1, .int l2, .int l3, .int l4, .int l5] M (some (.int r)) M' := by
  unfold F_X11_feed at h
  refine q_enter [some (.ref l0), some (.int l1), some (.int l2), some (.int l3), some (.int l4), some (.int l5), none] (by decide) (Nat.le_of_ble_eq_true rfl) rfl (fun K C => ?_)
  refine q_iload_n C dX11_feed_0 rfl ?_
  obtain ⟨u1, e1, h⟩ := q_bind h
  refine x_callS0 C dX11_feed_1 lkM_X11_124 mS_X9_bytesIn (c_X9_bytesIn _ _ _ _ e1) rfl rfl (Nat.le_of_ble_eq_true rfl) (by decide) (by decide) ?_
  refine q_iload_n C dX11_feed_4 rfl ?_
  obtain ⟨u2, e1, h⟩ := q_bind h
  refine x_callS0 C dX11_feed_5 lkM_X11_124 mS_X9_bytesIn (c_X9_bytesIn _ _ _ _ e1) rfl rfl (Nat.le_of_ble_eq_true rfl) (by decide) (by decide) ?_
  refine q_iadd C dX11_feed_8 ?_
  refine q_iload_n C dX11_feed_9 rfl ?_
  obtain ⟨u3, e1, h⟩ := q_bind h
  refine x_callS0 C dX11_feed_10 lkM_X11_124 mS_X9_bytesIn (c_X9_bytesIn _ _ _ _ e1) rfl rfl (Nat.le_of_ble_eq_true rfl) (by decide) (by decide) ?_
  refine q_iadd C dX11_feed_13 ?_
  refine q_iload C dX11_feed_14 rfl ?_
  obtain ⟨u4, e1, h⟩ := q_bind h
  refine x_callS0 C dX11_feed_16 lkM_X11_124 mS_X9_bytesIn (c_X9_bytesIn _ _ _ _ e1) rfl rfl (Nat.le_of_ble_eq_true rfl) (by decide) (by decide) ?_
  refine q_iadd C dX11_feed_19 ?_
  refine q_iload C dX11_feed_20 rfl ?_
  obtain ⟨u5, e1, h⟩ := q_bind h
  refine x_callS0 C dX11_feed_22 lkM_X11_124 mS_X9_bytesIn (c_X9_bytesIn _ _ _ _ e1) rfl rfl (Nat.le_of_ble_eq_true rfl) (by decide) (by decide) ?_
  refine q_iadd C dX11_feed_25 ?_
  refine q_istore (L' := [some (.ref l0), some (.int l1), some (.int l2), some (.int l3), some (.int l4), some (.int l5), some (.int ((((u1 + u2) + u3) + u4) + u5))]) C dX11_feed_26 (by decide) rfl rfl ?_
  refine q_aload_n C dX11_feed_28 rfl ?_
  refine x_getR (ci := 11) (j := 0) C dX11_feed_29 lkF_X11_12 rfl h (fun c6 h => ?_)
  refine x_nn h (fun r7 h => ?_)
  refine x_getI (ci := 9) (j := 1) C dX11_feed_32 lkF_X11_128 rfl h (fun v8 h => ?_)
  refine q_iload C dX11_feed_35 rfl ?_
  refine q_iadd C dX11_feed_37 ?_
  refine x_sipush (v := (240 : Int32)) C dX11_feed_38 (by decide) ?_
  refine q_icmp_le (tgt := 46) C dX11_feed_41 (by decide) h (fun _ h => ?_) (fun _ h => ?_)
  · refine x_iconst (v := (-1 : Int32)) C dX11_feed_44 (by decide) ?_
    exact q_iret C dX11_feed_45 rfl (by decide) (by decide) (Option.some.inj h)
  · refine q_aload_n C dX11_feed_46 rfl ?_
    refine x_getR (ci := 11) (j := 0) C dX11_feed_47 lkF_X11_12 rfl h (fun c9 h => ?_)
    refine x_nn h (fun r10 h => ?_)
    refine q_iload_n C dX11_feed_50 rfl ?_
    obtain ⟨hk, h⟩ := q_obE h
    obtain ⟨⟨_, M12⟩, e1, h⟩ := q_bind h
    refine x_callVv0 C dX11_feed_51 lkM_X11_131 mV_X9_append ⟨_, rfl, rfl⟩ hk (c_X9_append _ _ _ _ _ e1) rfl rfl (Nat.le_of_ble_eq_true rfl) (by decide) (by decide) ?_
    refine q_aload_n C dX11_feed_54 rfl ?_
    refine x_getR (ci := 11) (j := 0) C dX11_feed_55 lkF_X11_12 rfl h (fun c13 h => ?_)
    refine x_nn h (fun r14 h => ?_)
    refine q_iload_n C dX11_feed_58 rfl ?_
    obtain ⟨hk, h⟩ := q_obE h
    obtain ⟨⟨_, M16⟩, e1, h⟩ := q_bind h
    refine x_callVv0 C dX11_feed_59 lkM_X11_131 mV_X9_append ⟨_, rfl, rfl⟩ hk (c_X9_append _ _ _ _ _ e1) rfl rfl (Nat.le_of_ble_eq_true rfl) (by decide) (by decide) ?_
    refine q_aload_n C dX11_feed_62 rfl ?_
    refine x_getR (ci := 11) (j := 0) C dX11_feed_63 lkF_X11_12 rfl h (fun c17 h => ?_)
    refine x_nn h (fun r18 h => ?_)
    refine q_iload_n C dX11_feed_66 rfl ?_
    obtain ⟨hk, h⟩ := q_obE h
    obtain ⟨⟨_, M20⟩, e1, h⟩ := q_bind h
    refine x_callVv0 C dX11_feed_67 lkM_X11_131 mV_X9_append ⟨_, rfl, rfl⟩ hk (c_X9_append _ _ _ _ _ e1) rfl rfl (Nat.le_of_ble_eq_true rfl) (by decide) (by decide) ?_
    refine q_aload_n C dX11_feed_70 rfl ?_
    refine x_getR (ci := 11) (j := 0) C dX11_feed_71 lkF_X11_12 rfl h (fun c21 h => ?_)
    refine x_nn h (fun r22 h => ?_)
    refine q_iload C dX11_feed_74 rfl ?_
    obtain ⟨hk, h⟩ := q_obE h
    obtain ⟨⟨_, M24⟩, e1, h⟩ := q_bind h
    refine x_callVv0 C dX11_feed_76 lkM_X11_131 mV_X9_append ⟨_, rfl, rfl⟩ hk (c_X9_append _ _ _ _ _ e1) rfl rfl (Nat.le_of_ble_eq_true rfl) (by decide) (by decide) ?_
    refine q_aload_n C dX11_feed_79 rfl ?_
    refine x_getR (ci := 11) (j := 0) C dX11_feed_80 lkF_X11_12 rfl h (fun c25 h => ?_)
    refine x_nn h (fun r26 h => ?_)
    refine q_iload C dX11_feed_83 rfl ?_
    obtain ⟨hk, h⟩ := q_obE h
    obtain ⟨⟨_, M28⟩, e1, h⟩ := q_bind h
    refine x_callVv0 C dX11_feed_85 lkM_X11_131 mV_X9_append ⟨_, rfl, rfl⟩ hk (c_X9_append _ _ _ _ _ e1) rfl rfl (Nat.le_of_ble_eq_true rfl) (by decide) (by decide) ?_
    refine q_aload_n C dX11_feed_88 rfl ?_
    refine x_getR (ci := 11) (j := 0) C dX11_feed_89 lkF_X11_12 rfl h (fun c29 h => ?_)
    refine x_nn h (fun r30 h => ?_)
    refine x_getI (ci := 9) (j := 1) C dX11_feed_92 lkF_X11_128 rfl h (fun v31 h => ?_)
    exact q_iret C dX11_feed_95 rfl (by decide) (by decide) (Option.some.inj h)
noncomputable def F_X11_end (l0 : Nat) (l1 : Int32) (M : q_Mem) : Option (Int32 × q_Mem) := (if l1 < 0 then q_rz (0 : Int32) M else (q_gR M l0 11 0 (fun c1 => q_nn c1 (fun r2 => (q_gI M r2 9 1 (fun v3 => (if v3 < l1 then q_rz (0 : Int32) M else (q_gR M l0 11 0 (fun c4 => q_nn c4 (fun r5 => (q_pI M r5 9 1 l1 (fun M6 => q_rz (1 : Int32) M6))))))))))))
set_option maxRecDepth 100000 in
set_option maxHeartbeats 4000000 in
theorem c_X11_end (l : Launch) (G : q_G) (l0 : Nat) (l1 : Int32) (M : q_Mem) {r : Int32} {M' : q_Mem} (h : F_X11_end l0 l1 M = some (r, M')) : q_Met l G yX11_end cX11_end 2 (Option.some Jvm.ClassFile.FieldType.boolean) 1 0 0 [.ref l0, .int l1] M (some (.int r)) M' := by
  unfold F_X11_end at h
  refine q_enter [some (.ref l0), some (.int l1)] (by decide) (Nat.le_of_ble_eq_true rfl) rfl (fun K C => ?_)
  refine q_iload_n C dX11_end_0 rfl ?_
  refine q_if_lt (tgt := 15) C dX11_end_1 (by decide) h (fun _ h => ?_) (fun _ h => ?_)
  · refine x_iconst (v := (0 : Int32)) C dX11_end_15 (by decide) ?_
    exact q_zret C dX11_end_16 rfl (by decide) (by decide) (q_rzE h).1 (q_rzE h).2
  · refine q_iload_n C dX11_end_4 rfl ?_
    refine q_aload_n C dX11_end_5 rfl ?_
    refine x_getR (ci := 11) (j := 0) C dX11_end_6 lkF_X11_12 rfl h (fun c1 h => ?_)
    refine x_nn h (fun r2 h => ?_)
    refine x_getI (ci := 9) (j := 1) C dX11_end_9 lkF_X11_128 rfl h (fun v3 h => ?_)
    refine q_icmp_le (tgt := 17) C dX11_end_12 (by decide) h (fun _ h => ?_) (fun _ h => ?_)
    · refine x_iconst (v := (0 : Int32)) C dX11_end_15 (by decide) ?_
      exact q_zret C dX11_end_16 rfl (by decide) (by decide) (q_rzE h).1 (q_rzE h).2
    · refine q_aload_n C dX11_end_17 rfl ?_
      refine x_getR (ci := 11) (j := 0) C dX11_end_18 lkF_X11_12 rfl h (fun c4 h => ?_)
      refine x_nn h (fun r5 h => ?_)
      refine q_iload_n C dX11_end_21 rfl ?_
      refine x_putI (ci := 9) (j := 1) C dX11_end_22 lkF_X11_128 (fun r hr => by cases hr; rfl) rfl h (fun M6 h => ?_)
      refine x_iconst (v := (1 : Int32)) C dX11_end_25 (by decide) ?_
      exact q_zret C dX11_end_26 rfl (by decide) (by decide) (q_rzE h).1 (q_rzE h).2
noncomputable def F_X11_readTape (l0 : Nat) (l1 : Int32) (M : q_Mem) : Option (Int32 × q_Mem) := (q_gR M l0 11 0 (fun c1 => q_nn c1 (fun r2 => (q_pI M r2 9 2 (0 : Int32) (fun M3 => (if l1 = (0 : Int32) then (q_gR M3 l0 11 2 (fun c4 => q_nn c4 (fun r5 => (q_gR M3 l0 11 0 (fun c6 => q_nn c6 (fun r7 => (q_ob M3 r5 3 ((F_X3_readFrom r5 r7 M3).bind (fun x => match x with | (u8, M9) => q_rz u8 M9))))))))) else (if l1 = (1 : Int32) then (q_gR M3 l0 11 3 (fun c10 => q_nn c10 (fun r11 => (q_ob M3 r11 5 ((F_X5_readLaw r11 M3).bind (fun x => match x with | (u12, M13) => q_rz u12 M13)))))) else (q_gR M3 l0 11 13 (fun c14 => q_nn c14 (fun r15 => (q_gR M3 l0 11 0 (fun c16 => q_nn c16 (fun r17 => (q_ob M3 r15 10 ((F_X10_readFrom r15 r17 M3).bind (fun x => match x with | (u18, M19) => q_rz u18 M19))))))))))))))))
set_option maxRecDepth 100000 in
set_option maxHeartbeats 4000000 in
theorem c_X11_readTape (l : Launch) (G : q_G) (l0 : Nat) (l1 : Int32) (M : q_Mem) {r : Int32} {M' : q_Mem} (h : F_X11_readTape l0 l1 M = some (r, M')) : q_Met l G yX11_readTape cX11_readTape 2 (Option.some Jvm.ClassFile.FieldType.boolean) 134 24 0 [.ref l0, .int l1] M (some (.int r)) M' := by
  unfold F_X11_readTape at h
  refine q_enter [some (.ref l0), some (.int l1)] (by decide) (Nat.le_of_ble_eq_true rfl) rfl (fun K C => ?_)
  refine q_aload_n C dX11_readTape_0 rfl ?_
  refine x_getR (ci := 11) (j := 0) C dX11_readTape_1 lkF_X11_12 rfl h (fun c1 h => ?_)
  refine x_nn h (fun r2 h => ?_)
  refine x_iconst (v := (0 : Int32)) C dX11_readTape_4 (by decide) ?_
  refine x_putI (ci := 9) (j := 2) C dX11_readTape_5 lkF_X11_139 (fun r hr => by cases hr; rfl) rfl h (fun M3 h => ?_)
  refine q_iload_n C dX11_readTape_8 rfl ?_
  by_cases hs9_0 : l1 = (0 : Int32)
  · rw [if_pos hs9_0] at h
    refine q_lks (off := 27) (tgt := 36) C dX11_readTape_9 (by decide) (by first | (rw [hs9_0]; done) | (rw [hs9_0]; rfl)) (by decide) ?_
    refine q_aload_n C dX11_readTape_36 rfl ?_
    refine x_getR (ci := 11) (j := 2) C dX11_readTape_37 lkF_X11_23 rfl h (fun c4 h => ?_)
    refine x_nn h (fun r5 h => ?_)
    refine q_aload_n C dX11_readTape_40 rfl ?_
    refine x_getR (ci := 11) (j := 0) C dX11_readTape_41 lkF_X11_12 rfl h (fun c6 h => ?_)
    refine x_nn h (fun r7 h => ?_)
    obtain ⟨hk, h⟩ := q_obE h
    obtain ⟨⟨u8, M9⟩, e1, h⟩ := q_bind h
    refine x_callV C dX11_readTape_44 lkM_X11_394 mV_X3_readFrom ⟨_, rfl, rfl⟩ hk (c_X3_readFrom _ _ _ _ _ e1) rfl rfl (Nat.le_of_ble_eq_true rfl) (by decide) (by decide) ?_
    exact q_zret C dX11_readTape_47 rfl (by decide) (by decide) (q_rzE h).1 (q_rzE h).2
  rw [if_neg hs9_0] at h
  by_cases hs9_1 : l1 = (1 : Int32)
  · rw [if_pos hs9_1] at h
    refine q_lks (off := 39) (tgt := 48) C dX11_readTape_9 (by decide) (by first | (rw [hs9_1]; done) | (rw [hs9_1]; rfl)) (by decide) ?_
    refine q_aload_n C dX11_readTape_48 rfl ?_
    refine x_getR (ci := 11) (j := 3) C dX11_readTape_49 lkF_X11_31 rfl h (fun c10 h => ?_)
    refine x_nn h (fun r11 h => ?_)
    obtain ⟨hk, h⟩ := q_obE h
    obtain ⟨⟨u12, M13⟩, e1, h⟩ := q_bind h
    refine x_callV C dX11_readTape_52 lkM_X11_398 mV_X5_readLaw ⟨_, rfl, rfl⟩ hk (c_X5_readLaw _ _ _ _ e1) rfl rfl (Nat.le_of_ble_eq_true rfl) (by decide) (by decide) ?_
    exact q_zret C dX11_readTape_55 rfl (by decide) (by decide) (q_rzE h).1 (q_rzE h).2
  rw [if_neg hs9_1] at h
  refine q_lks (off := 47) (tgt := 56) C dX11_readTape_9 (by decide) (by first | (rw [lv_osw hs9_0 (by decide)]; rw [lv_osw hs9_1 (by decide)]; done) | (rw [lv_osw hs9_0 (by decide)]; rw [lv_osw hs9_1 (by decide)]; rfl)) (by decide) ?_
  refine q_aload_n C dX11_readTape_56 rfl ?_
  refine x_getR (ci := 11) (j := 13) C dX11_readTape_57 lkF_X11_99 rfl h (fun c14 h => ?_)
  refine x_nn h (fun r15 h => ?_)
  refine q_aload_n C dX11_readTape_60 rfl ?_
  refine x_getR (ci := 11) (j := 0) C dX11_readTape_61 lkF_X11_12 rfl h (fun c16 h => ?_)
  refine x_nn h (fun r17 h => ?_)
  obtain ⟨hk, h⟩ := q_obE h
  obtain ⟨⟨u18, M19⟩, e1, h⟩ := q_bind h
  refine x_callV C dX11_readTape_64 lkM_X11_402 mV_X10_readFrom ⟨_, rfl, rfl⟩ hk (c_X10_readFrom _ _ _ _ _ e1) rfl rfl (Nat.le_of_ble_eq_true rfl) (by decide) (by decide) ?_
  exact q_zret C dX11_readTape_67 rfl (by decide) (by decide) (q_rzE h).1 (q_rzE h).2
noncomputable def F_X11_fault (l0 : Nat) (l1 : Int32) (M : q_Mem) : Option (Int32 × q_Mem) := (if l1 < 0 then some ((-2 : Int32), M) else (if (2 : Int32) < l1 then some ((-2 : Int32), M) else (q_ob M l0 11 ((F_X11_readTape l0 l1 M).bind (fun x => match x with | (u1, M2) => (if u1 = 0 then (q_gR M2 l0 11 0 (fun c3 => q_nn c3 (fun r4 => (q_gI M2 r4 9 2 (fun v5 => some (v5, M2)))))) else some ((-1 : Int32), M2)))))))
set_option maxRecDepth 100000 in
set_option maxHeartbeats 4000000 in
theorem c_X11_fault (l : Launch) (G : q_G) (l0 : Nat) (l1 : Int32) (M : q_Mem) {r : Int32} {M' : q_Mem} (h : F_X11_fault l0 l1 M = some (r, M')) : q_Met l G yX11_fault cX11_fault 2 (Option.some Jvm.ClassFile.FieldType.int) 135 24 0 [.ref l0, .int l1] M (some (.int r)) M' := by
  unfold F_X11_fault at h
  refine q_enter [some (.ref l0), some (.int l1)] (by decide) (Nat.le_of_ble_eq_true rfl) rfl (fun K C => ?_)
  refine q_iload_n C dX11_fault_0 rfl ?_
  refine q_if_lt (tgt := 9) C dX11_fault_1 (by decide) h (fun _ h => ?_) (fun _ h => ?_)
  · refine x_bipush (v := (-2 : Int32)) C dX11_fault_9 (by decide) ?_
    exact q_iret C dX11_fault_11 rfl (by decide) (by decide) (Option.some.inj h)
  · refine q_iload_n C dX11_fault_4 rfl ?_
    refine x_iconst (v := (2 : Int32)) C dX11_fault_5 (by decide) ?_
    refine q_icmp_le (tgt := 12) C dX11_fault_6 (by decide) h (fun _ h => ?_) (fun _ h => ?_)
    · refine x_bipush (v := (-2 : Int32)) C dX11_fault_9 (by decide) ?_
      exact q_iret C dX11_fault_11 rfl (by decide) (by decide) (Option.some.inj h)
    · refine q_aload_n C dX11_fault_12 rfl ?_
      refine q_iload_n C dX11_fault_13 rfl ?_
      obtain ⟨hk, h⟩ := q_obE h
      obtain ⟨⟨u1, M2⟩, e1, h⟩ := q_bind h
      refine x_callV C dX11_fault_14 lkM_X11_135 mV_X11_readTape ⟨_, rfl, rfl⟩ hk (c_X11_readTape _ _ _ _ _ e1) rfl rfl (Nat.le_of_ble_eq_true rfl) (by decide) (by decide) ?_
      refine q_if_eq (tgt := 24) C dX11_fault_17 (by decide) h (fun _ h => ?_) (fun _ h => ?_)
      · refine q_aload_n C dX11_fault_24 rfl ?_
        refine x_getR (ci := 11) (j := 0) C dX11_fault_25 lkF_X11_12 rfl h (fun c3 h => ?_)
        refine x_nn h (fun r4 h => ?_)
        refine x_getI (ci := 9) (j := 2) C dX11_fault_28 lkF_X11_139 rfl h (fun v5 h => ?_)
        exact q_iret C dX11_fault_31 rfl (by decide) (by decide) (Option.some.inj h)
      · refine x_iconst (v := (-1 : Int32)) C dX11_fault_20 (by decide) ?_
        refine q_goto (tgt := 31) C dX11_fault_21 (by decide) ?_
        exact q_iret C dX11_fault_31 rfl (by decide) (by decide) (Option.some.inj h)
noncomputable def F_X11_hasRoomFor (l0 : Nat) (l1 : Int32) (M : q_Mem) : Option (Int32) := (if l1 = (1 : Int32) then (q_gI M l0 11 14 (fun v1 => (if v1 < (4 : Int32) then q_rq (1 : Int32) else q_rq (0 : Int32)))) else (if l1 = (2 : Int32) then (q_gI M l0 11 15 (fun v2 => (if v2 < (4 : Int32) then q_rq (1 : Int32) else q_rq (0 : Int32)))) else q_rq (1 : Int32)))
set_option maxRecDepth 100000 in
set_option maxHeartbeats 4000000 in
theorem c_X11_hasRoomFor (l : Launch) (G : q_G) (l0 : Nat) (l1 : Int32) (M : q_Mem) {r : Int32} (h : F_X11_hasRoomFor l0 l1 M = some r) : q_Met l G yX11_hasRoomFor cX11_hasRoomFor 2 (Option.some Jvm.ClassFile.FieldType.boolean) 1 0 0 [.ref l0, .int l1] M (some (.int r)) M := by
  unfold F_X11_hasRoomFor at h
  refine q_enter [some (.ref l0), some (.int l1)] (by decide) (Nat.le_of_ble_eq_true rfl) rfl (fun K C => ?_)
  refine q_iload_n C dX11_hasRoomFor_0 rfl ?_
  by_cases hs1_0 : l1 = (1 : Int32)
  · rw [if_pos hs1_0] at h
    refine q_lks (off := 27) (tgt := 28) C dX11_hasRoomFor_1 (by decide) (by first | (rw [hs1_0]; done) | (rw [hs1_0]; rfl)) (by decide) ?_
    refine q_aload_n C dX11_hasRoomFor_28 rfl ?_
    refine x_getI (ci := 11) (j := 14) C dX11_hasRoomFor_29 lkF_X11_103 rfl h (fun v1 h => ?_)
    refine x_iconst (v := (4 : Int32)) C dX11_hasRoomFor_32 (by decide) ?_
    refine q_icmp_ge (tgt := 40) C dX11_hasRoomFor_33 (by decide) h (fun _ h => ?_) (fun _ h => ?_)
    · refine x_iconst (v := (1 : Int32)) C dX11_hasRoomFor_36 (by decide) ?_
      refine q_goto (tgt := 41) C dX11_hasRoomFor_37 (by decide) ?_
      exact q_zret (res := (r, M)) C dX11_hasRoomFor_41 rfl (by decide) (by decide) (q_rqE h).1 (congrArg (fun z => (z, M)) (q_rqE h).2)
    · refine x_iconst (v := (0 : Int32)) C dX11_hasRoomFor_40 (by decide) ?_
      exact q_zret (res := (r, M)) C dX11_hasRoomFor_41 rfl (by decide) (by decide) (q_rqE h).1 (congrArg (fun z => (z, M)) (q_rqE h).2)
  rw [if_neg hs1_0] at h
  by_cases hs1_1 : l1 = (2 : Int32)
  · rw [if_pos hs1_1] at h
    refine q_lks (off := 41) (tgt := 42) C dX11_hasRoomFor_1 (by decide) (by first | (rw [hs1_1]; done) | (rw [hs1_1]; rfl)) (by decide) ?_
    refine q_aload_n C dX11_hasRoomFor_42 rfl ?_
    refine x_getI (ci := 11) (j := 15) C dX11_hasRoomFor_43 lkF_X11_107 rfl h (fun v2 h => ?_)
    refine x_iconst (v := (4 : Int32)) C dX11_hasRoomFor_46 (by decide) ?_
    refine q_icmp_ge (tgt := 54) C dX11_hasRoomFor_47 (by decide) h (fun _ h => ?_) (fun _ h => ?_)
    · refine x_iconst (v := (1 : Int32)) C dX11_hasRoomFor_50 (by decide) ?_
      refine q_goto (tgt := 55) C dX11_hasRoomFor_51 (by decide) ?_
      exact q_zret (res := (r, M)) C dX11_hasRoomFor_55 rfl (by decide) (by decide) (q_rqE h).1 (congrArg (fun z => (z, M)) (q_rqE h).2)
    · refine x_iconst (v := (0 : Int32)) C dX11_hasRoomFor_54 (by decide) ?_
      exact q_zret (res := (r, M)) C dX11_hasRoomFor_55 rfl (by decide) (by decide) (q_rqE h).1 (congrArg (fun z => (z, M)) (q_rqE h).2)
  rw [if_neg hs1_1] at h
  refine q_lks (off := 55) (tgt := 56) C dX11_hasRoomFor_1 (by decide) (by first | (rw [lv_osw hs1_0 (by decide)]; rw [lv_osw hs1_1 (by decide)]; done) | (rw [lv_osw hs1_0 (by decide)]; rw [lv_osw hs1_1 (by decide)]; rfl)) (by decide) ?_
  refine x_iconst (v := (1 : Int32)) C dX11_hasRoomFor_56 (by decide) ?_
  exact q_zret (res := (r, M)) C dX11_hasRoomFor_57 rfl (by decide) (by decide) (q_rqE h).1 (congrArg (fun z => (z, M)) (q_rqE h).2)
noncomputable def F_X11_moveIn (l0 : Nat) (M : q_Mem) : Option (Int32 × q_Mem) := (q_gR M l0 11 1 (fun c1 => q_nn c1 (fun r2 => (q_gR M l0 11 2 (fun c3 => q_nn c3 (fun r4 => (q_ob M r2 3 ((F_X3_copyFrom r2 r4 M).bind (fun x => match x with | (_, M6) => (q_pZ M6 l0 11 18 (1 : Int32) (fun M7 => (q_gR M7 l0 11 6 (fun c8 => q_nn c8 (fun r9 => (q_gR M7 l0 11 1 (fun c10 => q_nn c10 (fun r11 => (q_ob M7 r9 8 ((F_X8_begin r9 r11 M7).bind (fun x => match x with | (_, M13) => (q_gR M13 l0 11 8 (fun c14 => q_nn c14 (fun r15 => (q_ob M13 r15 6 ((F_X6_forget r15 M13).bind (fun x => match x with | (_, M17) => (q_gR M17 l0 11 12 (fun c18 => q_nn c18 (fun r19 => (q_pI M17 r19 7 3 (0 : Int32) (fun M20 => (q_gR M20 l0 11 1 (fun c21 => q_nn c21 (fun r22 => (q_gI M20 r22 3 5 (fun v23 => some (v23, M20)))))))))))))))))))))))))))))))))))))
set_option maxRecDepth 100000 in
set_option maxHeartbeats 4000000 in
theorem c_X11_moveIn (l : Launch) (G : q_G) (l0 : Nat) (M : q_Mem) {r : Int32} {M' : q_Mem} (h : F_X11_moveIn l0 M = some (r, M')) : q_Met l G yX11_moveIn cX11_moveIn 1 (Option.some Jvm.ClassFile.FieldType.int) 4 0 0 [.ref l0] M (some (.int r)) M' := by
  unfold F_X11_moveIn at h
  refine q_enter [some (.ref l0)] (by decide) (Nat.le_of_ble_eq_true rfl) rfl (fun K C => ?_)
  refine q_aload_n C dX11_moveIn_0 rfl ?_
  refine x_getR (ci := 11) (j := 1) C dX11_moveIn_1 lkF_X11_19 rfl h (fun c1 h => ?_)
  refine x_nn h (fun r2 h => ?_)
  refine q_aload_n C dX11_moveIn_4 rfl ?_
  refine x_getR (ci := 11) (j := 2) C dX11_moveIn_5 lkF_X11_23 rfl h (fun c3 h => ?_)
  refine x_nn h (fun r4 h => ?_)
  obtain ⟨hk, h⟩ := q_obE h
  obtain ⟨⟨_, M6⟩, e1, h⟩ := q_bind h
  refine x_callVv0 C dX11_moveIn_8 lkM_X11_403 mV_X3_copyFrom ⟨_, rfl, rfl⟩ hk (c_X3_copyFrom _ _ _ _ _ e1) rfl rfl (Nat.le_of_ble_eq_true rfl) (by decide) (by decide) ?_
  refine q_aload_n C dX11_moveIn_11 rfl ?_
  refine x_iconst (v := (1 : Int32)) C dX11_moveIn_12 (by decide) ?_
  refine x_putZ (ci := 11) (j := 18) C dX11_moveIn_13 lkF_X11_116 (fun r hr => by cases hr; rfl) rfl h (fun M7 h => ?_)
  refine q_aload_n C dX11_moveIn_16 rfl ?_
  refine x_getR (ci := 11) (j := 6) C dX11_moveIn_17 lkF_X11_50 rfl h (fun c8 h => ?_)
  refine x_nn h (fun r9 h => ?_)
  refine q_aload_n C dX11_moveIn_20 rfl ?_
  refine x_getR (ci := 11) (j := 1) C dX11_moveIn_21 lkF_X11_19 rfl h (fun c10 h => ?_)
  refine x_nn h (fun r11 h => ?_)
  obtain ⟨hk, h⟩ := q_obE h
  obtain ⟨⟨_, M13⟩, e1, h⟩ := q_bind h
  refine x_callVv0 C dX11_moveIn_24 lkM_X11_405 mV_X8_begin ⟨_, rfl, rfl⟩ hk (c_X8_begin _ _ _ _ _ e1) rfl rfl (Nat.le_of_ble_eq_true rfl) (by decide) (by decide) ?_
  refine q_aload_n C dX11_moveIn_27 rfl ?_
  refine x_getR (ci := 11) (j := 8) C dX11_moveIn_28 lkF_X11_60 rfl h (fun c14 h => ?_)
  refine x_nn h (fun r15 h => ?_)
  obtain ⟨hk, h⟩ := q_obE h
  obtain ⟨⟨_, M17⟩, e1, h⟩ := q_bind h
  refine x_callVv0 C dX11_moveIn_31 lkM_X11_408 mV_X6_forget ⟨_, rfl, rfl⟩ hk (c_X6_forget _ _ _ _ e1) rfl rfl (Nat.le_of_ble_eq_true rfl) (by decide) (by decide) ?_
  refine q_aload_n C dX11_moveIn_34 rfl ?_
  refine x_getR (ci := 11) (j := 12) C dX11_moveIn_35 lkF_X11_94 rfl h (fun c18 h => ?_)
  refine x_nn h (fun r19 h => ?_)
  refine x_iconst (v := (0 : Int32)) C dX11_moveIn_38 (by decide) ?_
  refine x_putI (ci := 7) (j := 3) C dX11_moveIn_39 lkF_X11_391 (fun r hr => by cases hr; rfl) rfl h (fun M20 h => ?_)
  refine q_aload_n C dX11_moveIn_42 rfl ?_
  refine x_getR (ci := 11) (j := 1) C dX11_moveIn_43 lkF_X11_19 rfl h (fun c21 h => ?_)
  refine x_nn h (fun r22 h => ?_)
  refine x_getI (ci := 3) (j := 5) C dX11_moveIn_46 lkF_X11_336 rfl h (fun v23 h => ?_)
  exact q_iret C dX11_moveIn_49 rfl (by decide) (by decide) (Option.some.inj h)
noncomputable def F_X11_text (l0 : Nat) (l1 : Int32) (M : q_Mem) : Option (Int32 × q_Mem) := (if l1 < 0 then some ((-1 : Int32), M) else (if (2 : Int32) < l1 then some ((-1 : Int32), M) else (q_ob M l0 11 ((F_X11_hasRoomFor l0 l1 M).bind (fun u1 => (if u1 = 0 then some ((-1 : Int32), M) else (q_ob M l0 11 ((F_X11_readTape l0 l1 M).bind (fun x => match x with | (u2, M3) => (if u2 = 0 then some ((-1 : Int32), M3) else (q_gR M3 l0 11 0 (fun c4 => q_nn c4 (fun r5 => (q_pI M3 r5 9 1 (0 : Int32) (fun M6 => (if l1 = (0 : Int32) then (q_ob M6 l0 11 ((F_X11_moveIn l0 M6).bind (fun x => match x with | (u7, M8) => some (u7, M8)))) else (if l1 = (1 : Int32) then (q_gR M6 l0 11 4 (fun c9 => q_nn c9 (fun r10 => (q_gI M6 l0 11 14 (fun v11 => (q_nO M6 4 (fun k12 M13 => (q_gR M13 l0 11 3 (fun c14 => q_nn c14 (fun r15 => (q_ob M13 r15 5 ((F_X5_written r15 M13).bind (fun x => match x with | (u16, M17) => ((F_X4_init k12 u16 M17).bind (fun x => match x with | (_, M19) => (q_tR M19 3 r10 v11 4 k12 (fun M20 => (q_gI M20 l0 11 14 (fun v21 => (q_pI M20 l0 11 14 (v21 + (1 : Int32)) (fun M22 => some (v21, M22)))))))))))))))))))))) else (q_gR M6 l0 11 5 (fun c23 => q_nn c23 (fun r24 => (q_gI M6 l0 11 15 (fun v25 => (q_gR M6 l0 11 13 (fun c26 => q_nn c26 (fun r27 => (q_tR M6 4 r24 v25 10 r27 (fun M28 => (q_nO M28 10 (fun k29 M30 => ((F_X10_init k29 M30).bind (fun x => match x with | (_, M32) => (q_pR M32 l0 11 13 (k29 + 1) (fun M33 => (q_gI M33 l0 11 15 (fun v34 => (q_pI M33 l0 11 15 (v34 + (1 : Int32)) (fun M35 => some (v34, M35))))))))))))))))))))))))))))))))))))))
set_option maxRecDepth 100000 in
set_option maxHeartbeats 4000000 in
theorem c_X11_text (l : Launch) (G : q_G) (l0 : Nat) (l1 : Int32) (M : q_Mem) {r : Int32} {M' : q_Mem} (h : F_X11_text l0 l1 M = some (r, M')) : q_Met l G yX11_text cX11_text 2 (Option.some Jvm.ClassFile.FieldType.int) 135 29 324 [.ref l0, .int l1] M (some (.int r)) M' := by
  unfold F_X11_text at h
  refine q_enter [some (.ref l0), some (.int l1)] (by decide) (Nat.le_of_ble_eq_true rfl) rfl (fun K C => ?_)
  refine q_iload_n C dX11_text_0 rfl ?_
  refine q_if_lt (tgt := 25) C dX11_text_1 (by decide) h (fun _ h => ?_) (fun _ h => ?_)
  · refine x_iconst (v := (-1 : Int32)) C dX11_text_25 (by decide) ?_
    exact q_iret C dX11_text_26 rfl (by decide) (by decide) (Option.some.inj h)
  · refine q_iload_n C dX11_text_4 rfl ?_
    refine x_iconst (v := (2 : Int32)) C dX11_text_5 (by decide) ?_
    refine q_icmp_gt (tgt := 25) C dX11_text_6 (by decide) h (fun _ h => ?_) (fun _ h => ?_)
    · refine x_iconst (v := (-1 : Int32)) C dX11_text_25 (by decide) ?_
      exact q_iret C dX11_text_26 rfl (by decide) (by decide) (Option.some.inj h)
    · refine q_aload_n C dX11_text_9 rfl ?_
      refine q_iload_n C dX11_text_10 rfl ?_
      obtain ⟨hk, h⟩ := q_obE h
      obtain ⟨u1, e1, h⟩ := q_bind h
      refine x_callV0 C dX11_text_11 lkM_X11_142 mV_X11_hasRoomFor ⟨_, rfl, rfl⟩ hk (c_X11_hasRoomFor _ _ _ _ _ e1) rfl rfl (Nat.le_of_ble_eq_true rfl) (by decide) (by decide) ?_
      refine q_if_eq (tgt := 25) C dX11_text_14 (by decide) h (fun _ h => ?_) (fun _ h => ?_)
      · refine x_iconst (v := (-1 : Int32)) C dX11_text_25 (by decide) ?_
        exact q_iret C dX11_text_26 rfl (by decide) (by decide) (Option.some.inj h)
      · refine q_aload_n C dX11_text_17 rfl ?_
        refine q_iload_n C dX11_text_18 rfl ?_
        obtain ⟨hk, h⟩ := q_obE h
        obtain ⟨⟨u2, M3⟩, e1, h⟩ := q_bind h
        refine x_callV C dX11_text_19 lkM_X11_135 mV_X11_readTape ⟨_, rfl, rfl⟩ hk (c_X11_readTape _ _ _ _ _ e1) rfl rfl (Nat.le_of_ble_eq_true rfl) (by decide) (by decide) ?_
        refine q_if_ne (tgt := 27) C dX11_text_22 (by decide) h (fun _ h => ?_) (fun _ h => ?_)
        · refine x_iconst (v := (-1 : Int32)) C dX11_text_25 (by decide) ?_
          exact q_iret C dX11_text_26 rfl (by decide) (by decide) (Option.some.inj h)
        · refine q_aload_n C dX11_text_27 rfl ?_
          refine x_getR (ci := 11) (j := 0) C dX11_text_28 lkF_X11_12 rfl h (fun c4 h => ?_)
          refine x_nn h (fun r5 h => ?_)
          refine x_iconst (v := (0 : Int32)) C dX11_text_31 (by decide) ?_
          refine x_putI (ci := 9) (j := 1) C dX11_text_32 lkF_X11_128 (fun r hr => by cases hr; rfl) rfl h (fun M6 h => ?_)
          refine q_iload_n C dX11_text_35 rfl ?_
          by_cases hs36_0 : l1 = (0 : Int32)
          · rw [if_pos hs36_0] at h
            refine q_lks (off := 28) (tgt := 64) C dX11_text_36 (by decide) (by first | (rw [hs36_0]; done) | (rw [hs36_0]; rfl)) (by decide) ?_
            refine q_aload_n C dX11_text_64 rfl ?_
            obtain ⟨hk, h⟩ := q_obE h
            obtain ⟨⟨u7, M8⟩, e1, h⟩ := q_bind h
            refine x_callV0 C dX11_text_65 lkM_X11_145 mV_X11_moveIn ⟨_, rfl, rfl⟩ hk (c_X11_moveIn _ _ _ _ e1) rfl rfl (Nat.le_of_ble_eq_true rfl) (by decide) (by decide) ?_
            exact q_iret C dX11_text_68 rfl (by decide) (by decide) (Option.some.inj h)
          rw [if_neg hs36_0] at h
          by_cases hs36_1 : l1 = (1 : Int32)
          · rw [if_pos hs36_1] at h
            refine q_lks (off := 33) (tgt := 69) C dX11_text_36 (by decide) (by first | (rw [hs36_1]; done) | (rw [hs36_1]; rfl)) (by decide) ?_
            refine q_aload_n C dX11_text_69 rfl ?_
            refine x_getR (ci := 11) (j := 4) C dX11_text_70 lkF_X11_37 rfl h (fun c9 h => ?_)
            refine x_nn h (fun r10 h => ?_)
            refine q_aload_n C dX11_text_73 rfl ?_
            refine x_getI (ci := 11) (j := 14) C dX11_text_74 lkF_X11_103 rfl h (fun v11 h => ?_)
            refine x_new (ci := 4) C dX11_text_77 rfl clok_4 wd_120 wd_647 wd_21 df_4 h (by decide) (fun k12 M13 h => ?_)
            refine q_dup C dX11_text_80 rfl ?_
            refine q_aload_n C dX11_text_81 rfl ?_
            refine x_getR (ci := 11) (j := 3) C dX11_text_82 lkF_X11_31 rfl h (fun c14 h => ?_)
            refine x_nn h (fun r15 h => ?_)
            obtain ⟨hk, h⟩ := q_obE h
            obtain ⟨⟨u16, M17⟩, e1, h⟩ := q_bind h
            refine x_callV C dX11_text_85 lkM_X11_149 mV_X5_written ⟨_, rfl, rfl⟩ hk (c_X5_written _ _ _ _ e1) rfl rfl (Nat.le_of_ble_eq_true rfl) (by decide) (by decide) ?_
            obtain ⟨⟨_, M19⟩, e1, h⟩ := q_bind h
            refine x_callI C dX11_text_88 lkM_X11_153 mI_X4_init (c_X4_init _ _ _ _ _ e1) rfl rfl (Nat.le_of_ble_eq_true rfl) (by decide) (by decide) ?_
            refine x_aast C dX11_text_91 (by decide) h (fun M20 h => ?_)
            refine q_aload_n C dX11_text_92 rfl ?_
            refine q_dup C dX11_text_93 rfl ?_
            refine x_getI (ci := 11) (j := 14) C dX11_text_94 lkF_X11_103 rfl h (fun v21 h => ?_)
            refine q_dup_x1 C dX11_text_97 rfl rfl ?_
            refine x_iconst (v := (1 : Int32)) C dX11_text_98 (by decide) ?_
            refine q_iadd C dX11_text_99 ?_
            refine x_putI (ci := 11) (j := 14) C dX11_text_100 lkF_X11_103 (fun r hr => by cases hr; rfl) rfl h (fun M22 h => ?_)
            exact q_iret C dX11_text_103 rfl (by decide) (by decide) (Option.some.inj h)
          rw [if_neg hs36_1] at h
          refine q_lks (off := 68) (tgt := 104) C dX11_text_36 (by decide) (by first | (rw [lv_osw hs36_0 (by decide)]; rw [lv_osw hs36_1 (by decide)]; done) | (rw [lv_osw hs36_0 (by decide)]; rw [lv_osw hs36_1 (by decide)]; rfl)) (by decide) ?_
          refine q_aload_n C dX11_text_104 rfl ?_
          refine x_getR (ci := 11) (j := 5) C dX11_text_105 lkF_X11_43 rfl h (fun c23 h => ?_)
          refine x_nn h (fun r24 h => ?_)
          refine q_aload_n C dX11_text_108 rfl ?_
          refine x_getI (ci := 11) (j := 15) C dX11_text_109 lkF_X11_107 rfl h (fun v25 h => ?_)
          refine q_aload_n C dX11_text_112 rfl ?_
          refine x_getR (ci := 11) (j := 13) C dX11_text_113 lkF_X11_99 rfl h (fun c26 h => ?_)
          refine x_nn h (fun r27 h => ?_)
          refine x_aast C dX11_text_116 (by decide) h (fun M28 h => ?_)
          refine q_aload_n C dX11_text_117 rfl ?_
          refine x_new (ci := 10) C dX11_text_118 rfl clok_10 wd_122 wd_313 wd_11 df_10 h (by decide) (fun k29 M30 h => ?_)
          refine q_dup C dX11_text_121 rfl ?_
          obtain ⟨⟨_, M32⟩, e1, h⟩ := q_bind h
          refine x_callI C dX11_text_122 lkM_X11_98 mI_X10_init (c_X10_init _ _ _ _ e1) rfl rfl (Nat.le_of_ble_eq_true rfl) (by decide) (by decide) ?_
          refine x_putR (ci := 11) (j := 13) (k29 + 1) C dX11_text_125 lkF_X11_99 (fun r hr => by cases hr; exact Or.inl rfl) (Or.inl ⟨_, rfl⟩) rfl h (fun M33 h => ?_)
          refine q_aload_n C dX11_text_128 rfl ?_
          refine q_dup C dX11_text_129 rfl ?_
          refine x_getI (ci := 11) (j := 15) C dX11_text_130 lkF_X11_107 rfl h (fun v34 h => ?_)
          refine q_dup_x1 C dX11_text_133 rfl rfl ?_
          refine x_iconst (v := (1 : Int32)) C dX11_text_134 (by decide) ?_
          refine q_iadd C dX11_text_135 ?_
          refine x_putI (ci := 11) (j := 15) C dX11_text_136 lkF_X11_107 (fun r hr => by cases hr; rfl) rfl h (fun M35 h => ?_)
          exact q_iret C dX11_text_139 rfl (by decide) (by decide) (Option.some.inj h)
noncomputable def F_X11_rule (l0 : Nat) (l1 : Int32) (M : q_Mem) : Option (Int32) := (q_gI M l0 11 18 (fun v1 => (if v1 = 0 then some (-1 : Int32) else (if l1 = (0 : Int32) then (q_gR M l0 11 6 (fun c2 => q_nn c2 (fun r3 => (q_gR M r3 8 0 (fun c4 => q_nn c4 (fun r5 => (q_lI M 0 r5 (1 : Int32) (fun v6 => some v6)))))))) else (if l1 = (1 : Int32) then (q_gR M l0 11 1 (fun c7 => q_nn c7 (fun r8 => (q_gR M r8 3 0 (fun c9 => q_nn c9 (fun r10 => (q_lI M 0 r10 (1 : Int32) (fun v11 => some v11)))))))) else (if l1 = (2 : Int32) then (q_gR M l0 11 6 (fun c12 => q_nn c12 (fun r13 => (q_gR M r13 8 0 (fun c14 => q_nn c14 (fun r15 => (q_lI M 0 r15 (2 : Int32) (fun v16 => some v16)))))))) else some (-1 : Int32)))))))
set_option maxRecDepth 100000 in
set_option maxHeartbeats 4000000 in
theorem c_X11_rule (l : Launch) (G : q_G) (l0 : Nat) (l1 : Int32) (M : q_Mem) {r : Int32} (h : F_X11_rule l0 l1 M = some r) : q_Met l G yX11_rule cX11_rule 2 (Option.some Jvm.ClassFile.FieldType.int) 1 0 0 [.ref l0, .int l1] M (some (.int r)) M := by
  unfold F_X11_rule at h
  refine q_enter [some (.ref l0), some (.int l1)] (by decide) (Nat.le_of_ble_eq_true rfl) rfl (fun K C => ?_)
  refine q_aload_n C dX11_rule_0 rfl ?_
  refine x_getI (ci := 11) (j := 18) C dX11_rule_1 lkF_X11_116 rfl h (fun v1 h => ?_)
  refine q_if_ne (tgt := 9) C dX11_rule_4 (by decide) h (fun _ h => ?_) (fun _ h => ?_)
  · refine x_iconst (v := (-1 : Int32)) C dX11_rule_7 (by decide) ?_
    exact q_iret (res := (r, M)) C dX11_rule_8 rfl (by decide) (by decide) (congrArg (fun z => (z, M)) (Option.some.inj h))
  · refine q_iload_n C dX11_rule_9 rfl ?_
    by_cases hs10_0 : l1 = (0 : Int32)
    · rw [if_pos hs10_0] at h
      refine q_tsIn (tgt := 36) C dX11_rule_10 hs10_0 (by decide) (by decide) rfl (by decide) ?_
      refine q_aload_n C dX11_rule_36 rfl ?_
      refine x_getR (ci := 11) (j := 6) C dX11_rule_37 lkF_X11_50 rfl h (fun c2 h => ?_)
      refine x_nn h (fun r3 h => ?_)
      refine x_getR (ci := 8) (j := 0) C dX11_rule_40 lkF_X11_156 rfl h (fun c4 h => ?_)
      refine x_nn h (fun r5 h => ?_)
      refine x_iconst (v := (1 : Int32)) C dX11_rule_43 (by decide) ?_
      refine x_iald C dX11_rule_44 h (fun v6 h => ?_)
      exact q_iret (res := (r, M)) C dX11_rule_45 rfl (by decide) (by decide) (congrArg (fun z => (z, M)) (Option.some.inj h))
    rw [if_neg hs10_0] at h
    by_cases hs10_1 : l1 = (1 : Int32)
    · rw [if_pos hs10_1] at h
      refine q_tsIn (tgt := 46) C dX11_rule_10 hs10_1 (by decide) (by decide) rfl (by decide) ?_
      refine q_aload_n C dX11_rule_46 rfl ?_
      refine x_getR (ci := 11) (j := 1) C dX11_rule_47 lkF_X11_19 rfl h (fun c7 h => ?_)
      refine x_nn h (fun r8 h => ?_)
      refine x_getR (ci := 3) (j := 0) C dX11_rule_50 lkF_X11_160 rfl h (fun c9 h => ?_)
      refine x_nn h (fun r10 h => ?_)
      refine x_iconst (v := (1 : Int32)) C dX11_rule_53 (by decide) ?_
      refine x_iald C dX11_rule_54 h (fun v11 h => ?_)
      exact q_iret (res := (r, M)) C dX11_rule_55 rfl (by decide) (by decide) (congrArg (fun z => (z, M)) (Option.some.inj h))
    rw [if_neg hs10_1] at h
    by_cases hs10_2 : l1 = (2 : Int32)
    · rw [if_pos hs10_2] at h
      refine q_tsIn (tgt := 56) C dX11_rule_10 hs10_2 (by decide) (by decide) rfl (by decide) ?_
      refine q_aload_n C dX11_rule_56 rfl ?_
      refine x_getR (ci := 11) (j := 6) C dX11_rule_57 lkF_X11_50 rfl h (fun c12 h => ?_)
      refine x_nn h (fun r13 h => ?_)
      refine x_getR (ci := 8) (j := 0) C dX11_rule_60 lkF_X11_156 rfl h (fun c14 h => ?_)
      refine x_nn h (fun r15 h => ?_)
      refine x_iconst (v := (2 : Int32)) C dX11_rule_63 (by decide) ?_
      refine x_iald C dX11_rule_64 h (fun v16 h => ?_)
      exact q_iret (res := (r, M)) C dX11_rule_65 rfl (by decide) (by decide) (congrArg (fun z => (z, M)) (Option.some.inj h))
    rw [if_neg hs10_2] at h
    have ho10 : (l1 : Int32).toInt < 0 ∨ 2 < (l1 : Int32).toInt := by
      have z0 := lv_neT (a := 0) hs10_0 (by decide)
      have z1 := lv_neT (a := 1) hs10_1 (by decide)
      have z2 := lv_neT (a := 2) hs10_2 (by decide)
      omega
    refine q_tsOut (tgt := 66) C dX11_rule_10 ho10 (by decide) ?_
    refine x_iconst (v := (-1 : Int32)) C dX11_rule_66 (by decide) ?_
    exact q_iret (res := (r, M)) C dX11_rule_67 rfl (by decide) (by decide) (congrArg (fun z => (z, M)) (Option.some.inj h))
noncomputable def F_X11_dish (l0 : Nat) (l1 : Int32) (l2 : Int32) (M : q_Mem) : Option (Int32) := (q_gR M l0 11 1 (fun c1 => q_nn c1 (fun r2 => (q_ob M r2 3 ((F_X3_hasDish r2 l1 M).bind (fun u3 => (if u3 = 0 then some (-1 : Int32) else (if l2 < 0 then some (-1 : Int32) else (if l2 < (3 : Int32) then (q_gR M l0 11 1 (fun c4 => q_nn c4 (fun r5 => (q_ob M r5 3 ((F_X3_ofDish r5 l1 l2 M).bind (fun u6 => some u6)))))) else some (-1 : Int32))))))))))
set_option maxRecDepth 100000 in
set_option maxHeartbeats 4000000 in
theorem c_X11_dish (l : Launch) (G : q_G) (l0 : Nat) (l1 : Int32) (l2 : Int32) (M : q_Mem) {r : Int32} (h : F_X11_dish l0 l1 l2 M = some r) : q_Met l G yX11_dish cX11_dish 3 (Option.some Jvm.ClassFile.FieldType.int) 2 0 0 [.ref l0, .int l1, .int l2] M (some (.int r)) M := by
  unfold F_X11_dish at h
  refine q_enter [some (.ref l0), some (.int l1), some (.int l2)] (by decide) (Nat.le_of_ble_eq_true rfl) rfl (fun K C => ?_)
  refine q_aload_n C dX11_dish_0 rfl ?_
  refine x_getR (ci := 11) (j := 1) C dX11_dish_1 lkF_X11_19 rfl h (fun c1 h => ?_)
  refine x_nn h (fun r2 h => ?_)
  refine q_iload_n C dX11_dish_4 rfl ?_
  obtain ⟨hk, h⟩ := q_obE h
  obtain ⟨u3, e1, h⟩ := q_bind h
  refine x_callV0 C dX11_dish_5 lkM_X11_163 mV_X3_hasDish ⟨_, rfl, rfl⟩ hk (c_X3_hasDish _ _ _ _ _ e1) rfl rfl (Nat.le_of_ble_eq_true rfl) (by decide) (by decide) ?_
  refine q_if_eq (tgt := 20) C dX11_dish_8 (by decide) h (fun _ h => ?_) (fun _ h => ?_)
  · refine x_iconst (v := (-1 : Int32)) C dX11_dish_20 (by decide) ?_
    exact q_iret (res := (r, M)) C dX11_dish_21 rfl (by decide) (by decide) (congrArg (fun z => (z, M)) (Option.some.inj h))
  · refine q_iload_n C dX11_dish_11 rfl ?_
    refine q_if_lt (tgt := 20) C dX11_dish_12 (by decide) h (fun _ h => ?_) (fun _ h => ?_)
    · refine x_iconst (v := (-1 : Int32)) C dX11_dish_20 (by decide) ?_
      exact q_iret (res := (r, M)) C dX11_dish_21 rfl (by decide) (by decide) (congrArg (fun z => (z, M)) (Option.some.inj h))
    · refine q_iload_n C dX11_dish_15 rfl ?_
      refine x_iconst (v := (3 : Int32)) C dX11_dish_16 (by decide) ?_
      refine q_icmp_lt (tgt := 22) C dX11_dish_17 (by decide) h (fun _ h => ?_) (fun _ h => ?_)
      · refine q_aload_n C dX11_dish_22 rfl ?_
        refine x_getR (ci := 11) (j := 1) C dX11_dish_23 lkF_X11_19 rfl h (fun c4 h => ?_)
        refine x_nn h (fun r5 h => ?_)
        refine q_iload_n C dX11_dish_26 rfl ?_
        refine q_iload_n C dX11_dish_27 rfl ?_
        obtain ⟨hk, h⟩ := q_obE h
        obtain ⟨u6, e1, h⟩ := q_bind h
        refine x_callV0 C dX11_dish_28 lkM_X11_166 mV_X3_ofDish ⟨_, rfl, rfl⟩ hk (c_X3_ofDish _ _ _ _ _ _ e1) rfl rfl (Nat.le_of_ble_eq_true rfl) (by decide) (by decide) ?_
        exact q_iret (res := (r, M)) C dX11_dish_31 rfl (by decide) (by decide) (congrArg (fun z => (z, M)) (Option.some.inj h))
      · refine x_iconst (v := (-1 : Int32)) C dX11_dish_20 (by decide) ?_
        exact q_iret (res := (r, M)) C dX11_dish_21 rfl (by decide) (by decide) (congrArg (fun z => (z, M)) (Option.some.inj h))
noncomputable def J_X11_law_39 (s0 : Nat) (s1 : Nat) (M : q_Mem) : Option (Int32 × q_Mem) := (q_pR M s0 1 3 s1 (fun M5 => q_rz (1 : Int32) M5))
set_option maxRecDepth 100000 in
set_option maxHeartbeats 4000000 in
theorem jW_X11_law_39 {K : q_K} (C : q_C K yX11_law cX11_law 2 (Option.some Jvm.ClassFile.FieldType.boolean) 1 0 0) (s0 : Nat) (s1 : Nat) (M : q_Mem) {r : Int32} {M' : q_Mem} (h : J_X11_law_39 s0 s1 M = some (r, M')) : q_W K 2 (q_Q K (some (.int r)) M' 0 0) 0 0 M 39 [none, none] [q_rc s1, .ref s0] := by
  unfold J_X11_law_39 at h
  refine x_putR (ci := 1) (j := 3) s1 C dX11_law_39 lkF_X11_188 (fun r hr => by cases hr; exact Or.inl rfl) (Or.inl ⟨_, rfl⟩) rfl h (fun M5 h => ?_)
  refine x_iconst (v := (1 : Int32)) C dX11_law_42 (by decide) ?_
  exact q_zret C dX11_law_43 rfl (by decide) (by decide) (q_rzE h).1 (q_rzE h).2
noncomputable def F_X11_law (l0 : Nat) (l1 : Int32) (M : q_Mem) : Option (Int32 × q_Mem) := (if l1 < (-1 : Int32) then q_rz (0 : Int32) M else (q_gI M l0 11 14 (fun v1 => (if l1 < v1 then (q_pI M l0 11 16 l1 (fun M2 => (q_gR M2 l0 11 9 (fun c3 => q_nn c3 (fun r4 => (if l1 = (-1 : Int32) then J_X11_law_39 r4 0 M2 else (q_gR M2 l0 11 4 (fun c6 => q_nn c6 (fun r7 => (q_lR M2 3 r7 l1 (fun c8 => J_X11_law_39 r4 c8 M2))))))))))) else q_rz (0 : Int32) M))))
set_option maxRecDepth 100000 in
set_option maxHeartbeats 4000000 in
theorem c_X11_law (l : Launch) (G : q_G) (l0 : Nat) (l1 : Int32) (M : q_Mem) {r : Int32} {M' : q_Mem} (h : F_X11_law l0 l1 M = some (r, M')) : q_Met l G yX11_law cX11_law 2 (Option.some Jvm.ClassFile.FieldType.boolean) 1 0 0 [.ref l0, .int l1] M (some (.int r)) M' := by
  unfold F_X11_law at h
  refine q_enter [some (.ref l0), some (.int l1)] (by decide) (Nat.le_of_ble_eq_true rfl) rfl (fun K C => ?_)
  refine q_iload_n C dX11_law_0 rfl ?_
  refine x_iconst (v := (-1 : Int32)) C dX11_law_1 (by decide) ?_
  refine q_icmp_lt (tgt := 13) C dX11_law_2 (by decide) h (fun _ h => ?_) (fun _ h => ?_)
  · refine x_iconst (v := (0 : Int32)) C dX11_law_13 (by decide) ?_
    exact q_zret C dX11_law_14 rfl (by decide) (by decide) (q_rzE h).1 (q_rzE h).2
  · refine q_iload_n C dX11_law_5 rfl ?_
    refine q_aload_n C dX11_law_6 rfl ?_
    refine x_getI (ci := 11) (j := 14) C dX11_law_7 lkF_X11_103 rfl h (fun v1 h => ?_)
    refine q_icmp_lt (tgt := 15) C dX11_law_10 (by decide) h (fun _ h => ?_) (fun _ h => ?_)
    · refine q_aload_n C dX11_law_15 rfl ?_
      refine q_iload_n C dX11_law_16 rfl ?_
      refine x_putI (ci := 11) (j := 16) C dX11_law_17 lkF_X11_110 (fun r hr => by cases hr; rfl) rfl h (fun M2 h => ?_)
      refine q_aload_n C dX11_law_20 rfl ?_
      refine x_getR (ci := 11) (j := 9) C dX11_law_21 lkF_X11_69 rfl h (fun c3 h => ?_)
      refine x_nn h (fun r4 h => ?_)
      refine q_iload_n C dX11_law_24 rfl ?_
      refine x_iconst (v := (-1 : Int32)) C dX11_law_25 (by decide) ?_
      refine q_icmp_ne (tgt := 33) C dX11_law_26 (by decide) h (fun _ h => ?_) (fun _ h => ?_)
      · refine q_null C dX11_law_29 ?_
        refine q_goto (tgt := 39) C dX11_law_30 (by decide) ?_
        exact q_msk [false, false] (jW_X11_law_39 C r4 0 M2 h)
      · refine q_aload_n C dX11_law_33 rfl ?_
        refine x_getR (ci := 11) (j := 4) C dX11_law_34 lkF_X11_37 rfl h (fun c6 h => ?_)
        refine x_nn h (fun r7 h => ?_)
        refine q_iload_n C dX11_law_37 rfl ?_
        refine x_aald C dX11_law_38 (by decide) h (fun c8 h => ?_)
        exact q_msk [false, false] (jW_X11_law_39 C r4 c8 M2 h)
    · refine x_iconst (v := (0 : Int32)) C dX11_law_13 (by decide) ?_
      exact q_zret C dX11_law_14 rfl (by decide) (by decide) (q_rzE h).1 (q_rzE h).2
noncomputable def F_X11_fever (l0 : Nat) (l1 : Int32) (M : q_Mem) : Option (Int32 × q_Mem) := (if l1 < 0 then q_rz (0 : Int32) M else (if (9 : Int32) < l1 then q_rz (0 : Int32) M else (q_gI M l0 11 17 (fun v1 => (if l1 = v1 then q_rz (0 : Int32) M else (q_pI M l0 11 17 l1 (fun M2 => q_rz (1 : Int32) M2)))))))
set_option maxRecDepth 100000 in
set_option maxHeartbeats 4000000 in
theorem c_X11_fever (l : Launch) (G : q_G) (l0 : Nat) (l1 : Int32) (M : q_Mem) {r : Int32} {M' : q_Mem} (h : F_X11_fever l0 l1 M = some (r, M')) : q_Met l G yX11_fever cX11_fever 2 (Option.some Jvm.ClassFile.FieldType.boolean) 1 0 0 [.ref l0, .int l1] M (some (.int r)) M' := by
  unfold F_X11_fever at h
  refine q_enter [some (.ref l0), some (.int l1)] (by decide) (Nat.le_of_ble_eq_true rfl) rfl (fun K C => ?_)
  refine q_iload_n C dX11_fever_0 rfl ?_
  refine q_if_lt (tgt := 18) C dX11_fever_1 (by decide) h (fun _ h => ?_) (fun _ h => ?_)
  · refine x_iconst (v := (0 : Int32)) C dX11_fever_18 (by decide) ?_
    exact q_zret C dX11_fever_19 rfl (by decide) (by decide) (q_rzE h).1 (q_rzE h).2
  · refine q_iload_n C dX11_fever_4 rfl ?_
    refine x_bipush (v := (9 : Int32)) C dX11_fever_5 (by decide) ?_
    refine q_icmp_gt (tgt := 18) C dX11_fever_7 (by decide) h (fun _ h => ?_) (fun _ h => ?_)
    · refine x_iconst (v := (0 : Int32)) C dX11_fever_18 (by decide) ?_
      exact q_zret C dX11_fever_19 rfl (by decide) (by decide) (q_rzE h).1 (q_rzE h).2
    · refine q_iload_n C dX11_fever_10 rfl ?_
      refine q_aload_n C dX11_fever_11 rfl ?_
      refine x_getI (ci := 11) (j := 17) C dX11_fever_12 lkF_X11_113 rfl h (fun v1 h => ?_)
      refine q_icmp_ne (tgt := 20) C dX11_fever_15 (by decide) h (fun _ h => ?_) (fun _ h => ?_)
      · refine x_iconst (v := (0 : Int32)) C dX11_fever_18 (by decide) ?_
        exact q_zret C dX11_fever_19 rfl (by decide) (by decide) (q_rzE h).1 (q_rzE h).2
      · refine q_aload_n C dX11_fever_20 rfl ?_
        refine q_iload_n C dX11_fever_21 rfl ?_
        refine x_putI (ci := 11) (j := 17) C dX11_fever_22 lkF_X11_113 (fun r hr => by cases hr; rfl) rfl h (fun M2 h => ?_)
        refine x_iconst (v := (1 : Int32)) C dX11_fever_25 (by decide) ?_
        exact q_zret C dX11_fever_26 rfl (by decide) (by decide) (q_rzE h).1 (q_rzE h).2
noncomputable def F_X11_act (l0 : Nat) (l1 : Int32) (l2 : Int32) (l3 : Int32) (M : q_Mem) : Option (Int32 × q_Mem) := (q_gI M l0 11 18 (fun v1 => (if v1 = 0 then q_rz (0 : Int32) M else (q_gR M l0 11 7 (fun c2 => q_nn c2 (fun r3 => (q_gR M l0 11 6 (fun c4 => q_nn c4 (fun r5 => (q_ob M r3 8 ((F_X8_copyFrom r3 r5 M).bind (fun x => match x with | (_, M7) => (q_gR M7 l0 11 10 (fun c8 => q_nn c8 (fun r9 => (q_gR M7 l0 11 6 (fun c10 => q_nn c10 (fun r11 => (q_ob M7 r9 0 ((F_X0_carryOut r9 r11 l1 l2 l3 M7).bind (fun x => match x with | (u12, M13) => (if u12 = 0 then q_rz (0 : Int32) M13 else (q_gR M13 l0 11 8 (fun c14 => q_nn c14 (fun r15 => (q_gR M13 l0 11 7 (fun c16 => q_nn c16 (fun r17 => (q_ob M13 r15 6 ((F_X6_keepAct r15 r17 M13).bind (fun x => match x with | (_, M19) => (if l1 = 0 then (q_gR M19 l0 11 8 (fun c20 => q_nn c20 (fun r21 => (q_gR M19 l0 11 6 (fun c22 => q_nn c22 (fun r23 => (q_gR M19 l0 11 9 (fun c24 => q_nn c24 (fun r25 => (q_ob M19 r21 6 ((F_X6_writeLog r21 r23 r25 M19).bind (fun x => match x with | (_, M27) => q_rz (1 : Int32) M27)))))))))))) else q_rz (1 : Int32) M19))))))))))))))))))))))))))))))))
set_option maxRecDepth 100000 in
set_option maxHeartbeats 4000000 in
theorem c_X11_act (l : Launch) (G : q_G) (l0 : Nat) (l1 : Int32) (l2 : Int32) (l3 : Int32) (M : q_Mem) {r : Int32} {M' : q_Mem} (h : F_X11_act l0 l1 l2 l3 M = some (r, M')) : q_Met l G yX11_act cX11_act 4 (Option.some Jvm.ClassFile.FieldType.boolean) 7 0 0 [.ref l0, .int l1, .int l2, .int l3] M (some (.int r)) M' := by
  unfold F_X11_act at h
  refine q_enter [some (.ref l0), some (.int l1), some (.int l2), some (.int l3)] (by decide) (Nat.le_of_ble_eq_true rfl) rfl (fun K C => ?_)
  refine q_aload_n C dX11_act_0 rfl ?_
  refine x_getI (ci := 11) (j := 18) C dX11_act_1 lkF_X11_116 rfl h (fun v1 h => ?_)
  refine q_if_ne (tgt := 9) C dX11_act_4 (by decide) h (fun _ h => ?_) (fun _ h => ?_)
  · refine x_iconst (v := (0 : Int32)) C dX11_act_7 (by decide) ?_
    exact q_zret C dX11_act_8 rfl (by decide) (by decide) (q_rzE h).1 (q_rzE h).2
  · refine q_aload_n C dX11_act_9 rfl ?_
    refine x_getR (ci := 11) (j := 7) C dX11_act_10 lkF_X11_54 rfl h (fun c2 h => ?_)
    refine x_nn h (fun r3 h => ?_)
    refine q_aload_n C dX11_act_13 rfl ?_
    refine x_getR (ci := 11) (j := 6) C dX11_act_14 lkF_X11_50 rfl h (fun c4 h => ?_)
    refine x_nn h (fun r5 h => ?_)
    obtain ⟨hk, h⟩ := q_obE h
    obtain ⟨⟨_, M7⟩, e1, h⟩ := q_bind h
    refine x_callVv0 C dX11_act_17 lkM_X11_204 mV_X8_copyFrom ⟨_, rfl, rfl⟩ hk (c_X8_copyFrom _ _ _ _ _ e1) rfl rfl (Nat.le_of_ble_eq_true rfl) (by decide) (by decide) ?_
    refine q_aload_n C dX11_act_20 rfl ?_
    refine x_getR (ci := 11) (j := 10) C dX11_act_21 lkF_X11_78 rfl h (fun c8 h => ?_)
    refine x_nn h (fun r9 h => ?_)
    refine q_aload_n C dX11_act_24 rfl ?_
    refine x_getR (ci := 11) (j := 6) C dX11_act_25 lkF_X11_50 rfl h (fun c10 h => ?_)
    refine x_nn h (fun r11 h => ?_)
    refine q_iload_n C dX11_act_28 rfl ?_
    refine q_iload_n C dX11_act_29 rfl ?_
    refine q_iload_n C dX11_act_30 rfl ?_
    obtain ⟨hk, h⟩ := q_obE h
    obtain ⟨⟨u12, M13⟩, e1, h⟩ := q_bind h
    refine x_callV0 C dX11_act_31 lkM_X11_411 mV_X0_carryOut ⟨_, rfl, rfl⟩ hk (c_X0_carryOut _ _ _ _ _ _ _ _ e1) rfl rfl (Nat.le_of_ble_eq_true rfl) (by decide) (by decide) ?_
    refine q_if_ne (tgt := 39) C dX11_act_34 (by decide) h (fun _ h => ?_) (fun _ h => ?_)
    · refine x_iconst (v := (0 : Int32)) C dX11_act_37 (by decide) ?_
      exact q_zret C dX11_act_38 rfl (by decide) (by decide) (q_rzE h).1 (q_rzE h).2
    · refine q_aload_n C dX11_act_39 rfl ?_
      refine x_getR (ci := 11) (j := 8) C dX11_act_40 lkF_X11_60 rfl h (fun c14 h => ?_)
      refine x_nn h (fun r15 h => ?_)
      refine q_aload_n C dX11_act_43 rfl ?_
      refine x_getR (ci := 11) (j := 7) C dX11_act_44 lkF_X11_54 rfl h (fun c16 h => ?_)
      refine x_nn h (fun r17 h => ?_)
      obtain ⟨hk, h⟩ := q_obE h
      obtain ⟨⟨_, M19⟩, e1, h⟩ := q_bind h
      refine x_callVv0 C dX11_act_47 lkM_X11_214 mV_X6_keepAct ⟨_, rfl, rfl⟩ hk (c_X6_keepAct _ _ _ _ _ e1) rfl rfl (Nat.le_of_ble_eq_true rfl) (by decide) (by decide) ?_
      refine q_iload_n C dX11_act_50 rfl ?_
      refine q_if_ne (tgt := 69) C dX11_act_51 (by decide) h (fun _ h => ?_) (fun _ h => ?_)
      · refine q_aload_n C dX11_act_54 rfl ?_
        refine x_getR (ci := 11) (j := 8) C dX11_act_55 lkF_X11_60 rfl h (fun c20 h => ?_)
        refine x_nn h (fun r21 h => ?_)
        refine q_aload_n C dX11_act_58 rfl ?_
        refine x_getR (ci := 11) (j := 6) C dX11_act_59 lkF_X11_50 rfl h (fun c22 h => ?_)
        refine x_nn h (fun r23 h => ?_)
        refine q_aload_n C dX11_act_62 rfl ?_
        refine x_getR (ci := 11) (j := 9) C dX11_act_63 lkF_X11_69 rfl h (fun c24 h => ?_)
        refine x_nn h (fun r25 h => ?_)
        obtain ⟨hk, h⟩ := q_obE h
        obtain ⟨⟨_, M27⟩, e1, h⟩ := q_bind h
        refine x_callVv0 C dX11_act_66 lkM_X11_217 mV_X6_writeLog ⟨_, rfl, rfl⟩ hk (c_X6_writeLog _ _ _ _ _ _ e1) rfl rfl (Nat.le_of_ble_eq_true rfl) (by decide) (by decide) ?_
        refine x_iconst (v := (1 : Int32)) C dX11_act_69 (by decide) ?_
        exact q_zret C dX11_act_70 rfl (by decide) (by decide) (q_rzE h).1 (q_rzE h).2
      · refine x_iconst (v := (1 : Int32)) C dX11_act_69 (by decide) ?_
        exact q_zret C dX11_act_70 rfl (by decide) (by decide) (q_rzE h).1 (q_rzE h).2
noncomputable def F_X11_day (l0 : Nat) (M : q_Mem) : Option (Int32 × q_Mem) := (q_ob M l0 11 ((F_X11_act l0 (0 : Int32) (-1 : Int32) (-1 : Int32) M).bind (fun x => match x with | (u1, M2) => (if u1 = 0 then some ((-1 : Int32), M2) else (q_gR M2 l0 11 9 (fun c3 => q_nn c3 (fun r4 => (q_gI M2 r4 1 10 (fun v5 => ((F_J6_bitCount_0f7a4 v5 M2).bind (fun u6 => some (u6, M2))))))))))))
set_option maxRecDepth 100000 in
set_option maxHeartbeats 4000000 in
theorem c_X11_day (l : Launch) (G : q_G) (l0 : Nat) (M : q_Mem) {r : Int32} {M' : q_Mem} (h : F_X11_day l0 M = some (r, M')) : q_Met l G yX11_day cX11_day 1 (Option.some Jvm.ClassFile.FieldType.int) 8 0 0 [.ref l0] M (some (.int r)) M' := by
  unfold F_X11_day at h
  refine q_enter [some (.ref l0)] (by decide) (Nat.le_of_ble_eq_true rfl) rfl (fun K C => ?_)
  refine q_aload_n C dX11_day_0 rfl ?_
  refine x_iconst (v := (0 : Int32)) C dX11_day_1 (by decide) ?_
  refine x_iconst (v := (-1 : Int32)) C dX11_day_2 (by decide) ?_
  refine x_iconst (v := (-1 : Int32)) C dX11_day_3 (by decide) ?_
  obtain ⟨hk, h⟩ := q_obE h
  obtain ⟨⟨u1, M2⟩, e1, h⟩ := q_bind h
  refine x_callV0 C dX11_day_4 lkM_X11_192 mV_X11_act ⟨_, rfl, rfl⟩ hk (c_X11_act _ _ _ _ _ _ _ e1) rfl rfl (Nat.le_of_ble_eq_true rfl) (by decide) (by decide) ?_
  refine q_if_eq (tgt := 23) C dX11_day_7 (by decide) h (fun _ h => ?_) (fun _ h => ?_)
  · refine x_iconst (v := (-1 : Int32)) C dX11_day_23 (by decide) ?_
    exact q_iret C dX11_day_24 rfl (by decide) (by decide) (Option.some.inj h)
  · refine q_aload_n C dX11_day_10 rfl ?_
    refine x_getR (ci := 11) (j := 9) C dX11_day_11 lkF_X11_69 rfl h (fun c3 h => ?_)
    refine x_nn h (fun r4 h => ?_)
    refine x_getI (ci := 1) (j := 10) C dX11_day_14 lkF_X11_196 rfl h (fun v5 h => ?_)
    obtain ⟨u6, e1, h⟩ := q_bind h
    refine x_callS0 C dX11_day_17 lkM_X11_199 mS_J6_bitCount_0f7a4 (c_J6_bitCount_0f7a4 _ _ _ _ e1) rfl rfl (Nat.le_of_ble_eq_true rfl) (by decide) (by decide) ?_
    refine q_goto (tgt := 24) C dX11_day_20 (by decide) ?_
    exact q_iret C dX11_day_24 rfl (by decide) (by decide) (Option.some.inj h)
noncomputable def F_X11_choose (l0 : Nat) (l1 : Int32) (M : q_Mem) : Option (Int32 × q_Mem) := (q_gR M l0 11 6 (fun c1 => q_nn c1 (fun r2 => (q_gR M r2 8 0 (fun c3 => q_nn c3 (fun r4 => (q_lI M 0 r4 (3 : Int32) (fun v5 => (q_ob M l0 11 ((F_X11_act l0 (1 : Int32) l1 (-1 : Int32) M).bind (fun x => match x with | (u6, M7) => (if u6 = 0 then some ((-2 : Int32), M7) else some (v5, M7)))))))))))))
set_option maxRecDepth 100000 in
set_option maxHeartbeats 4000000 in
theorem c_X11_choose (l : Launch) (G : q_G) (l0 : Nat) (l1 : Int32) (M : q_Mem) {r : Int32} {M' : q_Mem} (h : F_X11_choose l0 l1 M = some (r, M')) : q_Met l G yX11_choose cX11_choose 3 (Option.some Jvm.ClassFile.FieldType.int) 8 0 0 [.ref l0, .int l1] M (some (.int r)) M' := by
  unfold F_X11_choose at h
  refine q_enter [some (.ref l0), some (.int l1), none] (by decide) (Nat.le_of_ble_eq_true rfl) rfl (fun K C => ?_)
  refine q_aload_n C dX11_choose_0 rfl ?_
  refine x_getR (ci := 11) (j := 6) C dX11_choose_1 lkF_X11_50 rfl h (fun c1 h => ?_)
  refine x_nn h (fun r2 h => ?_)
  refine x_getR (ci := 8) (j := 0) C dX11_choose_4 lkF_X11_156 rfl h (fun c3 h => ?_)
  refine x_nn h (fun r4 h => ?_)
  refine x_iconst (v := (3 : Int32)) C dX11_choose_7 (by decide) ?_
  refine x_iald C dX11_choose_8 h (fun v5 h => ?_)
  refine q_istore_n (L' := [some (.ref l0), some (.int l1), some (.int v5)]) C dX11_choose_9 (by decide) rfl rfl ?_
  refine q_aload_n C dX11_choose_10 rfl ?_
  refine x_iconst (v := (1 : Int32)) C dX11_choose_11 (by decide) ?_
  refine q_iload_n C dX11_choose_12 rfl ?_
  refine x_iconst (v := (-1 : Int32)) C dX11_choose_13 (by decide) ?_
  obtain ⟨hk, h⟩ := q_obE h
  obtain ⟨⟨u6, M7⟩, e1, h⟩ := q_bind h
  refine x_callV0 C dX11_choose_14 lkM_X11_192 mV_X11_act ⟨_, rfl, rfl⟩ hk (c_X11_act _ _ _ _ _ _ _ e1) rfl rfl (Nat.le_of_ble_eq_true rfl) (by decide) (by decide) ?_
  refine q_if_eq (tgt := 24) C dX11_choose_17 (by decide) h (fun _ h => ?_) (fun _ h => ?_)
  · refine x_bipush (v := (-2 : Int32)) C dX11_choose_24 (by decide) ?_
    exact q_iret C dX11_choose_26 rfl (by decide) (by decide) (Option.some.inj h)
  · refine q_iload_n C dX11_choose_20 rfl ?_
    refine q_goto (tgt := 26) C dX11_choose_21 (by decide) ?_
    exact q_iret C dX11_choose_26 rfl (by decide) (by decide) (Option.some.inj h)
noncomputable def F_X11_ill (l0 : Nat) (M : q_Mem) : Option (Int32 × q_Mem) := (q_ob M l0 11 ((F_X11_act l0 (2 : Int32) (-1 : Int32) (-1 : Int32) M).bind (fun x => match x with | (u1, M2) => (if u1 = 0 then some ((-1 : Int32), M2) else (q_gR M2 l0 11 6 (fun c3 => q_nn c3 (fun r4 => (q_gR M2 r4 8 0 (fun c5 => q_nn c5 (fun r6 => (q_lI M2 0 r6 (1 : Int32) (fun v7 => some (v7, M2)))))))))))))
set_option maxRecDepth 100000 in
set_option maxHeartbeats 4000000 in
theorem c_X11_ill (l : Launch) (G : q_G) (l0 : Nat) (M : q_Mem) {r : Int32} {M' : q_Mem} (h : F_X11_ill l0 M = some (r, M')) : q_Met l G yX11_ill cX11_ill 1 (Option.some Jvm.ClassFile.FieldType.int) 8 0 0 [.ref l0] M (some (.int r)) M' := by
  unfold F_X11_ill at h
  refine q_enter [some (.ref l0)] (by decide) (Nat.le_of_ble_eq_true rfl) rfl (fun K C => ?_)
  refine q_aload_n C dX11_ill_0 rfl ?_
  refine x_iconst (v := (2 : Int32)) C dX11_ill_1 (by decide) ?_
  refine x_iconst (v := (-1 : Int32)) C dX11_ill_2 (by decide) ?_
  refine x_iconst (v := (-1 : Int32)) C dX11_ill_3 (by decide) ?_
  obtain ⟨hk, h⟩ := q_obE h
  obtain ⟨⟨u1, M2⟩, e1, h⟩ := q_bind h
  refine x_callV0 C dX11_ill_4 lkM_X11_192 mV_X11_act ⟨_, rfl, rfl⟩ hk (c_X11_act _ _ _ _ _ _ _ e1) rfl rfl (Nat.le_of_ble_eq_true rfl) (by decide) (by decide) ?_
  refine q_if_eq (tgt := 22) C dX11_ill_7 (by decide) h (fun _ h => ?_) (fun _ h => ?_)
  · refine x_iconst (v := (-1 : Int32)) C dX11_ill_22 (by decide) ?_
    exact q_iret C dX11_ill_23 rfl (by decide) (by decide) (Option.some.inj h)
  · refine q_aload_n C dX11_ill_10 rfl ?_
    refine x_getR (ci := 11) (j := 6) C dX11_ill_11 lkF_X11_50 rfl h (fun c3 h => ?_)
    refine x_nn h (fun r4 h => ?_)
    refine x_getR (ci := 8) (j := 0) C dX11_ill_14 lkF_X11_156 rfl h (fun c5 h => ?_)
    refine x_nn h (fun r6 h => ?_)
    refine x_iconst (v := (1 : Int32)) C dX11_ill_17 (by decide) ?_
    refine x_iald C dX11_ill_18 h (fun v7 h => ?_)
    refine q_goto (tgt := 23) C dX11_ill_19 (by decide) ?_
    exact q_iret C dX11_ill_23 rfl (by decide) (by decide) (Option.some.inj h)
noncomputable def F_X11_makeUp (l0 : Nat) (M : q_Mem) : Option (Int32 × q_Mem) := (q_ob M l0 11 ((F_X11_act l0 (3 : Int32) (-1 : Int32) (-1 : Int32) M).bind (fun x => match x with | (u1, M2) => (if u1 = 0 then some ((-1 : Int32), M2) else (q_gR M2 l0 11 6 (fun c3 => q_nn c3 (fun r4 => (q_gR M2 r4 8 0 (fun c5 => q_nn c5 (fun r6 => (q_lI M2 0 r6 (1 : Int32) (fun v7 => some (v7, M2)))))))))))))
set_option maxRecDepth 100000 in
set_option maxHeartbeats 4000000 in
theorem c_X11_makeUp (l : Launch) (G : q_G) (l0 : Nat) (M : q_Mem) {r : Int32} {M' : q_Mem} (h : F_X11_makeUp l0 M = some (r, M')) : q_Met l G yX11_makeUp cX11_makeUp 1 (Option.some Jvm.ClassFile.FieldType.int) 8 0 0 [.ref l0] M (some (.int r)) M' := by
  unfold F_X11_makeUp at h
  refine q_enter [some (.ref l0)] (by decide) (Nat.le_of_ble_eq_true rfl) rfl (fun K C => ?_)
  refine q_aload_n C dX11_makeUp_0 rfl ?_
  refine x_iconst (v := (3 : Int32)) C dX11_makeUp_1 (by decide) ?_
  refine x_iconst (v := (-1 : Int32)) C dX11_makeUp_2 (by decide) ?_
  refine x_iconst (v := (-1 : Int32)) C dX11_makeUp_3 (by decide) ?_
  obtain ⟨hk, h⟩ := q_obE h
  obtain ⟨⟨u1, M2⟩, e1, h⟩ := q_bind h
  refine x_callV0 C dX11_makeUp_4 lkM_X11_192 mV_X11_act ⟨_, rfl, rfl⟩ hk (c_X11_act _ _ _ _ _ _ _ e1) rfl rfl (Nat.le_of_ble_eq_true rfl) (by decide) (by decide) ?_
  refine q_if_eq (tgt := 22) C dX11_makeUp_7 (by decide) h (fun _ h => ?_) (fun _ h => ?_)
  · refine x_iconst (v := (-1 : Int32)) C dX11_makeUp_22 (by decide) ?_
    exact q_iret C dX11_makeUp_23 rfl (by decide) (by decide) (Option.some.inj h)
  · refine q_aload_n C dX11_makeUp_10 rfl ?_
    refine x_getR (ci := 11) (j := 6) C dX11_makeUp_11 lkF_X11_50 rfl h (fun c3 h => ?_)
    refine x_nn h (fun r4 h => ?_)
    refine x_getR (ci := 8) (j := 0) C dX11_makeUp_14 lkF_X11_156 rfl h (fun c5 h => ?_)
    refine x_nn h (fun r6 h => ?_)
    refine x_iconst (v := (1 : Int32)) C dX11_makeUp_17 (by decide) ?_
    refine x_iald C dX11_makeUp_18 h (fun v7 h => ?_)
    refine q_goto (tgt := 23) C dX11_makeUp_19 (by decide) ?_
    exact q_iret C dX11_makeUp_23 rfl (by decide) (by decide) (Option.some.inj h)
noncomputable def F_X11_stay (l0 : Nat) (l1 : Int32) (l2 : Int32) (M : q_Mem) : Option (Int32 × q_Mem) := (q_ob M l0 11 ((F_X11_act l0 (4 : Int32) l1 l2 M).bind (fun x => match x with | (u1, M2) => (if u1 = 0 then some ((-1 : Int32), M2) else (q_gR M2 l0 11 6 (fun c3 => q_nn c3 (fun r4 => (q_gR M2 r4 8 0 (fun c5 => q_nn c5 (fun r6 => (q_lI M2 0 r6 ((13 : Int32) + l1) (fun v7 => some (v7, M2)))))))))))))
set_option maxRecDepth 100000 in
set_option maxHeartbeats 4000000 in
theorem c_X11_stay (l : Launch) (G : q_G) (l0 : Nat) (l1 : Int32) (l2 : Int32) (M : q_Mem) {r : Int32} {M' : q_Mem} (h : F_X11_stay l0 l1 l2 M = some (r, M')) : q_Met l G yX11_stay cX11_stay 3 (Option.some Jvm.ClassFile.FieldType.int) 8 0 0 [.ref l0, .int l1, .int l2] M (some (.int r)) M' := by
  unfold F_X11_stay at h
  refine q_enter [some (.ref l0), some (.int l1), some (.int l2)] (by decide) (Nat.le_of_ble_eq_true rfl) rfl (fun K C => ?_)
  refine q_aload_n C dX11_stay_0 rfl ?_
  refine x_iconst (v := (4 : Int32)) C dX11_stay_1 (by decide) ?_
  refine q_iload_n C dX11_stay_2 rfl ?_
  refine q_iload_n C dX11_stay_3 rfl ?_
  obtain ⟨hk, h⟩ := q_obE h
  obtain ⟨⟨u1, M2⟩, e1, h⟩ := q_bind h
  refine x_callV0 C dX11_stay_4 lkM_X11_192 mV_X11_act ⟨_, rfl, rfl⟩ hk (c_X11_act _ _ _ _ _ _ _ e1) rfl rfl (Nat.le_of_ble_eq_true rfl) (by decide) (by decide) ?_
  refine q_if_eq (tgt := 25) C dX11_stay_7 (by decide) h (fun _ h => ?_) (fun _ h => ?_)
  · refine x_iconst (v := (-1 : Int32)) C dX11_stay_25 (by decide) ?_
    exact q_iret C dX11_stay_26 rfl (by decide) (by decide) (Option.some.inj h)
  · refine q_aload_n C dX11_stay_10 rfl ?_
    refine x_getR (ci := 11) (j := 6) C dX11_stay_11 lkF_X11_50 rfl h (fun c3 h => ?_)
    refine x_nn h (fun r4 h => ?_)
    refine x_getR (ci := 8) (j := 0) C dX11_stay_14 lkF_X11_156 rfl h (fun c5 h => ?_)
    refine x_nn h (fun r6 h => ?_)
    refine x_bipush (v := (13 : Int32)) C dX11_stay_17 (by decide) ?_
    refine q_iload_n C dX11_stay_19 rfl ?_
    refine q_iadd C dX11_stay_20 ?_
    refine x_iald C dX11_stay_21 h (fun v7 h => ?_)
    refine q_goto (tgt := 26) C dX11_stay_22 (by decide) ?_
    exact q_iret C dX11_stay_26 rfl (by decide) (by decide) (Option.some.inj h)
noncomputable def F_X11_sign (l0 : Nat) (l1 : Int32) (l2 : Int32) (M : q_Mem) : Option (Int32 × q_Mem) := (q_ob M l0 11 ((F_X11_act l0 (5 : Int32) l1 l2 M).bind (fun x => match x with | (u1, M2) => (if u1 = 0 then some ((-1 : Int32), M2) else (q_gR M2 l0 11 7 (fun c3 => q_nn c3 (fun r4 => (q_gR M2 r4 8 0 (fun c5 => q_nn c5 (fun r6 => (q_lI M2 0 r6 ((19 : Int32) + l1) (fun v7 => some (v7, M2)))))))))))))
set_option maxRecDepth 100000 in
set_option maxHeartbeats 4000000 in
theorem c_X11_sign (l : Launch) (G : q_G) (l0 : Nat) (l1 : Int32) (l2 : Int32) (M : q_Mem) {r : Int32} {M' : q_Mem} (h : F_X11_sign l0 l1 l2 M = some (r, M')) : q_Met l G yX11_sign cX11_sign 3 (Option.some Jvm.ClassFile.FieldType.int) 8 0 0 [.ref l0, .int l1, .int l2] M (some (.int r)) M' := by
  unfold F_X11_sign at h
  refine q_enter [some (.ref l0), some (.int l1), some (.int l2)] (by decide) (Nat.le_of_ble_eq_true rfl) rfl (fun K C => ?_)
  refine q_aload_n C dX11_sign_0 rfl ?_
  refine x_iconst (v := (5 : Int32)) C dX11_sign_1 (by decide) ?_
  refine q_iload_n C dX11_sign_2 rfl ?_
  refine q_iload_n C dX11_sign_3 rfl ?_
  obtain ⟨hk, h⟩ := q_obE h
  obtain ⟨⟨u1, M2⟩, e1, h⟩ := q_bind h
  refine x_callV0 C dX11_sign_4 lkM_X11_192 mV_X11_act ⟨_, rfl, rfl⟩ hk (c_X11_act _ _ _ _ _ _ _ e1) rfl rfl (Nat.le_of_ble_eq_true rfl) (by decide) (by decide) ?_
  refine q_if_eq (tgt := 25) C dX11_sign_7 (by decide) h (fun _ h => ?_) (fun _ h => ?_)
  · refine x_iconst (v := (-1 : Int32)) C dX11_sign_25 (by decide) ?_
    exact q_iret C dX11_sign_26 rfl (by decide) (by decide) (Option.some.inj h)
  · refine q_aload_n C dX11_sign_10 rfl ?_
    refine x_getR (ci := 11) (j := 7) C dX11_sign_11 lkF_X11_54 rfl h (fun c3 h => ?_)
    refine x_nn h (fun r4 h => ?_)
    refine x_getR (ci := 8) (j := 0) C dX11_sign_14 lkF_X11_156 rfl h (fun c5 h => ?_)
    refine x_nn h (fun r6 h => ?_)
    refine x_bipush (v := (19 : Int32)) C dX11_sign_17 (by decide) ?_
    refine q_iload_n C dX11_sign_19 rfl ?_
    refine q_iadd C dX11_sign_20 ?_
    refine x_iald C dX11_sign_21 h (fun v7 h => ?_)
    refine q_goto (tgt := 26) C dX11_sign_22 (by decide) ?_
    exact q_iret C dX11_sign_26 rfl (by decide) (by decide) (Option.some.inj h)
noncomputable def F_X11_draw (l0 : Nat) (l1 : Int32) (M : q_Mem) : Option (Int32 × q_Mem) := (q_gL M l0 11 19 (fun v1 => (q_pL M l0 11 19 ((v1 * (6364136223846793005 : Int64)) + (1442695040888963407 : Int64)) (fun M2 => (if 0 < l1 then (q_gL M2 l0 11 19 (fun v3 => (q_rml ((v3.toUInt64 >>> ((33 : Int32).toInt64.toUInt64 &&& Int64.toUInt64 63)).toInt64) l1.toInt64 (fun v4 => some (v4.toInt32, M2))))) else some ((0 : Int32), M2))))))
set_option maxRecDepth 100000 in
set_option maxHeartbeats 4000000 in
theorem c_X11_draw (l : Launch) (G : q_G) (l0 : Nat) (l1 : Int32) (M : q_Mem) {r : Int32} {M' : q_Mem} (h : F_X11_draw l0 l1 M = some (r, M')) : q_Met l G yX11_draw cX11_draw 2 (Option.some Jvm.ClassFile.FieldType.int) 1 0 0 [.ref l0, .int l1] M (some (.int r)) M' := by
  unfold F_X11_draw at h
  refine q_enter [some (.ref l0), some (.int l1)] (by decide) (Nat.le_of_ble_eq_true rfl) rfl (fun K C => ?_)
  refine q_aload_n C dX11_draw_0 rfl ?_
  refine q_aload_n C dX11_draw_1 rfl ?_
  refine x_getL (ci := 11) (j := 19) C dX11_draw_2 lkF_X11_120 rfl h (fun v1 h => ?_)
  refine q_ldc2 (v := (6364136223846793005 : Int64)) C dX11_draw_5 wd_848 ?_
  refine q_lmul C dX11_draw_8 ?_
  refine q_ldc2 (v := (1442695040888963407 : Int64)) C dX11_draw_9 wd_849 ?_
  refine q_ladd C dX11_draw_12 ?_
  refine x_putL (ci := 11) (j := 19) C dX11_draw_13 lkF_X11_120 (fun r hr => by cases hr; rfl) rfl h (fun M2 h => ?_)
  refine q_iload_n C dX11_draw_16 rfl ?_
  refine q_if_le (tgt := 34) C dX11_draw_17 (by decide) h (fun _ h => ?_) (fun _ h => ?_)
  · refine q_aload_n C dX11_draw_20 rfl ?_
    refine x_getL (ci := 11) (j := 19) C dX11_draw_21 lkF_X11_120 rfl h (fun v3 h => ?_)
    refine x_bipush (v := (33 : Int32)) C dX11_draw_24 (by decide) ?_
    refine q_lushr C dX11_draw_26 ?_
    refine q_iload_n C dX11_draw_27 rfl ?_
    refine q_i2l C dX11_draw_28 ?_
    refine q_lrem C dX11_draw_29 h (fun v4 h => ?_)
    refine q_l2i C dX11_draw_30 ?_
    refine q_goto (tgt := 35) C dX11_draw_31 (by decide) ?_
    exact q_iret C dX11_draw_35 rfl (by decide) (by decide) (Option.some.inj h)
  · refine x_iconst (v := (0 : Int32)) C dX11_draw_34 (by decide) ?_
    exact q_iret C dX11_draw_35 rfl (by decide) (by decide) (Option.some.inj h)
noncomputable def J_X11_meetChance_28 (l0 : Nat) (M : q_Mem) : Option (Unit × q_Mem) := (q_gR M l0 11 6 (fun c10 => q_nn c10 (fun r11 => (q_gR M r11 8 0 (fun c12 => q_nn c12 (fun r13 => (q_gR M l0 11 1 (fun c14 => q_nn c14 (fun r15 => (q_gI M r15 3 4 (fun v16 => (q_ob M l0 11 ((F_X11_draw l0 v16 M).bind (fun x => match x with | (u17, M18) => (q_tI M18 r13 (3 : Int32) u17 (fun M19 => (q_ob M19 l0 11 ((F_X11_draw l0 (10 : Int32) M19).bind (fun x => match x with | (u20, M21) => (if u20 < (8 : Int32) then some ((), M21) else (q_gR M21 l0 11 10 (fun c22 => q_nn c22 (fun r23 => (q_gR M21 l0 11 6 (fun c24 => q_nn c24 (fun r25 => (q_gR M21 l0 11 1 (fun c26 => q_nn c26 (fun r27 => (q_gI M21 r27 3 5 (fun v28 => (q_ob M21 l0 11 ((F_X11_draw l0 v28 M21).bind (fun x => match x with | (u29, M30) => (q_ob M30 r23 0 ((F_X0_carryOut r23 r25 (4 : Int32) u29 (2 : Int32) M30).bind (fun x => match x with | (u31, M32) => some ((), M32))))))))))))))))))))))))))))))))))))))
set_option maxRecDepth 100000 in
set_option maxHeartbeats 4000000 in
theorem jW_X11_meetChance_28 {K : q_K} (C : q_C K yX11_meetChance cX11_meetChance 1 (Option.none : Option Jvm.ClassFile.FieldType) 7 0 0) (l0 : Nat) (M : q_Mem) {r : Unit} {M' : q_Mem} (h : J_X11_meetChance_28 l0 M = some (r, M')) : q_W K 1 (q_Q K none M' 0 0) 0 0 M 28 [some (.ref l0)] [] := by
  unfold J_X11_meetChance_28 at h
  refine q_aload_n C dX11_meetChance_28 rfl ?_
  refine x_getR (ci := 11) (j := 6) C dX11_meetChance_29 lkF_X11_50 rfl h (fun c10 h => ?_)
  refine x_nn h (fun r11 h => ?_)
  refine x_getR (ci := 8) (j := 0) C dX11_meetChance_32 lkF_X11_156 rfl h (fun c12 h => ?_)
  refine x_nn h (fun r13 h => ?_)
  refine x_iconst (v := (3 : Int32)) C dX11_meetChance_35 (by decide) ?_
  refine q_aload_n C dX11_meetChance_36 rfl ?_
  refine q_aload_n C dX11_meetChance_37 rfl ?_
  refine x_getR (ci := 11) (j := 1) C dX11_meetChance_38 lkF_X11_19 rfl h (fun c14 h => ?_)
  refine x_nn h (fun r15 h => ?_)
  refine x_getI (ci := 3) (j := 4) C dX11_meetChance_41 lkF_X11_349 rfl h (fun v16 h => ?_)
  obtain ⟨hk, h⟩ := q_obE h
  obtain ⟨⟨u17, M18⟩, e1, h⟩ := q_bind h
  refine x_callV0 C dX11_meetChance_44 lkM_X11_415 mV_X11_draw ⟨_, rfl, rfl⟩ hk (c_X11_draw _ _ _ _ _ e1) rfl rfl (Nat.le_of_ble_eq_true rfl) (by decide) (by decide) ?_
  refine x_iast C dX11_meetChance_47 h (fun M19 h => ?_)
  refine q_aload_n C dX11_meetChance_48 rfl ?_
  refine x_bipush (v := (10 : Int32)) C dX11_meetChance_49 (by decide) ?_
  obtain ⟨hk, h⟩ := q_obE h
  obtain ⟨⟨u20, M21⟩, e1, h⟩ := q_bind h
  refine x_callV0 C dX11_meetChance_51 lkM_X11_415 mV_X11_draw ⟨_, rfl, rfl⟩ hk (c_X11_draw _ _ _ _ _ e1) rfl rfl (Nat.le_of_ble_eq_true rfl) (by decide) (by decide) ?_
  refine x_bipush (v := (8 : Int32)) C dX11_meetChance_54 (by decide) ?_
  refine q_icmp_lt (tgt := 84) C dX11_meetChance_56 (by decide) h (fun _ h => ?_) (fun _ h => ?_)
  · exact q_vret C dX11_meetChance_84 rfl (by decide) (by decide) (Option.some.inj h)
  · refine q_aload_n C dX11_meetChance_59 rfl ?_
    refine x_getR (ci := 11) (j := 10) C dX11_meetChance_60 lkF_X11_78 rfl h (fun c22 h => ?_)
    refine x_nn h (fun r23 h => ?_)
    refine q_aload_n C dX11_meetChance_63 rfl ?_
    refine x_getR (ci := 11) (j := 6) C dX11_meetChance_64 lkF_X11_50 rfl h (fun c24 h => ?_)
    refine x_nn h (fun r25 h => ?_)
    refine x_iconst (v := (4 : Int32)) C dX11_meetChance_67 (by decide) ?_
    refine q_aload_n C dX11_meetChance_68 rfl ?_
    refine q_aload_n C dX11_meetChance_69 rfl ?_
    refine x_getR (ci := 11) (j := 1) C dX11_meetChance_70 lkF_X11_19 rfl h (fun c26 h => ?_)
    refine x_nn h (fun r27 h => ?_)
    refine x_getI (ci := 3) (j := 5) C dX11_meetChance_73 lkF_X11_336 rfl h (fun v28 h => ?_)
    obtain ⟨hk, h⟩ := q_obE h
    obtain ⟨⟨u29, M30⟩, e1, h⟩ := q_bind h
    refine x_callV0 C dX11_meetChance_76 lkM_X11_415 mV_X11_draw ⟨_, rfl, rfl⟩ hk (c_X11_draw _ _ _ _ _ e1) rfl rfl (Nat.le_of_ble_eq_true rfl) (by decide) (by decide) ?_
    refine x_iconst (v := (2 : Int32)) C dX11_meetChance_79 (by decide) ?_
    obtain ⟨hk, h⟩ := q_obE h
    obtain ⟨⟨u31, M32⟩, e1, h⟩ := q_bind h
    refine x_callV0 C dX11_meetChance_80 lkM_X11_411 mV_X0_carryOut ⟨_, rfl, rfl⟩ hk (c_X0_carryOut _ _ _ _ _ _ _ _ e1) rfl rfl (Nat.le_of_ble_eq_true rfl) (by decide) (by decide) ?_
    refine q_pop C dX11_meetChance_83 rfl ?_
    exact q_vret C dX11_meetChance_84 rfl (by decide) (by decide) (Option.some.inj h)
noncomputable def F_X11_meetChance (l0 : Nat) (M : q_Mem) : Option (Unit × q_Mem) := (q_ob M l0 11 ((F_X11_draw l0 (10 : Int32) M).bind (fun x => match x with | (u1, M2) => (q_gI M2 l0 11 17 (fun v3 => (if u1 < v3 then (q_gR M2 l0 11 10 (fun c4 => q_nn c4 (fun r5 => (q_gR M2 l0 11 6 (fun c6 => q_nn c6 (fun r7 => (q_ob M2 r5 0 ((F_X0_carryOut r5 r7 (2 : Int32) (-1 : Int32) (-1 : Int32) M2).bind (fun x => match x with | (u8, M9) => J_X11_meetChance_28 l0 M9))))))))) else J_X11_meetChance_28 l0 M2))))))
set_option maxRecDepth 100000 in
set_option maxHeartbeats 4000000 in
theorem c_X11_meetChance (l : Launch) (G : q_G) (l0 : Nat) (M : q_Mem) {r : Unit} {M' : q_Mem} (h : F_X11_meetChance l0 M = some (r, M')) : q_Met l G yX11_meetChance cX11_meetChance 1 (Option.none : Option Jvm.ClassFile.FieldType) 7 0 0 [.ref l0] M none M' := by
  unfold F_X11_meetChance at h
  refine q_enter [some (.ref l0)] (by decide) (Nat.le_of_ble_eq_true rfl) rfl (fun K C => ?_)
  refine q_aload_n C dX11_meetChance_0 rfl ?_
  refine x_bipush (v := (10 : Int32)) C dX11_meetChance_1 (by decide) ?_
  obtain ⟨hk, h⟩ := q_obE h
  obtain ⟨⟨u1, M2⟩, e1, h⟩ := q_bind h
  refine x_callV0 C dX11_meetChance_3 lkM_X11_415 mV_X11_draw ⟨_, rfl, rfl⟩ hk (c_X11_draw _ _ _ _ _ e1) rfl rfl (Nat.le_of_ble_eq_true rfl) (by decide) (by decide) ?_
  refine q_aload_n C dX11_meetChance_6 rfl ?_
  refine x_getI (ci := 11) (j := 17) C dX11_meetChance_7 lkF_X11_113 rfl h (fun v3 h => ?_)
  refine q_icmp_ge (tgt := 28) C dX11_meetChance_10 (by decide) h (fun _ h => ?_) (fun _ h => ?_)
  · refine q_aload_n C dX11_meetChance_13 rfl ?_
    refine x_getR (ci := 11) (j := 10) C dX11_meetChance_14 lkF_X11_78 rfl h (fun c4 h => ?_)
    refine x_nn h (fun r5 h => ?_)
    refine q_aload_n C dX11_meetChance_17 rfl ?_
    refine x_getR (ci := 11) (j := 6) C dX11_meetChance_18 lkF_X11_50 rfl h (fun c6 h => ?_)
    refine x_nn h (fun r7 h => ?_)
    refine x_iconst (v := (2 : Int32)) C dX11_meetChance_21 (by decide) ?_
    refine x_iconst (v := (-1 : Int32)) C dX11_meetChance_22 (by decide) ?_
    refine x_iconst (v := (-1 : Int32)) C dX11_meetChance_23 (by decide) ?_
    obtain ⟨hk, h⟩ := q_obE h
    obtain ⟨⟨u8, M9⟩, e1, h⟩ := q_bind h
    refine x_callV0 C dX11_meetChance_24 lkM_X11_411 mV_X0_carryOut ⟨_, rfl, rfl⟩ hk (c_X0_carryOut _ _ _ _ _ _ _ _ e1) rfl rfl (Nat.le_of_ble_eq_true rfl) (by decide) (by decide) ?_
    refine q_pop C dX11_meetChance_27 rfl ?_
    exact q_msk [true] (jW_X11_meetChance_28 C l0 M9 h)
  · exact q_msk [true] (jW_X11_meetChance_28 C l0 M2 h)
noncomputable def B_X11_years_45 (l0 : Nat) (l1 : Int32) (l4 : Int32) (M : q_Mem) : Option ((Int32 × q_Mem) ⊕ (q_Mem)) := (if l4 < l1 then (q_gR M l0 11 7 (fun c8 => q_nn c8 (fun r9 => (q_gR M l0 11 6 (fun c10 => q_nn c10 (fun r11 => (q_ob M r9 8 ((F_X8_copyFrom r9 r11 M).bind (fun x => match x with | (_, M13) => (q_ob M13 l0 11 ((F_X11_meetChance l0 M13).bind (fun x => match x with | (_, M15) => (q_gR M15 l0 11 9 (fun c16 => q_nn c16 (fun r17 => (q_gR M15 l0 11 6 (fun c18 => q_nn c18 (fun r19 => (q_ob M15 r17 1 ((F_X1_pass r17 r19 M15).bind (fun x => match x with | (_, M21) => (q_gR M21 l0 11 8 (fun c22 => q_nn c22 (fun r23 => (q_gR M21 l0 11 7 (fun c24 => q_nn c24 (fun r25 => (q_ob M21 r23 6 ((F_X6_keepAct r23 r25 M21).bind (fun x => match x with | (_, M27) => (q_gR M27 l0 11 8 (fun c28 => q_nn c28 (fun r29 => (q_gR M27 l0 11 6 (fun c30 => q_nn c30 (fun r31 => (q_gR M27 l0 11 9 (fun c32 => q_nn c32 (fun r33 => (q_ob M27 r29 6 ((F_X6_writeLog r29 r31 r33 M27).bind (fun x => match x with | (_, M35) => some (.inl ((l4 + (1 : Int32)), M35)))))))))))))))))))))))))))))))))))))))))))) else some (.inr M))
set_option maxRecDepth 100000 in
set_option maxHeartbeats 4000000 in
theorem bW_X11_years_45 {K : q_K} {Q : State → Prop} (C : q_C K yX11_years cX11_years 5 (Option.some Jvm.ClassFile.FieldType.int) 8 0 0) (l0 : Nat) (l1 : Int32) (l4 : Int32) (M : q_Mem) {stp : (Int32 × q_Mem) ⊕ (q_Mem)} (h : B_X11_years_45 l0 l1 l4 M = some stp) (kC : ∀ (l4 : Int32) (M : q_Mem), stp = .inl (l4, M) → q_W K 5 Q 0 0 M 45 [some (.ref l0), some (.int l1), none, none, some (.int l4)] []) (kE0 : ∀ (M : q_Mem), stp = .inr M → q_W K 5 Q 0 0 M 109 [some (.ref l0), none, none, none, none] []) : q_W K 5 Q 0 0 M 45 [some (.ref l0), some (.int l1), none, none, some (.int l4)] [] := by
  unfold B_X11_years_45 at h
  refine q_iload C dX11_years_45 rfl ?_
  refine q_iload_n C dX11_years_47 rfl ?_
  refine q_icmp_ge (tgt := 109) C dX11_years_48 (by decide) h (fun _ h => ?_) (fun _ h => ?_)
  · refine q_aload_n C dX11_years_51 rfl ?_
    refine x_getR (ci := 11) (j := 7) C dX11_years_52 lkF_X11_54 rfl h (fun c8 h => ?_)
    refine x_nn h (fun r9 h => ?_)
    refine q_aload_n C dX11_years_55 rfl ?_
    refine x_getR (ci := 11) (j := 6) C dX11_years_56 lkF_X11_50 rfl h (fun c10 h => ?_)
    refine x_nn h (fun r11 h => ?_)
    obtain ⟨hk, h⟩ := q_obE h
    obtain ⟨⟨_, M13⟩, e1, h⟩ := q_bind h
    refine x_callVv0 C dX11_years_59 lkM_X11_204 mV_X8_copyFrom ⟨_, rfl, rfl⟩ hk (c_X8_copyFrom _ _ _ _ _ e1) rfl rfl (Nat.le_of_ble_eq_true rfl) (by decide) (by decide) ?_
    refine q_aload_n C dX11_years_62 rfl ?_
    obtain ⟨hk, h⟩ := q_obE h
    obtain ⟨⟨_, M15⟩, e1, h⟩ := q_bind h
    refine x_callVv0 C dX11_years_63 lkM_X11_208 mV_X11_meetChance ⟨_, rfl, rfl⟩ hk (c_X11_meetChance _ _ _ _ e1) rfl rfl (Nat.le_of_ble_eq_true rfl) (by decide) (by decide) ?_
    refine q_aload_n C dX11_years_66 rfl ?_
    refine x_getR (ci := 11) (j := 9) C dX11_years_67 lkF_X11_69 rfl h (fun c16 h => ?_)
    refine x_nn h (fun r17 h => ?_)
    refine q_aload_n C dX11_years_70 rfl ?_
    refine x_getR (ci := 11) (j := 6) C dX11_years_71 lkF_X11_50 rfl h (fun c18 h => ?_)
    refine x_nn h (fun r19 h => ?_)
    obtain ⟨hk, h⟩ := q_obE h
    obtain ⟨⟨_, M21⟩, e1, h⟩ := q_bind h
    refine x_callVv0 C dX11_years_74 lkM_X11_211 mV_X1_pass ⟨_, rfl, rfl⟩ hk (c_X1_pass _ _ _ _ _ e1) rfl rfl (Nat.le_of_ble_eq_true rfl) (by decide) (by decide) ?_
    refine q_aload_n C dX11_years_77 rfl ?_
    refine x_getR (ci := 11) (j := 8) C dX11_years_78 lkF_X11_60 rfl h (fun c22 h => ?_)
    refine x_nn h (fun r23 h => ?_)
    refine q_aload_n C dX11_years_81 rfl ?_
    refine x_getR (ci := 11) (j := 7) C dX11_years_82 lkF_X11_54 rfl h (fun c24 h => ?_)
    refine x_nn h (fun r25 h => ?_)
    obtain ⟨hk, h⟩ := q_obE h
    obtain ⟨⟨_, M27⟩, e1, h⟩ := q_bind h
    refine x_callVv0 C dX11_years_85 lkM_X11_214 mV_X6_keepAct ⟨_, rfl, rfl⟩ hk (c_X6_keepAct _ _ _ _ _ e1) rfl rfl (Nat.le_of_ble_eq_true rfl) (by decide) (by decide) ?_
    refine q_aload_n C dX11_years_88 rfl ?_
    refine x_getR (ci := 11) (j := 8) C dX11_years_89 lkF_X11_60 rfl h (fun c28 h => ?_)
    refine x_nn h (fun r29 h => ?_)
    refine q_aload_n C dX11_years_92 rfl ?_
    refine x_getR (ci := 11) (j := 6) C dX11_years_93 lkF_X11_50 rfl h (fun c30 h => ?_)
    refine x_nn h (fun r31 h => ?_)
    refine q_aload_n C dX11_years_96 rfl ?_
    refine x_getR (ci := 11) (j := 9) C dX11_years_97 lkF_X11_69 rfl h (fun c32 h => ?_)
    refine x_nn h (fun r33 h => ?_)
    obtain ⟨hk, h⟩ := q_obE h
    obtain ⟨⟨_, M35⟩, e1, h⟩ := q_bind h
    refine x_callVv0 C dX11_years_100 lkM_X11_217 mV_X6_writeLog ⟨_, rfl, rfl⟩ hk (c_X6_writeLog _ _ _ _ _ _ e1) rfl rfl (Nat.le_of_ble_eq_true rfl) (by decide) (by decide) ?_
    refine x_iinc (w := (1 : Int32)) (L' := [some (.ref l0), some (.int l1), none, none, some (.int (l4 + (1 : Int32)))]) C dX11_years_103 rfl (by decide) (by decide) rfl rfl ?_
    refine q_goto (tgt := 45) C dX11_years_106 (by decide) ?_
    exact q_msk [true, true, false, false, true] (kC _ _ (Option.some.inj h).symm)
  · exact q_msk [true, false, false, false, false] (kE0 _ (Option.some.inj h).symm)
set_option maxRecDepth 100000 in
set_option maxHeartbeats 4000000 in
theorem lW_X11_years_45 {K : q_K} {Q : State → Prop} (C : q_C K yX11_years cX11_years 5 (Option.some Jvm.ClassFile.FieldType.int) 8 0 0) (l0 : Nat) (l1 : Int32) (n : Nat) : ∀ (l4 : Int32) (M : q_Mem) (e : (q_Mem)), q_lp (fun s => B_X11_years_45 l0 l1 s.1 s.2) n (l4, M) = some e → (∀ (M : q_Mem), e = M → q_W K 5 Q 0 0 M 109 [some (.ref l0), none, none, none, none] []) → q_W K 5 Q 0 0 M 45 [some (.ref l0), some (.int l1), none, none, some (.int l4)] [] := by
  induction n with
  | zero => intro l4 M e h; cases h
  | succ n ih =>
    intro l4 M e h kE0
    obtain ⟨stp, e1, e2⟩ := q_bind h
    refine bW_X11_years_45 C l0 l1 l4 M e1 (fun a0 a1 hs => ?_) (fun b0 hs => ?_)
    · subst hs; exact ih _ _ _ e2 kE0
    · subst hs; exact kE0 _ (Option.some.inj e2).symm
noncomputable def F_X11_years (l0 : Nat) (l1 : Int32) (l2 : Int64) (M : q_Mem) : Option (Int32 × q_Mem) := (q_gI M l0 11 18 (fun v1 => (if v1 = 0 then some ((-1 : Int32), M) else (if l1 < (1 : Int32) then some ((-1 : Int32), M) else (if (30 : Int32) < l1 then some ((-1 : Int32), M) else (q_gR M l0 11 6 (fun c2 => q_nn c2 (fun r3 => (q_gR M r3 8 0 (fun c4 => q_nn c4 (fun r5 => (q_lI M 0 r5 (0 : Int32) (fun v6 => (if (999 : Int32) < (v6 + l1) then some ((-1 : Int32), M) else (q_pL M l0 11 19 l2 (fun M7 => (q_lp (fun s => B_X11_years_45 l0 l1 s.1 s.2) q_fu ((0 : Int32), M7)).bind (fun e36 => match e36 with | M37 => (q_gR M37 l0 11 6 (fun c38 => q_nn c38 (fun r39 => (q_gR M37 r39 8 0 (fun c40 => q_nn c40 (fun r41 => (q_lI M37 0 r41 (0 : Int32) (fun v42 => some (v42, M37))))))))))))))))))))))))))
set_option maxRecDepth 100000 in
set_option maxHeartbeats 4000000 in
theorem c_X11_years (l : Launch) (G : q_G) (l0 : Nat) (l1 : Int32) (l2 : Int64) (M : q_Mem) {r : Int32} {M' : q_Mem} (h : F_X11_years l0 l1 l2 M = some (r, M')) : q_Met l G yX11_years cX11_years 5 (Option.some Jvm.ClassFile.FieldType.int) 8 0 0 [.ref l0, .int l1, .long l2] M (some (.int r)) M' := by
  unfold F_X11_years at h
  refine q_enter [some (.ref l0), some (.int l1), some (.long l2), none, none] (by decide) (Nat.le_of_ble_eq_true rfl) rfl (fun K C => ?_)
  refine q_aload_n C dX11_years_0 rfl ?_
  refine x_getI (ci := 11) (j := 18) C dX11_years_1 lkF_X11_116 rfl h (fun v1 h => ?_)
  refine q_if_eq (tgt := 35) C dX11_years_4 (by decide) h (fun _ h => ?_) (fun _ h => ?_)
  · refine x_iconst (v := (-1 : Int32)) C dX11_years_35 (by decide) ?_
    exact q_iret C dX11_years_36 rfl (by decide) (by decide) (Option.some.inj h)
  · refine q_iload_n C dX11_years_7 rfl ?_
    refine x_iconst (v := (1 : Int32)) C dX11_years_8 (by decide) ?_
    refine q_icmp_lt (tgt := 35) C dX11_years_9 (by decide) h (fun _ h => ?_) (fun _ h => ?_)
    · refine x_iconst (v := (-1 : Int32)) C dX11_years_35 (by decide) ?_
      exact q_iret C dX11_years_36 rfl (by decide) (by decide) (Option.some.inj h)
    · refine q_iload_n C dX11_years_12 rfl ?_
      refine x_bipush (v := (30 : Int32)) C dX11_years_13 (by decide) ?_
      refine q_icmp_gt (tgt := 35) C dX11_years_15 (by decide) h (fun _ h => ?_) (fun _ h => ?_)
      · refine x_iconst (v := (-1 : Int32)) C dX11_years_35 (by decide) ?_
        exact q_iret C dX11_years_36 rfl (by decide) (by decide) (Option.some.inj h)
      · refine q_aload_n C dX11_years_18 rfl ?_
        refine x_getR (ci := 11) (j := 6) C dX11_years_19 lkF_X11_50 rfl h (fun c2 h => ?_)
        refine x_nn h (fun r3 h => ?_)
        refine x_getR (ci := 8) (j := 0) C dX11_years_22 lkF_X11_156 rfl h (fun c4 h => ?_)
        refine x_nn h (fun r5 h => ?_)
        refine x_iconst (v := (0 : Int32)) C dX11_years_25 (by decide) ?_
        refine x_iald C dX11_years_26 h (fun v6 h => ?_)
        refine q_iload_n C dX11_years_27 rfl ?_
        refine q_iadd C dX11_years_28 ?_
        refine x_sipush (v := (999 : Int32)) C dX11_years_29 (by decide) ?_
        refine q_icmp_le (tgt := 37) C dX11_years_32 (by decide) h (fun _ h => ?_) (fun _ h => ?_)
        · refine x_iconst (v := (-1 : Int32)) C dX11_years_35 (by decide) ?_
          exact q_iret C dX11_years_36 rfl (by decide) (by decide) (Option.some.inj h)
        · refine q_aload_n C dX11_years_37 rfl ?_
          refine q_lload_n C dX11_years_38 rfl ?_
          refine x_putL (ci := 11) (j := 19) C dX11_years_39 lkF_X11_120 (fun r hr => by cases hr; rfl) rfl h (fun M7 h => ?_)
          refine x_iconst (v := (0 : Int32)) C dX11_years_42 (by decide) ?_
          refine q_istore (L' := [some (.ref l0), some (.int l1), some (.long l2), none, some (.int (0 : Int32))]) C dX11_years_43 (by decide) rfl rfl ?_
          obtain ⟨e36, he, h⟩ := q_bind h
          refine q_msk [true, true, false, false, true] (lW_X11_years_45 C l0 l1 q_fu _ _ _ he (fun M37 hs => ?_))
          · have hs := hs.symm
            subst hs
            refine q_aload_n C dX11_years_109 rfl ?_
            refine x_getR (ci := 11) (j := 6) C dX11_years_110 lkF_X11_50 rfl h (fun c38 h => ?_)
            refine x_nn h (fun r39 h => ?_)
            refine x_getR (ci := 8) (j := 0) C dX11_years_113 lkF_X11_156 rfl h (fun c40 h => ?_)
            refine x_nn h (fun r41 h => ?_)
            refine x_iconst (v := (0 : Int32)) C dX11_years_116 (by decide) ?_
            refine x_iald C dX11_years_117 h (fun v42 h => ?_)
            exact q_iret C dX11_years_118 rfl (by decide) (by decide) (Option.some.inj h)
noncomputable def F_X11_undo (l0 : Nat) (M : q_Mem) : Option (Int32 × q_Mem) := (q_gR M l0 11 8 (fun c1 => q_nn c1 (fun r2 => (q_gR M l0 11 6 (fun c3 => q_nn c3 (fun r4 => (q_ob M r2 6 ((F_X6_undoAct r2 r4 M).bind (fun x => match x with | (u5, M6) => (if u5 = 0 then some ((-1 : Int32), M6) else (q_gR M6 l0 11 8 (fun c7 => q_nn c7 (fun r8 => (q_gI M6 r8 6 6 (fun v9 => some (v9, M6))))))))))))))))
set_option maxRecDepth 100000 in
set_option maxHeartbeats 4000000 in
theorem c_X11_undo (l : Launch) (G : q_G) (l0 : Nat) (M : q_Mem) {r : Int32} {M' : q_Mem} (h : F_X11_undo l0 M = some (r, M')) : q_Met l G yX11_undo cX11_undo 1 (Option.some Jvm.ClassFile.FieldType.int) 3 0 0 [.ref l0] M (some (.int r)) M' := by
  unfold F_X11_undo at h
  refine q_enter [some (.ref l0)] (by decide) (Nat.le_of_ble_eq_true rfl) rfl (fun K C => ?_)
  refine q_aload_n C dX11_undo_0 rfl ?_
  refine x_getR (ci := 11) (j := 8) C dX11_undo_1 lkF_X11_60 rfl h (fun c1 h => ?_)
  refine x_nn h (fun r2 h => ?_)
  refine q_aload_n C dX11_undo_4 rfl ?_
  refine x_getR (ci := 11) (j := 6) C dX11_undo_5 lkF_X11_50 rfl h (fun c3 h => ?_)
  refine x_nn h (fun r4 h => ?_)
  obtain ⟨hk, h⟩ := q_obE h
  obtain ⟨⟨u5, M6⟩, e1, h⟩ := q_bind h
  refine x_callV0 C dX11_undo_8 lkM_X11_221 mV_X6_undoAct ⟨_, rfl, rfl⟩ hk (c_X6_undoAct _ _ _ _ _ e1) rfl rfl (Nat.le_of_ble_eq_true rfl) (by decide) (by decide) ?_
  refine q_if_eq (tgt := 24) C dX11_undo_11 (by decide) h (fun _ h => ?_) (fun _ h => ?_)
  · refine x_iconst (v := (-1 : Int32)) C dX11_undo_24 (by decide) ?_
    exact q_iret C dX11_undo_25 rfl (by decide) (by decide) (Option.some.inj h)
  · refine q_aload_n C dX11_undo_14 rfl ?_
    refine x_getR (ci := 11) (j := 8) C dX11_undo_15 lkF_X11_60 rfl h (fun c7 h => ?_)
    refine x_nn h (fun r8 h => ?_)
    refine x_getI (ci := 6) (j := 6) C dX11_undo_18 lkF_X11_225 rfl h (fun v9 h => ?_)
    refine q_goto (tgt := 25) C dX11_undo_21 (by decide) ?_
    exact q_iret C dX11_undo_25 rfl (by decide) (by decide) (Option.some.inj h)
noncomputable def F_X11_log (l0 : Nat) (l1 : Int32) (l2 : Int32) (M : q_Mem) : Option (Int32) := (q_gR M l0 11 6 (fun c1 => q_nn c1 (fun r2 => (q_gR M r2 8 0 (fun c3 => q_nn c3 (fun r4 => (q_lI M 0 r4 (0 : Int32) (fun v5 => (if l1 < 0 then some (-1000000 : Int32) else ((F_X6_logLength v5 M).bind (fun u6 => (if l1 < u6 then (if l2 < 0 then some (-1000000 : Int32) else (if l2 < (3 : Int32) then (q_gR M l0 11 8 (fun c7 => q_nn c7 (fun r8 => (q_ob M r8 6 ((F_X6_ofLog r8 ((v5 - (1 : Int32)) - l1) l2 M).bind (fun u9 => some u9)))))) else some (-1000000 : Int32))) else some (-1000000 : Int32)))))))))))))
set_option maxRecDepth 100000 in
set_option maxHeartbeats 4000000 in
theorem c_X11_log (l : Launch) (G : q_G) (l0 : Nat) (l1 : Int32) (l2 : Int32) (M : q_Mem) {r : Int32} (h : F_X11_log l0 l1 l2 M = some r) : q_Met l G yX11_log cX11_log 4 (Option.some Jvm.ClassFile.FieldType.int) 3 0 0 [.ref l0, .int l1, .int l2] M (some (.int r)) M := by
  unfold F_X11_log at h
  refine q_enter [some (.ref l0), some (.int l1), some (.int l2), none] (by decide) (Nat.le_of_ble_eq_true rfl) rfl (fun K C => ?_)
  refine q_aload_n C dX11_log_0 rfl ?_
  refine x_getR (ci := 11) (j := 6) C dX11_log_1 lkF_X11_50 rfl h (fun c1 h => ?_)
  refine x_nn h (fun r2 h => ?_)
  refine x_getR (ci := 8) (j := 0) C dX11_log_4 lkF_X11_156 rfl h (fun c3 h => ?_)
  refine x_nn h (fun r4 h => ?_)
  refine x_iconst (v := (0 : Int32)) C dX11_log_7 (by decide) ?_
  refine x_iald C dX11_log_8 h (fun v5 h => ?_)
  refine q_istore_n (L' := [some (.ref l0), some (.int l1), some (.int l2), some (.int v5)]) C dX11_log_9 (by decide) rfl rfl ?_
  refine q_iload_n C dX11_log_10 rfl ?_
  refine q_if_lt (tgt := 31) C dX11_log_11 (by decide) h (fun _ h => ?_) (fun _ h => ?_)
  · refine q_ldc (v := (-1000000 : Int32)) C dX11_log_31 wd_866 ?_
    exact q_iret (res := (r, M)) C dX11_log_33 rfl (by decide) (by decide) (congrArg (fun z => (z, M)) (Option.some.inj h))
  · refine q_iload_n C dX11_log_14 rfl ?_
    refine q_iload_n C dX11_log_15 rfl ?_
    obtain ⟨u6, e1, h⟩ := q_bind h
    refine x_callS0 C dX11_log_16 lkM_X11_228 mS_X6_logLength (c_X6_logLength _ _ _ _ e1) rfl rfl (Nat.le_of_ble_eq_true rfl) (by decide) (by decide) ?_
    refine q_icmp_ge (tgt := 31) C dX11_log_19 (by decide) h (fun _ h => ?_) (fun _ h => ?_)
    · refine q_iload_n C dX11_log_22 rfl ?_
      refine q_if_lt (tgt := 31) C dX11_log_23 (by decide) h (fun _ h => ?_) (fun _ h => ?_)
      · refine q_ldc (v := (-1000000 : Int32)) C dX11_log_31 wd_866 ?_
        exact q_iret (res := (r, M)) C dX11_log_33 rfl (by decide) (by decide) (congrArg (fun z => (z, M)) (Option.some.inj h))
      · refine q_iload_n C dX11_log_26 rfl ?_
        refine x_iconst (v := (3 : Int32)) C dX11_log_27 (by decide) ?_
        refine q_icmp_lt (tgt := 34) C dX11_log_28 (by decide) h (fun _ h => ?_) (fun _ h => ?_)
        · refine q_aload_n C dX11_log_34 rfl ?_
          refine x_getR (ci := 11) (j := 8) C dX11_log_35 lkF_X11_60 rfl h (fun c7 h => ?_)
          refine x_nn h (fun r8 h => ?_)
          refine q_iload_n C dX11_log_38 rfl ?_
          refine x_iconst (v := (1 : Int32)) C dX11_log_39 (by decide) ?_
          refine q_isub C dX11_log_40 ?_
          refine q_iload_n C dX11_log_41 rfl ?_
          refine q_isub C dX11_log_42 ?_
          refine q_iload_n C dX11_log_43 rfl ?_
          obtain ⟨hk, h⟩ := q_obE h
          obtain ⟨u9, e1, h⟩ := q_bind h
          refine x_callV0 C dX11_log_44 lkM_X11_232 mV_X6_ofLog ⟨_, rfl, rfl⟩ hk (c_X6_ofLog _ _ _ _ _ _ e1) rfl rfl (Nat.le_of_ble_eq_true rfl) (by decide) (by decide) ?_
          exact q_iret (res := (r, M)) C dX11_log_47 rfl (by decide) (by decide) (congrArg (fun z => (z, M)) (Option.some.inj h))
        · refine q_ldc (v := (-1000000 : Int32)) C dX11_log_31 wd_866 ?_
          exact q_iret (res := (r, M)) C dX11_log_33 rfl (by decide) (by decide) (congrArg (fun z => (z, M)) (Option.some.inj h))
    · refine q_ldc (v := (-1000000 : Int32)) C dX11_log_31 wd_866 ?_
      exact q_iret (res := (r, M)) C dX11_log_33 rfl (by decide) (by decide) (congrArg (fun z => (z, M)) (Option.some.inj h))
noncomputable def F_X11_weekAt (l0 : Nat) (l1 : Int32) (M : q_Mem) : Option (Nat) := (if l1 < 0 then some 0 else (q_gI M l0 11 15 (fun v1 => (if l1 < v1 then (q_gR M l0 11 5 (fun c2 => q_nn c2 (fun r3 => (q_lR M 4 r3 l1 (fun c4 => some c4))))) else some 0))))
set_option maxRecDepth 100000 in
set_option maxHeartbeats 4000000 in
theorem c_X11_weekAt (l : Launch) (G : q_G) (l0 : Nat) (l1 : Int32) (M : q_Mem) {r : Nat} (h : F_X11_weekAt l0 l1 M = some r) : q_Met l G yX11_weekAt cX11_weekAt 2 (Option.some (Jvm.ClassFile.FieldType.object "GongHouse$Week")) 1 0 0 [.ref l0, .int l1] M (some (q_rc r)) M := by
  unfold F_X11_weekAt at h
  refine q_enter [some (.ref l0), some (.int l1)] (by decide) (Nat.le_of_ble_eq_true rfl) rfl (fun K C => ?_)
  refine q_iload_n C dX11_weekAt_0 rfl ?_
  refine q_if_lt (tgt := 12) C dX11_weekAt_1 (by decide) h (fun _ h => ?_) (fun _ h => ?_)
  · refine q_null C dX11_weekAt_12 ?_
    refine q_goto (tgt := 22) C dX11_weekAt_13 (by decide) ?_
    exact q_aret (x := 0) (res := (r, M)) C dX11_weekAt_22 rfl (Or.inl ⟨_, rfl⟩) (by decide) (by decide) (congrArg (fun z => (z, M)) (Option.some.inj h))
  · refine q_iload_n C dX11_weekAt_4 rfl ?_
    refine q_aload_n C dX11_weekAt_5 rfl ?_
    refine x_getI (ci := 11) (j := 15) C dX11_weekAt_6 lkF_X11_107 rfl h (fun v1 h => ?_)
    refine q_icmp_lt (tgt := 16) C dX11_weekAt_9 (by decide) h (fun _ h => ?_) (fun _ h => ?_)
    · refine q_aload_n C dX11_weekAt_16 rfl ?_
      refine x_getR (ci := 11) (j := 5) C dX11_weekAt_17 lkF_X11_43 rfl h (fun c2 h => ?_)
      refine x_nn h (fun r3 h => ?_)
      refine q_iload_n C dX11_weekAt_20 rfl ?_
      refine x_aald C dX11_weekAt_21 (by decide) h (fun c4 h => ?_)
      exact q_aret (x := c4) (res := (r, M)) C dX11_weekAt_22 rfl (Or.inl ⟨_, rfl⟩) (by decide) (by decide) (congrArg (fun z => (z, M)) (Option.some.inj h))
    · refine q_null C dX11_weekAt_12 ?_
      refine q_goto (tgt := 22) C dX11_weekAt_13 (by decide) ?_
      exact q_aret (x := 0) (res := (r, M)) C dX11_weekAt_22 rfl (Or.inl ⟨_, rfl⟩) (by decide) (by decide) (congrArg (fun z => (z, M)) (Option.some.inj h))
noncomputable def F_X11_step (l0 : Nat) (l1 : Int32) (l2 : Int32) (l3 : Int32) (M : q_Mem) : Option (Int32) := (q_ob M l0 11 ((F_X11_weekAt l0 l1 M).bind (fun u1 => (match u1 with | 0 => some (-1000000 : Int32) | r2 + 1 => (if l2 < 0 then some (-1000000 : Int32) else (q_gI M r2 10 1 (fun v3 => (if l2 < v3 then (if l3 < 0 then some (-1000000 : Int32) else (if l3 < (3 : Int32) then (q_ob M r2 10 ((F_X10_ofStep r2 l2 l3 M).bind (fun u4 => some u4))) else some (-1000000 : Int32))) else some (-1000000 : Int32)))))))))
set_option maxRecDepth 100000 in
set_option maxHeartbeats 4000000 in
theorem c_X11_step (l : Launch) (G : q_G) (l0 : Nat) (l1 : Int32) (l2 : Int32) (l3 : Int32) (M : q_Mem) {r : Int32} (h : F_X11_step l0 l1 l2 l3 M = some r) : q_Met l G yX11_step cX11_step 5 (Option.some Jvm.ClassFile.FieldType.int) 2 0 0 [.ref l0, .int l1, .int l2, .int l3] M (some (.int r)) M := by
  unfold F_X11_step at h
  refine q_enter [some (.ref l0), some (.int l1), some (.int l2), some (.int l3), none] (by decide) (Nat.le_of_ble_eq_true rfl) rfl (fun K C => ?_)
  refine q_aload_n C dX11_step_0 rfl ?_
  refine q_iload_n C dX11_step_1 rfl ?_
  obtain ⟨hk, h⟩ := q_obE h
  obtain ⟨u1, e1, h⟩ := q_bind h
  refine x_callV0 C dX11_step_2 lkM_X11_235 mV_X11_weekAt ⟨_, rfl, rfl⟩ hk (c_X11_weekAt _ _ _ _ _ e1) rfl rfl (Nat.le_of_ble_eq_true rfl) (by decide) (by decide) ?_
  refine q_astoreC (L' := [some (.ref l0), some (.int l1), some (.int l2), some (.int l3), some (q_rc u1)]) C dX11_step_5 (by decide) rfl rfl ?_
  refine q_aloadC C dX11_step_7 rfl ?_
  refine q_ifnull (tgt := 34) C dX11_step_9 (by decide) h (fun hn h => ?_) (fun r2 hn h => ?_)
  · subst hn
    refine q_ldc (v := (-1000000 : Int32)) C dX11_step_34 wd_866 ?_
    exact q_iret (res := (r, M)) C dX11_step_36 rfl (by decide) (by decide) (congrArg (fun z => (z, M)) (Option.some.inj h))
  · subst hn
    refine q_iload_n C dX11_step_12 rfl ?_
    refine q_if_lt (tgt := 34) C dX11_step_13 (by decide) h (fun _ h => ?_) (fun _ h => ?_)
    · refine q_ldc (v := (-1000000 : Int32)) C dX11_step_34 wd_866 ?_
      exact q_iret (res := (r, M)) C dX11_step_36 rfl (by decide) (by decide) (congrArg (fun z => (z, M)) (Option.some.inj h))
    · refine q_iload_n C dX11_step_16 rfl ?_
      refine q_aload C dX11_step_17 rfl ?_
      refine x_getI (ci := 10) (j := 1) C dX11_step_19 lkF_X11_239 rfl h (fun v3 h => ?_)
      refine q_icmp_ge (tgt := 34) C dX11_step_22 (by decide) h (fun _ h => ?_) (fun _ h => ?_)
      · refine q_iload_n C dX11_step_25 rfl ?_
        refine q_if_lt (tgt := 34) C dX11_step_26 (by decide) h (fun _ h => ?_) (fun _ h => ?_)
        · refine q_ldc (v := (-1000000 : Int32)) C dX11_step_34 wd_866 ?_
          exact q_iret (res := (r, M)) C dX11_step_36 rfl (by decide) (by decide) (congrArg (fun z => (z, M)) (Option.some.inj h))
        · refine q_iload_n C dX11_step_29 rfl ?_
          refine x_iconst (v := (3 : Int32)) C dX11_step_30 (by decide) ?_
          refine q_icmp_lt (tgt := 37) C dX11_step_31 (by decide) h (fun _ h => ?_) (fun _ h => ?_)
          · refine q_aload C dX11_step_37 rfl ?_
            refine q_iload_n C dX11_step_39 rfl ?_
            refine q_iload_n C dX11_step_40 rfl ?_
            obtain ⟨hk, h⟩ := q_obE h
            obtain ⟨u4, e1, h⟩ := q_bind h
            refine x_callV0 C dX11_step_41 lkM_X11_242 mV_X10_ofStep ⟨_, rfl, rfl⟩ hk (c_X10_ofStep _ _ _ _ _ _ e1) rfl rfl (Nat.le_of_ble_eq_true rfl) (by decide) (by decide) ?_
            exact q_iret (res := (r, M)) C dX11_step_44 rfl (by decide) (by decide) (congrArg (fun z => (z, M)) (Option.some.inj h))
          · refine q_ldc (v := (-1000000 : Int32)) C dX11_step_34 wd_866 ?_
            exact q_iret (res := (r, M)) C dX11_step_36 rfl (by decide) (by decide) (congrArg (fun z => (z, M)) (Option.some.inj h))
      · refine q_ldc (v := (-1000000 : Int32)) C dX11_step_34 wd_866 ?_
        exact q_iret (res := (r, M)) C dX11_step_36 rfl (by decide) (by decide) (congrArg (fun z => (z, M)) (Option.some.inj h))
noncomputable def F_X11_run (l0 : Nat) (l1 : Int32) (l2 : Int32) (M : q_Mem) : Option (Int32 × q_Mem) := (q_ob M l0 11 ((F_X11_weekAt l0 l1 M).bind (fun u1 => (match u1 with | 0 => some ((-1000000 : Int32), M) | r2 + 1 => (q_gI M l0 11 18 (fun v3 => (if v3 = 0 then some ((-1000000 : Int32), M) else (if l2 < 0 then some ((-1000000 : Int32), M) else (if (1 : Int32) < l2 then some ((-1000000 : Int32), M) else (q_gR M l0 11 11 (fun c4 => q_nn c4 (fun r5 => (q_gR M l0 11 6 (fun c6 => q_nn c6 (fun r7 => (q_ob M r5 2 ((F_X2_stepsDone r5 r7 r2 M).bind (fun x => match x with | (u8, M9) => (if l2 = (1 : Int32) then (q_gR M9 l0 11 11 (fun c10 => q_nn c10 (fun r11 => (q_gI M9 r11 2 7 (fun v12 => some (v12, M9)))))) else (q_gI M9 r2 10 1 (fun v13 => (if u8 = v13 then some ((-1 : Int32), M9) else some (u8, M9)))))))))))))))))))))))
set_option maxRecDepth 100000 in
set_option maxHeartbeats 4000000 in
theorem c_X11_run (l : Launch) (G : q_G) (l0 : Nat) (l1 : Int32) (l2 : Int32) (M : q_Mem) {r : Int32} {M' : q_Mem} (h : F_X11_run l0 l1 l2 M = some (r, M')) : q_Met l G yX11_run cX11_run 5 (Option.some Jvm.ClassFile.FieldType.int) 8 0 0 [.ref l0, .int l1, .int l2] M (some (.int r)) M' := by
  unfold F_X11_run at h
  refine q_enter [some (.ref l0), some (.int l1), some (.int l2), none, none] (by decide) (Nat.le_of_ble_eq_true rfl) rfl (fun K C => ?_)
  refine q_aload_n C dX11_run_0 rfl ?_
  refine q_iload_n C dX11_run_1 rfl ?_
  obtain ⟨hk, h⟩ := q_obE h
  obtain ⟨u1, e1, h⟩ := q_bind h
  refine x_callV0 C dX11_run_2 lkM_X11_235 mV_X11_weekAt ⟨_, rfl, rfl⟩ hk (c_X11_weekAt _ _ _ _ _ e1) rfl rfl (Nat.le_of_ble_eq_true rfl) (by decide) (by decide) ?_
  refine q_astoreC_n (L' := [some (.ref l0), some (.int l1), some (.int l2), some (q_rc u1), none]) C dX11_run_5 (by decide) rfl rfl ?_
  refine q_aloadC_n C dX11_run_6 rfl ?_
  refine q_ifnull (tgt := 26) C dX11_run_7 (by decide) h (fun hn h => ?_) (fun r2 hn h => ?_)
  · subst hn
    refine q_ldc (v := (-1000000 : Int32)) C dX11_run_26 wd_866 ?_
    exact q_iret C dX11_run_28 rfl (by decide) (by decide) (Option.some.inj h)
  · subst hn
    refine q_aload_n C dX11_run_10 rfl ?_
    refine x_getI (ci := 11) (j := 18) C dX11_run_11 lkF_X11_116 rfl h (fun v3 h => ?_)
    refine q_if_eq (tgt := 26) C dX11_run_14 (by decide) h (fun _ h => ?_) (fun _ h => ?_)
    · refine q_ldc (v := (-1000000 : Int32)) C dX11_run_26 wd_866 ?_
      exact q_iret C dX11_run_28 rfl (by decide) (by decide) (Option.some.inj h)
    · refine q_iload_n C dX11_run_17 rfl ?_
      refine q_if_lt (tgt := 26) C dX11_run_18 (by decide) h (fun _ h => ?_) (fun _ h => ?_)
      · refine q_ldc (v := (-1000000 : Int32)) C dX11_run_26 wd_866 ?_
        exact q_iret C dX11_run_28 rfl (by decide) (by decide) (Option.some.inj h)
      · refine q_iload_n C dX11_run_21 rfl ?_
        refine x_iconst (v := (1 : Int32)) C dX11_run_22 (by decide) ?_
        refine q_icmp_le (tgt := 29) C dX11_run_23 (by decide) h (fun _ h => ?_) (fun _ h => ?_)
        · refine q_ldc (v := (-1000000 : Int32)) C dX11_run_26 wd_866 ?_
          exact q_iret C dX11_run_28 rfl (by decide) (by decide) (Option.some.inj h)
        · refine q_aload_n C dX11_run_29 rfl ?_
          refine x_getR (ci := 11) (j := 11) C dX11_run_30 lkF_X11_87 rfl h (fun c4 h => ?_)
          refine x_nn h (fun r5 h => ?_)
          refine q_aload_n C dX11_run_33 rfl ?_
          refine x_getR (ci := 11) (j := 6) C dX11_run_34 lkF_X11_50 rfl h (fun c6 h => ?_)
          refine x_nn h (fun r7 h => ?_)
          refine q_aload_n C dX11_run_37 rfl ?_
          obtain ⟨hk, h⟩ := q_obE h
          obtain ⟨⟨u8, M9⟩, e1, h⟩ := q_bind h
          refine x_callV0 C dX11_run_38 lkM_X11_245 mV_X2_stepsDone ⟨_, rfl, rfl⟩ hk (c_X2_stepsDone _ _ _ _ _ _ e1) rfl rfl (Nat.le_of_ble_eq_true rfl) (by decide) (by decide) ?_
          refine q_istore (L' := [some (.ref l0), some (.int l1), some (.int l2), some (.ref r2), some (.int u8)]) C dX11_run_41 (by decide) rfl rfl ?_
          refine q_iload_n C dX11_run_43 rfl ?_
          refine x_iconst (v := (1 : Int32)) C dX11_run_44 (by decide) ?_
          refine q_icmp_ne (tgt := 56) C dX11_run_45 (by decide) h (fun _ h => ?_) (fun _ h => ?_)
          · refine q_aload_n C dX11_run_48 rfl ?_
            refine x_getR (ci := 11) (j := 11) C dX11_run_49 lkF_X11_87 rfl h (fun c10 h => ?_)
            refine x_nn h (fun r11 h => ?_)
            refine x_getI (ci := 2) (j := 7) C dX11_run_52 lkF_X11_249 rfl h (fun v12 h => ?_)
            exact q_iret C dX11_run_55 rfl (by decide) (by decide) (Option.some.inj h)
          · refine q_iload C dX11_run_56 rfl ?_
            refine q_aload_n C dX11_run_58 rfl ?_
            refine x_getI (ci := 10) (j := 1) C dX11_run_59 lkF_X11_239 rfl h (fun v13 h => ?_)
            refine q_icmp_ne (tgt := 69) C dX11_run_62 (by decide) h (fun _ h => ?_) (fun _ h => ?_)
            · refine x_iconst (v := (-1 : Int32)) C dX11_run_65 (by decide) ?_
              refine q_goto (tgt := 71) C dX11_run_66 (by decide) ?_
              exact q_iret C dX11_run_71 rfl (by decide) (by decide) (Option.some.inj h)
            · refine q_iload C dX11_run_69 rfl ?_
              exact q_iret C dX11_run_71 rfl (by decide) (by decide) (Option.some.inj h)
noncomputable def B_X11_perform_21 (l0 : Nat) (l2 : Nat) (l3 : Int32) (M : q_Mem) : Option ((Int32 × q_Mem) ⊕ ((Int32 × q_Mem) ⊕ (q_Mem))) := (q_gI M l2 10 1 (fun v4 => (if l3 < v4 then (q_ob M l2 10 ((F_X10_ofStep l2 l3 (0 : Int32) M).bind (fun u5 => (q_ob M l2 10 ((F_X10_ofStep l2 l3 (1 : Int32) M).bind (fun u6 => (q_ob M l2 10 ((F_X10_ofStep l2 l3 (2 : Int32) M).bind (fun u7 => (q_ob M l0 11 ((F_X11_act l0 u5 u6 u7 M).bind (fun x => match x with | (u8, M9) => (if u8 = 0 then some (.inr (.inl (l3, M9))) else some (.inl ((l3 + (1 : Int32)), M9))))))))))))))) else some (.inr (.inr M)))))
set_option maxRecDepth 100000 in
set_option maxHeartbeats 4000000 in
theorem bW_X11_perform_21 {K : q_K} {Q : State → Prop} (C : q_C K yX11_perform cX11_perform 4 (Option.some Jvm.ClassFile.FieldType.int) 8 0 0) (l0 : Nat) (l2 : Nat) (l3 : Int32) (M : q_Mem) {stp : (Int32 × q_Mem) ⊕ ((Int32 × q_Mem) ⊕ (q_Mem))} (h : B_X11_perform_21 l0 l2 l3 M = some stp) (kC : ∀ (l3 : Int32) (M : q_Mem), stp = .inl (l3, M) → q_W K 4 Q 0 0 M 21 [some (.ref l0), none, some (.ref l2), some (.int l3)] []) (kE0 : ∀ (l3 : Int32) (M : q_Mem), stp = .inr (.inl (l3, M)) → q_W K 4 Q 0 0 M 54 [none, none, none, some (.int l3)] []) (kE1 : ∀ (M : q_Mem), stp = .inr (.inr M) → q_W K 4 Q 0 0 M 62 [none, none, some (.ref l2), none] []) : q_W K 4 Q 0 0 M 21 [some (.ref l0), none, some (.ref l2), some (.int l3)] [] := by
  unfold B_X11_perform_21 at h
  refine q_iload_n C dX11_perform_21 rfl ?_
  refine q_aload_n C dX11_perform_22 rfl ?_
  refine x_getI (ci := 10) (j := 1) C dX11_perform_23 lkF_X11_239 rfl h (fun v4 h => ?_)
  refine q_icmp_ge (tgt := 62) C dX11_perform_26 (by decide) h (fun _ h => ?_) (fun _ h => ?_)
  · refine q_aload_n C dX11_perform_29 rfl ?_
    refine q_aload_n C dX11_perform_30 rfl ?_
    refine q_iload_n C dX11_perform_31 rfl ?_
    refine x_iconst (v := (0 : Int32)) C dX11_perform_32 (by decide) ?_
    obtain ⟨hk, h⟩ := q_obE h
    obtain ⟨u5, e1, h⟩ := q_bind h
    refine x_callV0 C dX11_perform_33 lkM_X11_242 mV_X10_ofStep ⟨_, rfl, rfl⟩ hk (c_X10_ofStep _ _ _ _ _ _ e1) rfl rfl (Nat.le_of_ble_eq_true rfl) (by decide) (by decide) ?_
    refine q_aload_n C dX11_perform_36 rfl ?_
    refine q_iload_n C dX11_perform_37 rfl ?_
    refine x_iconst (v := (1 : Int32)) C dX11_perform_38 (by decide) ?_
    obtain ⟨hk, h⟩ := q_obE h
    obtain ⟨u6, e1, h⟩ := q_bind h
    refine x_callV0 C dX11_perform_39 lkM_X11_242 mV_X10_ofStep ⟨_, rfl, rfl⟩ hk (c_X10_ofStep _ _ _ _ _ _ e1) rfl rfl (Nat.le_of_ble_eq_true rfl) (by decide) (by decide) ?_
    refine q_aload_n C dX11_perform_42 rfl ?_
    refine q_iload_n C dX11_perform_43 rfl ?_
    refine x_iconst (v := (2 : Int32)) C dX11_perform_44 (by decide) ?_
    obtain ⟨hk, h⟩ := q_obE h
    obtain ⟨u7, e1, h⟩ := q_bind h
    refine x_callV0 C dX11_perform_45 lkM_X11_242 mV_X10_ofStep ⟨_, rfl, rfl⟩ hk (c_X10_ofStep _ _ _ _ _ _ e1) rfl rfl (Nat.le_of_ble_eq_true rfl) (by decide) (by decide) ?_
    obtain ⟨hk, h⟩ := q_obE h
    obtain ⟨⟨u8, M9⟩, e1, h⟩ := q_bind h
    refine x_callV0 C dX11_perform_48 lkM_X11_192 mV_X11_act ⟨_, rfl, rfl⟩ hk (c_X11_act _ _ _ _ _ _ _ e1) rfl rfl (Nat.le_of_ble_eq_true rfl) (by decide) (by decide) ?_
    refine q_if_ne (tgt := 56) C dX11_perform_51 (by decide) h (fun _ h => ?_) (fun _ h => ?_)
    · exact q_msk [false, false, false, true] (kE0 _ _ (Option.some.inj h).symm)
    · refine x_iinc (w := (1 : Int32)) (L' := [some (.ref l0), none, some (.ref l2), some (.int (l3 + (1 : Int32)))]) C dX11_perform_56 rfl (by decide) (by decide) rfl rfl ?_
      refine q_goto (tgt := 21) C dX11_perform_59 (by decide) ?_
      exact q_msk [true, false, true, true] (kC _ _ (Option.some.inj h).symm)
  · exact q_msk [false, false, true, false] (kE1 _ (Option.some.inj h).symm)
set_option maxRecDepth 100000 in
set_option maxHeartbeats 4000000 in
theorem lW_X11_perform_21 {K : q_K} {Q : State → Prop} (C : q_C K yX11_perform cX11_perform 4 (Option.some Jvm.ClassFile.FieldType.int) 8 0 0) (l0 : Nat) (l2 : Nat) (n : Nat) : ∀ (l3 : Int32) (M : q_Mem) (e : ((Int32 × q_Mem) ⊕ (q_Mem))), q_lp (fun s => B_X11_perform_21 l0 l2 s.1 s.2) n (l3, M) = some e → (∀ (l3 : Int32) (M : q_Mem), e = (.inl (l3, M)) → q_W K 4 Q 0 0 M 54 [none, none, none, some (.int l3)] []) → (∀ (M : q_Mem), e = (.inr M) → q_W K 4 Q 0 0 M 62 [none, none, some (.ref l2), none] []) → q_W K 4 Q 0 0 M 21 [some (.ref l0), none, some (.ref l2), some (.int l3)] [] := by
  induction n with
  | zero => intro l3 M e h; cases h
  | succ n ih =>
    intro l3 M e h kE0 kE1
    obtain ⟨stp, e1, e2⟩ := q_bind h
    refine bW_X11_perform_21 C l0 l2 l3 M e1 (fun a0 a1 hs => ?_) (fun b0 b1 hs => ?_) (fun b0 hs => ?_)
    · subst hs; exact ih _ _ _ e2 kE0 kE1
    · subst hs; exact kE0 _ _ (Option.some.inj e2).symm
    · subst hs; exact kE1 _ (Option.some.inj e2).symm
noncomputable def F_X11_perform (l0 : Nat) (l1 : Int32) (M : q_Mem) : Option (Int32 × q_Mem) := (q_ob M l0 11 ((F_X11_weekAt l0 l1 M).bind (fun u1 => (match u1 with | 0 => some ((-1 : Int32), M) | r2 + 1 => (q_gI M l0 11 18 (fun v3 => (if v3 = 0 then some ((-1 : Int32), M) else (q_lp (fun s => B_X11_perform_21 l0 r2 s.1 s.2) q_fu ((0 : Int32), M)).bind (fun e10 => match e10 with | .inl (w11, M12) => some (w11, M12) | .inr M13 => (q_gI M13 r2 10 1 (fun v14 => some (v14, M13)))))))))))
set_option maxRecDepth 100000 in
set_option maxHeartbeats 4000000 in
theorem c_X11_perform (l : Launch) (G : q_G) (l0 : Nat) (l1 : Int32) (M : q_Mem) {r : Int32} {M' : q_Mem} (h : F_X11_perform l0 l1 M = some (r, M')) : q_Met l G yX11_perform cX11_perform 4 (Option.some Jvm.ClassFile.FieldType.int) 8 0 0 [.ref l0, .int l1] M (some (.int r)) M' := by
  unfold F_X11_perform at h
  refine q_enter [some (.ref l0), some (.int l1), none, none] (by decide) (Nat.le_of_ble_eq_true rfl) rfl (fun K C => ?_)
  refine q_aload_n C dX11_perform_0 rfl ?_
  refine q_iload_n C dX11_perform_1 rfl ?_
  obtain ⟨hk, h⟩ := q_obE h
  obtain ⟨u1, e1, h⟩ := q_bind h
  refine x_callV0 C dX11_perform_2 lkM_X11_235 mV_X11_weekAt ⟨_, rfl, rfl⟩ hk (c_X11_weekAt _ _ _ _ _ e1) rfl rfl (Nat.le_of_ble_eq_true rfl) (by decide) (by decide) ?_
  refine q_astoreC_n (L' := [some (.ref l0), some (.int l1), some (q_rc u1), none]) C dX11_perform_5 (by decide) rfl rfl ?_
  refine q_aloadC_n C dX11_perform_6 rfl ?_
  refine q_ifnull (tgt := 17) C dX11_perform_7 (by decide) h (fun hn h => ?_) (fun r2 hn h => ?_)
  · subst hn
    refine x_iconst (v := (-1 : Int32)) C dX11_perform_17 (by decide) ?_
    exact q_iret C dX11_perform_18 rfl (by decide) (by decide) (Option.some.inj h)
  · subst hn
    refine q_aload_n C dX11_perform_10 rfl ?_
    refine x_getI (ci := 11) (j := 18) C dX11_perform_11 lkF_X11_116 rfl h (fun v3 h => ?_)
    refine q_if_ne (tgt := 19) C dX11_perform_14 (by decide) h (fun _ h => ?_) (fun _ h => ?_)
    · refine x_iconst (v := (-1 : Int32)) C dX11_perform_17 (by decide) ?_
      exact q_iret C dX11_perform_18 rfl (by decide) (by decide) (Option.some.inj h)
    · refine x_iconst (v := (0 : Int32)) C dX11_perform_19 (by decide) ?_
      refine q_istore_n (L' := [some (.ref l0), some (.int l1), some (.ref r2), some (.int (0 : Int32))]) C dX11_perform_20 (by decide) rfl rfl ?_
      obtain ⟨e10, he, h⟩ := q_bind h
      refine q_msk [true, false, true, true] (lW_X11_perform_21 C l0 r2 q_fu _ _ _ he (fun w11 M12 hs => ?_) (fun M13 hs => ?_))
      · have hs := hs.symm
        subst hs
        refine q_iload_n C dX11_perform_54 rfl ?_
        exact q_iret C dX11_perform_55 rfl (by decide) (by decide) (Option.some.inj h)
      · have hs := hs.symm
        subst hs
        refine q_aload_n C dX11_perform_62 rfl ?_
        refine x_getI (ci := 10) (j := 1) C dX11_perform_63 lkF_X11_239 rfl h (fun v14 h => ?_)
        exact q_iret C dX11_perform_66 rfl (by decide) (by decide) (Option.some.inj h)
noncomputable def F_X11_serves (l0 : Nat) (l1 : Int32) (l2 : Int32) (M : q_Mem) : Option (Int32 × q_Mem) := (q_gI M l0 11 18 (fun v1 => (if v1 = 0 then some ((-1 : Int32), M) else (if l1 < 0 then some ((-1 : Int32), M) else (if (20 : Int32) < l1 then some ((-1 : Int32), M) else (q_gR M l0 11 11 (fun c2 => q_nn c2 (fun r3 => (q_gR M l0 11 6 (fun c4 => q_nn c4 (fun r5 => (q_ob M r3 2 ((F_X2_layAhead r3 r5 l1 M).bind (fun x => match x with | (_, M7) => (q_gR M7 l0 11 9 (fun c8 => q_nn c8 (fun r9 => (q_gI M7 r9 1 7 (fun v10 => (if v10 = (-1 : Int32) then some ((-1 : Int32), M7) else (if l2 = (0 : Int32) then (q_gR M7 l0 11 9 (fun c11 => q_nn c11 (fun r12 => (q_gI M7 r12 1 7 (fun v13 => some (v13, M7)))))) else (if l2 = (1 : Int32) then (q_gR M7 l0 11 9 (fun c14 => q_nn c14 (fun r15 => (q_gI M7 r15 1 8 (fun v16 => some (v16, M7)))))) else (if l2 = (2 : Int32) then (q_gR M7 l0 11 9 (fun c17 => q_nn c17 (fun r18 => (q_gI M7 r18 1 9 (fun v19 => some (v19, M7)))))) else some ((-1 : Int32), M7))))))))))))))))))))))))
set_option maxRecDepth 100000 in
set_option maxHeartbeats 4000000 in
theorem c_X11_serves (l : Launch) (G : q_G) (l0 : Nat) (l1 : Int32) (l2 : Int32) (M : q_Mem) {r : Int32} {M' : q_Mem} (h : F_X11_serves l0 l1 l2 M = some (r, M')) : q_Met l G yX11_serves cX11_serves 3 (Option.some Jvm.ClassFile.FieldType.int) 7 0 0 [.ref l0, .int l1, .int l2] M (some (.int r)) M' := by
  unfold F_X11_serves at h
  refine q_enter [some (.ref l0), some (.int l1), some (.int l2)] (by decide) (Nat.le_of_ble_eq_true rfl) rfl (fun K C => ?_)
  refine q_aload_n C dX11_serves_0 rfl ?_
  refine x_getI (ci := 11) (j := 18) C dX11_serves_1 lkF_X11_116 rfl h (fun v1 h => ?_)
  refine q_if_eq (tgt := 17) C dX11_serves_4 (by decide) h (fun _ h => ?_) (fun _ h => ?_)
  · refine x_iconst (v := (-1 : Int32)) C dX11_serves_17 (by decide) ?_
    exact q_iret C dX11_serves_18 rfl (by decide) (by decide) (Option.some.inj h)
  · refine q_iload_n C dX11_serves_7 rfl ?_
    refine q_if_lt (tgt := 17) C dX11_serves_8 (by decide) h (fun _ h => ?_) (fun _ h => ?_)
    · refine x_iconst (v := (-1 : Int32)) C dX11_serves_17 (by decide) ?_
      exact q_iret C dX11_serves_18 rfl (by decide) (by decide) (Option.some.inj h)
    · refine q_iload_n C dX11_serves_11 rfl ?_
      refine x_bipush (v := (20 : Int32)) C dX11_serves_12 (by decide) ?_
      refine q_icmp_le (tgt := 19) C dX11_serves_14 (by decide) h (fun _ h => ?_) (fun _ h => ?_)
      · refine x_iconst (v := (-1 : Int32)) C dX11_serves_17 (by decide) ?_
        exact q_iret C dX11_serves_18 rfl (by decide) (by decide) (Option.some.inj h)
      · refine q_aload_n C dX11_serves_19 rfl ?_
        refine x_getR (ci := 11) (j := 11) C dX11_serves_20 lkF_X11_87 rfl h (fun c2 h => ?_)
        refine x_nn h (fun r3 h => ?_)
        refine q_aload_n C dX11_serves_23 rfl ?_
        refine x_getR (ci := 11) (j := 6) C dX11_serves_24 lkF_X11_50 rfl h (fun c4 h => ?_)
        refine x_nn h (fun r5 h => ?_)
        refine q_iload_n C dX11_serves_27 rfl ?_
        obtain ⟨hk, h⟩ := q_obE h
        obtain ⟨⟨_, M7⟩, e1, h⟩ := q_bind h
        refine x_callVv0 C dX11_serves_28 lkM_X11_252 mV_X2_layAhead ⟨_, rfl, rfl⟩ hk (c_X2_layAhead _ _ _ _ _ _ e1) rfl rfl (Nat.le_of_ble_eq_true rfl) (by decide) (by decide) ?_
        refine q_aload_n C dX11_serves_31 rfl ?_
        refine x_getR (ci := 11) (j := 9) C dX11_serves_32 lkF_X11_69 rfl h (fun c8 h => ?_)
        refine x_nn h (fun r9 h => ?_)
        refine x_getI (ci := 1) (j := 7) C dX11_serves_35 lkF_X11_256 rfl h (fun v10 h => ?_)
        refine x_iconst (v := (-1 : Int32)) C dX11_serves_38 (by decide) ?_
        refine q_icmp_ne (tgt := 44) C dX11_serves_39 (by decide) h (fun _ h => ?_) (fun _ h => ?_)
        · refine x_iconst (v := (-1 : Int32)) C dX11_serves_42 (by decide) ?_
          exact q_iret C dX11_serves_43 rfl (by decide) (by decide) (Option.some.inj h)
        · refine q_iload_n C dX11_serves_44 rfl ?_
          by_cases hs45_0 : l2 = (0 : Int32)
          · rw [if_pos hs45_0] at h
            refine q_tsIn (tgt := 72) C dX11_serves_45 hs45_0 (by decide) (by decide) rfl (by decide) ?_
            refine q_aload_n C dX11_serves_72 rfl ?_
            refine x_getR (ci := 11) (j := 9) C dX11_serves_73 lkF_X11_69 rfl h (fun c11 h => ?_)
            refine x_nn h (fun r12 h => ?_)
            refine x_getI (ci := 1) (j := 7) C dX11_serves_76 lkF_X11_256 rfl h (fun v13 h => ?_)
            exact q_iret C dX11_serves_79 rfl (by decide) (by decide) (Option.some.inj h)
          rw [if_neg hs45_0] at h
          by_cases hs45_1 : l2 = (1 : Int32)
          · rw [if_pos hs45_1] at h
            refine q_tsIn (tgt := 80) C dX11_serves_45 hs45_1 (by decide) (by decide) rfl (by decide) ?_
            refine q_aload_n C dX11_serves_80 rfl ?_
            refine x_getR (ci := 11) (j := 9) C dX11_serves_81 lkF_X11_69 rfl h (fun c14 h => ?_)
            refine x_nn h (fun r15 h => ?_)
            refine x_getI (ci := 1) (j := 8) C dX11_serves_84 lkF_X11_259 rfl h (fun v16 h => ?_)
            exact q_iret C dX11_serves_87 rfl (by decide) (by decide) (Option.some.inj h)
          rw [if_neg hs45_1] at h
          by_cases hs45_2 : l2 = (2 : Int32)
          · rw [if_pos hs45_2] at h
            refine q_tsIn (tgt := 88) C dX11_serves_45 hs45_2 (by decide) (by decide) rfl (by decide) ?_
            refine q_aload_n C dX11_serves_88 rfl ?_
            refine x_getR (ci := 11) (j := 9) C dX11_serves_89 lkF_X11_69 rfl h (fun c17 h => ?_)
            refine x_nn h (fun r18 h => ?_)
            refine x_getI (ci := 1) (j := 9) C dX11_serves_92 lkF_X11_262 rfl h (fun v19 h => ?_)
            exact q_iret C dX11_serves_95 rfl (by decide) (by decide) (Option.some.inj h)
          rw [if_neg hs45_2] at h
          have ho45 : (l2 : Int32).toInt < 0 ∨ 2 < (l2 : Int32).toInt := by
            have z0 := lv_neT (a := 0) hs45_0 (by decide)
            have z1 := lv_neT (a := 1) hs45_1 (by decide)
            have z2 := lv_neT (a := 2) hs45_2 (by decide)
            omega
          refine q_tsOut (tgt := 96) C dX11_serves_45 ho45 (by decide) ?_
          refine x_iconst (v := (-1 : Int32)) C dX11_serves_96 (by decide) ?_
          exact q_iret C dX11_serves_97 rfl (by decide) (by decide) (Option.some.inj h)
noncomputable def F_X11_there (l0 : Nat) (l1 : Int32) (M : q_Mem) : Option (Int32 × q_Mem) := (q_gI M l0 11 18 (fun v1 => (if v1 = 0 then some ((-1 : Int32), M) else (if l1 < 0 then some ((-1 : Int32), M) else (if (20 : Int32) < l1 then some ((-1 : Int32), M) else (q_gR M l0 11 11 (fun c2 => q_nn c2 (fun r3 => (q_gR M l0 11 6 (fun c4 => q_nn c4 (fun r5 => (q_ob M r3 2 ((F_X2_layAhead r3 r5 l1 M).bind (fun x => match x with | (_, M7) => (q_gR M7 l0 11 9 (fun c8 => q_nn c8 (fun r9 => (q_gI M7 r9 1 4 (fun v10 => some (v10, M7))))))))))))))))))))
set_option maxRecDepth 100000 in
set_option maxHeartbeats 4000000 in
theorem c_X11_there (l : Launch) (G : q_G) (l0 : Nat) (l1 : Int32) (M : q_Mem) {r : Int32} {M' : q_Mem} (h : F_X11_there l0 l1 M = some (r, M')) : q_Met l G yX11_there cX11_there 2 (Option.some Jvm.ClassFile.FieldType.int) 7 0 0 [.ref l0, .int l1] M (some (.int r)) M' := by
  unfold F_X11_there at h
  refine q_enter [some (.ref l0), some (.int l1)] (by decide) (Nat.le_of_ble_eq_true rfl) rfl (fun K C => ?_)
  refine q_aload_n C dX11_there_0 rfl ?_
  refine x_getI (ci := 11) (j := 18) C dX11_there_1 lkF_X11_116 rfl h (fun v1 h => ?_)
  refine q_if_eq (tgt := 17) C dX11_there_4 (by decide) h (fun _ h => ?_) (fun _ h => ?_)
  · refine x_iconst (v := (-1 : Int32)) C dX11_there_17 (by decide) ?_
    exact q_iret C dX11_there_18 rfl (by decide) (by decide) (Option.some.inj h)
  · refine q_iload_n C dX11_there_7 rfl ?_
    refine q_if_lt (tgt := 17) C dX11_there_8 (by decide) h (fun _ h => ?_) (fun _ h => ?_)
    · refine x_iconst (v := (-1 : Int32)) C dX11_there_17 (by decide) ?_
      exact q_iret C dX11_there_18 rfl (by decide) (by decide) (Option.some.inj h)
    · refine q_iload_n C dX11_there_11 rfl ?_
      refine x_bipush (v := (20 : Int32)) C dX11_there_12 (by decide) ?_
      refine q_icmp_le (tgt := 19) C dX11_there_14 (by decide) h (fun _ h => ?_) (fun _ h => ?_)
      · refine x_iconst (v := (-1 : Int32)) C dX11_there_17 (by decide) ?_
        exact q_iret C dX11_there_18 rfl (by decide) (by decide) (Option.some.inj h)
      · refine q_aload_n C dX11_there_19 rfl ?_
        refine x_getR (ci := 11) (j := 11) C dX11_there_20 lkF_X11_87 rfl h (fun c2 h => ?_)
        refine x_nn h (fun r3 h => ?_)
        refine q_aload_n C dX11_there_23 rfl ?_
        refine x_getR (ci := 11) (j := 6) C dX11_there_24 lkF_X11_50 rfl h (fun c4 h => ?_)
        refine x_nn h (fun r5 h => ?_)
        refine q_iload_n C dX11_there_27 rfl ?_
        obtain ⟨hk, h⟩ := q_obE h
        obtain ⟨⟨_, M7⟩, e1, h⟩ := q_bind h
        refine x_callVv0 C dX11_there_28 lkM_X11_252 mV_X2_layAhead ⟨_, rfl, rfl⟩ hk (c_X2_layAhead _ _ _ _ _ _ e1) rfl rfl (Nat.le_of_ble_eq_true rfl) (by decide) (by decide) ?_
        refine q_aload_n C dX11_there_31 rfl ?_
        refine x_getR (ci := 11) (j := 9) C dX11_there_32 lkF_X11_69 rfl h (fun c8 h => ?_)
        refine x_nn h (fun r9 h => ?_)
        refine x_getI (ci := 1) (j := 4) C dX11_there_35 lkF_X11_265 rfl h (fun v10 h => ?_)
        exact q_iret C dX11_there_38 rfl (by decide) (by decide) (Option.some.inj h)
noncomputable def F_X11_fed (l0 : Nat) (l1 : Int32) (M : q_Mem) : Option (Int32 × q_Mem) := (q_gR M l0 11 1 (fun c1 => q_nn c1 (fun r2 => (q_ob M r2 3 ((F_X3_hasGuest r2 l1 M).bind (fun u3 => (if u3 = 0 then some ((-1 : Int32), M) else (q_gR M l0 11 9 (fun c4 => q_nn c4 (fun r5 => (q_gR M l0 11 6 (fun c6 => q_nn c6 (fun r7 => (q_ob M r5 1 ((F_X1_isThere r5 r7 l1 M).bind (fun u8 => (if u8 = 0 then some ((-1 : Int32), M) else (q_gR M l0 11 9 (fun c9 => q_nn c9 (fun r10 => (q_gR M l0 11 6 (fun c11 => q_nn c11 (fun r12 => (q_ob M r10 1 ((F_X1_lay r10 r12 M).bind (fun x => match x with | (_, M14) => (q_gR M14 l0 11 9 (fun c15 => q_nn c15 (fun r16 => (q_gR M14 r16 1 1 (fun c17 => q_nn c17 (fun r18 => (q_lI M14 0 r18 l1 (fun v19 => some (v19, M14)))))))))))))))))))))))))))))))))))
set_option maxRecDepth 100000 in
set_option maxHeartbeats 4000000 in
theorem c_X11_fed (l : Launch) (G : q_G) (l0 : Nat) (l1 : Int32) (M : q_Mem) {r : Int32} {M' : q_Mem} (h : F_X11_fed l0 l1 M = some (r, M')) : q_Met l G yX11_fed cX11_fed 2 (Option.some Jvm.ClassFile.FieldType.int) 4 0 0 [.ref l0, .int l1] M (some (.int r)) M' := by
  unfold F_X11_fed at h
  refine q_enter [some (.ref l0), some (.int l1)] (by decide) (Nat.le_of_ble_eq_true rfl) rfl (fun K C => ?_)
  refine q_aload_n C dX11_fed_0 rfl ?_
  refine x_getR (ci := 11) (j := 1) C dX11_fed_1 lkF_X11_19 rfl h (fun c1 h => ?_)
  refine x_nn h (fun r2 h => ?_)
  refine q_iload_n C dX11_fed_4 rfl ?_
  obtain ⟨hk, h⟩ := q_obE h
  obtain ⟨u3, e1, h⟩ := q_bind h
  refine x_callV0 C dX11_fed_5 lkM_X11_170 mV_X3_hasGuest ⟨_, rfl, rfl⟩ hk (c_X3_hasGuest _ _ _ _ _ e1) rfl rfl (Nat.le_of_ble_eq_true rfl) (by decide) (by decide) ?_
  refine q_if_eq (tgt := 26) C dX11_fed_8 (by decide) h (fun _ h => ?_) (fun _ h => ?_)
  · refine x_iconst (v := (-1 : Int32)) C dX11_fed_26 (by decide) ?_
    exact q_iret C dX11_fed_27 rfl (by decide) (by decide) (Option.some.inj h)
  · refine q_aload_n C dX11_fed_11 rfl ?_
    refine x_getR (ci := 11) (j := 9) C dX11_fed_12 lkF_X11_69 rfl h (fun c4 h => ?_)
    refine x_nn h (fun r5 h => ?_)
    refine q_aload_n C dX11_fed_15 rfl ?_
    refine x_getR (ci := 11) (j := 6) C dX11_fed_16 lkF_X11_50 rfl h (fun c6 h => ?_)
    refine x_nn h (fun r7 h => ?_)
    refine q_iload_n C dX11_fed_19 rfl ?_
    obtain ⟨hk, h⟩ := q_obE h
    obtain ⟨u8, e1, h⟩ := q_bind h
    refine x_callV0 C dX11_fed_20 lkM_X11_268 mV_X1_isThere ⟨_, rfl, rfl⟩ hk (c_X1_isThere _ _ _ _ _ _ e1) rfl rfl (Nat.le_of_ble_eq_true rfl) (by decide) (by decide) ?_
    refine q_if_ne (tgt := 28) C dX11_fed_23 (by decide) h (fun _ h => ?_) (fun _ h => ?_)
    · refine x_iconst (v := (-1 : Int32)) C dX11_fed_26 (by decide) ?_
      exact q_iret C dX11_fed_27 rfl (by decide) (by decide) (Option.some.inj h)
    · refine q_aload_n C dX11_fed_28 rfl ?_
      refine x_getR (ci := 11) (j := 9) C dX11_fed_29 lkF_X11_69 rfl h (fun c9 h => ?_)
      refine x_nn h (fun r10 h => ?_)
      refine q_aload_n C dX11_fed_32 rfl ?_
      refine x_getR (ci := 11) (j := 6) C dX11_fed_33 lkF_X11_50 rfl h (fun c11 h => ?_)
      refine x_nn h (fun r12 h => ?_)
      obtain ⟨hk, h⟩ := q_obE h
      obtain ⟨⟨_, M14⟩, e1, h⟩ := q_bind h
      refine x_callVv0 C dX11_fed_36 lkM_X11_272 mV_X1_lay ⟨_, rfl, rfl⟩ hk (c_X1_lay _ _ _ _ _ e1) rfl rfl (Nat.le_of_ble_eq_true rfl) (by decide) (by decide) ?_
      refine q_aload_n C dX11_fed_39 rfl ?_
      refine x_getR (ci := 11) (j := 9) C dX11_fed_40 lkF_X11_69 rfl h (fun c15 h => ?_)
      refine x_nn h (fun r16 h => ?_)
      refine x_getR (ci := 1) (j := 1) C dX11_fed_43 lkF_X11_275 rfl h (fun c17 h => ?_)
      refine x_nn h (fun r18 h => ?_)
      refine q_iload_n C dX11_fed_46 rfl ?_
      refine x_iald C dX11_fed_47 h (fun v19 h => ?_)
      exact q_iret C dX11_fed_48 rfl (by decide) (by decide) (Option.some.inj h)
noncomputable def F_X11_best (l0 : Nat) (l1 : Int32) (l2 : Int32) (M : q_Mem) : Option (Int32 × q_Mem) := (q_gI M l0 11 18 (fun v1 => (if v1 = 0 then some ((-1000000 : Int32), M) else (if l1 < (1 : Int32) then some ((-1000000 : Int32), M) else (if (3 : Int32) < l1 then some ((-1000000 : Int32), M) else (if l2 < 0 then some ((-1000000 : Int32), M) else (if (1 : Int32) < l2 then some ((-1000000 : Int32), M) else (q_gR M l0 11 11 (fun c2 => q_nn c2 (fun r3 => (q_gR M l0 11 6 (fun c4 => q_nn c4 (fun r5 => (q_ob M r3 2 ((F_X2_seekBest r3 r5 l1 M).bind (fun x => match x with | (_, M7) => (if l2 = 0 then (q_gR M7 l0 11 11 (fun c8 => q_nn c8 (fun r9 => (q_gI M7 r9 2 8 (fun v10 => some (v10, M7)))))) else (q_gR M7 l0 11 11 (fun c11 => q_nn c11 (fun r12 => (q_gI M7 r12 2 9 (fun v13 => some (v13, M7)))))))))))))))))))))))
set_option maxRecDepth 100000 in
set_option maxHeartbeats 4000000 in
theorem c_X11_best (l : Launch) (G : q_G) (l0 : Nat) (l1 : Int32) (l2 : Int32) (M : q_Mem) {r : Int32} {M' : q_Mem} (h : F_X11_best l0 l1 l2 M = some (r, M')) : q_Met l G yX11_best cX11_best 3 (Option.some Jvm.ClassFile.FieldType.int) 68 0 0 [.ref l0, .int l1, .int l2] M (some (.int r)) M' := by
  unfold F_X11_best at h
  refine q_enter [some (.ref l0), some (.int l1), some (.int l2)] (by decide) (Nat.le_of_ble_eq_true rfl) rfl (fun K C => ?_)
  refine q_aload_n C dX11_best_0 rfl ?_
  refine x_getI (ci := 11) (j := 18) C dX11_best_1 lkF_X11_116 rfl h (fun v1 h => ?_)
  refine q_if_eq (tgt := 26) C dX11_best_4 (by decide) h (fun _ h => ?_) (fun _ h => ?_)
  · refine q_ldc (v := (-1000000 : Int32)) C dX11_best_26 wd_866 ?_
    exact q_iret C dX11_best_28 rfl (by decide) (by decide) (Option.some.inj h)
  · refine q_iload_n C dX11_best_7 rfl ?_
    refine x_iconst (v := (1 : Int32)) C dX11_best_8 (by decide) ?_
    refine q_icmp_lt (tgt := 26) C dX11_best_9 (by decide) h (fun _ h => ?_) (fun _ h => ?_)
    · refine q_ldc (v := (-1000000 : Int32)) C dX11_best_26 wd_866 ?_
      exact q_iret C dX11_best_28 rfl (by decide) (by decide) (Option.some.inj h)
    · refine q_iload_n C dX11_best_12 rfl ?_
      refine x_iconst (v := (3 : Int32)) C dX11_best_13 (by decide) ?_
      refine q_icmp_gt (tgt := 26) C dX11_best_14 (by decide) h (fun _ h => ?_) (fun _ h => ?_)
      · refine q_ldc (v := (-1000000 : Int32)) C dX11_best_26 wd_866 ?_
        exact q_iret C dX11_best_28 rfl (by decide) (by decide) (Option.some.inj h)
      · refine q_iload_n C dX11_best_17 rfl ?_
        refine q_if_lt (tgt := 26) C dX11_best_18 (by decide) h (fun _ h => ?_) (fun _ h => ?_)
        · refine q_ldc (v := (-1000000 : Int32)) C dX11_best_26 wd_866 ?_
          exact q_iret C dX11_best_28 rfl (by decide) (by decide) (Option.some.inj h)
        · refine q_iload_n C dX11_best_21 rfl ?_
          refine x_iconst (v := (1 : Int32)) C dX11_best_22 (by decide) ?_
          refine q_icmp_le (tgt := 29) C dX11_best_23 (by decide) h (fun _ h => ?_) (fun _ h => ?_)
          · refine q_ldc (v := (-1000000 : Int32)) C dX11_best_26 wd_866 ?_
            exact q_iret C dX11_best_28 rfl (by decide) (by decide) (Option.some.inj h)
          · refine q_aload_n C dX11_best_29 rfl ?_
            refine x_getR (ci := 11) (j := 11) C dX11_best_30 lkF_X11_87 rfl h (fun c2 h => ?_)
            refine x_nn h (fun r3 h => ?_)
            refine q_aload_n C dX11_best_33 rfl ?_
            refine x_getR (ci := 11) (j := 6) C dX11_best_34 lkF_X11_50 rfl h (fun c4 h => ?_)
            refine x_nn h (fun r5 h => ?_)
            refine q_iload_n C dX11_best_37 rfl ?_
            obtain ⟨hk, h⟩ := q_obE h
            obtain ⟨⟨_, M7⟩, e1, h⟩ := q_bind h
            refine x_callVv0 C dX11_best_38 lkM_X11_278 mV_X2_seekBest ⟨_, rfl, rfl⟩ hk (c_X2_seekBest _ _ _ _ _ _ e1) rfl rfl (Nat.le_of_ble_eq_true rfl) (by decide) (by decide) ?_
            refine q_iload_n C dX11_best_41 rfl ?_
            refine q_if_ne (tgt := 55) C dX11_best_42 (by decide) h (fun _ h => ?_) (fun _ h => ?_)
            · refine q_aload_n C dX11_best_45 rfl ?_
              refine x_getR (ci := 11) (j := 11) C dX11_best_46 lkF_X11_87 rfl h (fun c8 h => ?_)
              refine x_nn h (fun r9 h => ?_)
              refine x_getI (ci := 2) (j := 8) C dX11_best_49 lkF_X11_281 rfl h (fun v10 h => ?_)
              refine q_goto (tgt := 62) C dX11_best_52 (by decide) ?_
              exact q_iret C dX11_best_62 rfl (by decide) (by decide) (Option.some.inj h)
            · refine q_aload_n C dX11_best_55 rfl ?_
              refine x_getR (ci := 11) (j := 11) C dX11_best_56 lkF_X11_87 rfl h (fun c11 h => ?_)
              refine x_nn h (fun r12 h => ?_)
              refine x_getI (ci := 2) (j := 9) C dX11_best_59 lkF_X11_284 rfl h (fun v13 h => ?_)
              exact q_iret C dX11_best_62 rfl (by decide) (by decide) (Option.some.inj h)
noncomputable def F_X11_madeUp (l0 : Nat) (l1 : Int32) (M : q_Mem) : Option (Int32 × q_Mem) := (q_gI M l0 11 18 (fun v1 => (if v1 = 0 then some ((-1 : Int32), M) else (if l1 < 0 then some ((-1 : Int32), M) else (if (20 : Int32) < l1 then some ((-1 : Int32), M) else (q_gR M l0 11 11 (fun c2 => q_nn c2 (fun r3 => (q_gR M l0 11 6 (fun c4 => q_nn c4 (fun r5 => (q_ob M r3 2 ((F_X2_fewestMadeUp r3 r5 l1 M).bind (fun x => match x with | (u6, M7) => some (u6, M7)))))))))))))))
set_option maxRecDepth 100000 in
set_option maxHeartbeats 4000000 in
theorem c_X11_madeUp (l : Launch) (G : q_G) (l0 : Nat) (l1 : Int32) (M : q_Mem) {r : Int32} {M' : q_Mem} (h : F_X11_madeUp l0 l1 M = some (r, M')) : q_Met l G yX11_madeUp cX11_madeUp 2 (Option.some Jvm.ClassFile.FieldType.int) 5 0 0 [.ref l0, .int l1] M (some (.int r)) M' := by
  unfold F_X11_madeUp at h
  refine q_enter [some (.ref l0), some (.int l1)] (by decide) (Nat.le_of_ble_eq_true rfl) rfl (fun K C => ?_)
  refine q_aload_n C dX11_madeUp_0 rfl ?_
  refine x_getI (ci := 11) (j := 18) C dX11_madeUp_1 lkF_X11_116 rfl h (fun v1 h => ?_)
  refine q_if_eq (tgt := 17) C dX11_madeUp_4 (by decide) h (fun _ h => ?_) (fun _ h => ?_)
  · refine x_iconst (v := (-1 : Int32)) C dX11_madeUp_17 (by decide) ?_
    exact q_iret C dX11_madeUp_18 rfl (by decide) (by decide) (Option.some.inj h)
  · refine q_iload_n C dX11_madeUp_7 rfl ?_
    refine q_if_lt (tgt := 17) C dX11_madeUp_8 (by decide) h (fun _ h => ?_) (fun _ h => ?_)
    · refine x_iconst (v := (-1 : Int32)) C dX11_madeUp_17 (by decide) ?_
      exact q_iret C dX11_madeUp_18 rfl (by decide) (by decide) (Option.some.inj h)
    · refine q_iload_n C dX11_madeUp_11 rfl ?_
      refine x_bipush (v := (20 : Int32)) C dX11_madeUp_12 (by decide) ?_
      refine q_icmp_le (tgt := 19) C dX11_madeUp_14 (by decide) h (fun _ h => ?_) (fun _ h => ?_)
      · refine x_iconst (v := (-1 : Int32)) C dX11_madeUp_17 (by decide) ?_
        exact q_iret C dX11_madeUp_18 rfl (by decide) (by decide) (Option.some.inj h)
      · refine q_aload_n C dX11_madeUp_19 rfl ?_
        refine x_getR (ci := 11) (j := 11) C dX11_madeUp_20 lkF_X11_87 rfl h (fun c2 h => ?_)
        refine x_nn h (fun r3 h => ?_)
        refine q_aload_n C dX11_madeUp_23 rfl ?_
        refine x_getR (ci := 11) (j := 6) C dX11_madeUp_24 lkF_X11_50 rfl h (fun c4 h => ?_)
        refine x_nn h (fun r5 h => ?_)
        refine q_iload_n C dX11_madeUp_27 rfl ?_
        obtain ⟨hk, h⟩ := q_obE h
        obtain ⟨⟨u6, M7⟩, e1, h⟩ := q_bind h
        refine x_callV0 C dX11_madeUp_28 lkM_X11_287 mV_X2_fewestMadeUp ⟨_, rfl, rfl⟩ hk (c_X2_fewestMadeUp _ _ _ _ _ _ e1) rfl rfl (Nat.le_of_ble_eq_true rfl) (by decide) (by decide) ?_
        exact q_iret C dX11_madeUp_31 rfl (by decide) (by decide) (Option.some.inj h)
noncomputable def F_X11_areWarmthAndJoy (l0 : Int32) (l1 : Int32) (M : q_Mem) : Option (Int32) := (if l0 < 0 then q_rq (0 : Int32) else (if (20 : Int32) < l0 then q_rq (0 : Int32) else (if l1 < (-9 : Int32) then q_rq (0 : Int32) else (if (20 : Int32) < l1 then q_rq (0 : Int32) else q_rq (1 : Int32)))))
set_option maxRecDepth 100000 in
set_option maxHeartbeats 4000000 in
theorem c_X11_areWarmthAndJoy (l : Launch) (G : q_G) (l0 : Int32) (l1 : Int32) (M : q_Mem) {r : Int32} (h : F_X11_areWarmthAndJoy l0 l1 M = some r) : q_Met l G yX11_areWarmthAndJoy cX11_areWarmthAndJoy 2 (Option.some Jvm.ClassFile.FieldType.boolean) 1 0 0 [.int l0, .int l1] M (some (.int r)) M := by
  unfold F_X11_areWarmthAndJoy at h
  refine q_enter [some (.int l0), some (.int l1)] (by decide) (Nat.le_of_ble_eq_true rfl) rfl (fun K C => ?_)
  refine q_iload_n C dX11_areWarmthAndJoy_0 rfl ?_
  refine q_if_lt (tgt := 26) C dX11_areWarmthAndJoy_1 (by decide) h (fun _ h => ?_) (fun _ h => ?_)
  · refine x_iconst (v := (0 : Int32)) C dX11_areWarmthAndJoy_26 (by decide) ?_
    exact q_zret (res := (r, M)) C dX11_areWarmthAndJoy_27 rfl (by decide) (by decide) (q_rqE h).1 (congrArg (fun z => (z, M)) (q_rqE h).2)
  · refine q_iload_n C dX11_areWarmthAndJoy_4 rfl ?_
    refine x_bipush (v := (20 : Int32)) C dX11_areWarmthAndJoy_5 (by decide) ?_
    refine q_icmp_gt (tgt := 26) C dX11_areWarmthAndJoy_7 (by decide) h (fun _ h => ?_) (fun _ h => ?_)
    · refine x_iconst (v := (0 : Int32)) C dX11_areWarmthAndJoy_26 (by decide) ?_
      exact q_zret (res := (r, M)) C dX11_areWarmthAndJoy_27 rfl (by decide) (by decide) (q_rqE h).1 (congrArg (fun z => (z, M)) (q_rqE h).2)
    · refine q_iload_n C dX11_areWarmthAndJoy_10 rfl ?_
      refine x_bipush (v := (-9 : Int32)) C dX11_areWarmthAndJoy_11 (by decide) ?_
      refine q_icmp_lt (tgt := 26) C dX11_areWarmthAndJoy_13 (by decide) h (fun _ h => ?_) (fun _ h => ?_)
      · refine x_iconst (v := (0 : Int32)) C dX11_areWarmthAndJoy_26 (by decide) ?_
        exact q_zret (res := (r, M)) C dX11_areWarmthAndJoy_27 rfl (by decide) (by decide) (q_rqE h).1 (congrArg (fun z => (z, M)) (q_rqE h).2)
      · refine q_iload_n C dX11_areWarmthAndJoy_16 rfl ?_
        refine x_bipush (v := (20 : Int32)) C dX11_areWarmthAndJoy_17 (by decide) ?_
        refine q_icmp_gt (tgt := 26) C dX11_areWarmthAndJoy_19 (by decide) h (fun _ h => ?_) (fun _ h => ?_)
        · refine x_iconst (v := (0 : Int32)) C dX11_areWarmthAndJoy_26 (by decide) ?_
          exact q_zret (res := (r, M)) C dX11_areWarmthAndJoy_27 rfl (by decide) (by decide) (q_rqE h).1 (congrArg (fun z => (z, M)) (q_rqE h).2)
        · refine x_iconst (v := (1 : Int32)) C dX11_areWarmthAndJoy_22 (by decide) ?_
          refine q_goto (tgt := 27) C dX11_areWarmthAndJoy_23 (by decide) ?_
          exact q_zret (res := (r, M)) C dX11_areWarmthAndJoy_27 rfl (by decide) (by decide) (q_rqE h).1 (congrArg (fun z => (z, M)) (q_rqE h).2)
noncomputable def F_X11_seen (l0 : Nat) (l1 : Int32) (l2 : Int32) (l3 : Int32) (l4 : Int32) (l5 : Int32) (M : q_Mem) : Option (Int32 × q_Mem) := (q_gR M l0 11 1 (fun c1 => q_nn c1 (fun r2 => (q_ob M r2 3 ((F_X3_hasGuest r2 l1 M).bind (fun u3 => (if u3 = 0 then some ((-1 : Int32), M) else (q_gR M l0 11 1 (fun c4 => q_nn c4 (fun r5 => (q_ob M r5 3 ((F_X3_hasDish r5 l2 M).bind (fun u6 => (if u6 = 0 then some ((-1 : Int32), M) else ((F_X11_areWarmthAndJoy l3 l4 M).bind (fun u7 => (if u7 = 0 then some ((-1 : Int32), M) else (q_gR M l0 11 12 (fun c8 => q_nn c8 (fun r9 => (q_ob M r9 7 ((F_X7_add r9 l1 l2 l3 l4 l5 M).bind (fun x => match x with | (u10, M11) => some (u10, M11))))))))))))))))))))))))
set_option maxRecDepth 100000 in
set_option maxHeartbeats 4000000 in
theorem c_X11_seen (l : Launch) (G : q_G) (l0 : Nat) (l1 : Int32) (l2 : Int32) (l3 : Int32) (l4 : Int32) (l5 : Int32) (M : q_Mem) {r : Int32} {M' : q_Mem} (h : F_X11_seen l0 l1 l2 l3 l4 l5 M = some (r, M')) : q_Met l G yX11_seen cX11_seen 6 (Option.some Jvm.ClassFile.FieldType.int) 2 0 0 [.ref l0, .int l1, .int l2, .int l3, .int l4, .int l5] M (some (.int r)) M' := by
  unfold F_X11_seen at h
  refine q_enter [some (.ref l0), some (.int l1), some (.int l2), some (.int l3), some (.int l4), some (.int l5)] (by decide) (Nat.le_of_ble_eq_true rfl) rfl (fun K C => ?_)
  refine q_aload_n C dX11_seen_0 rfl ?_
  refine x_getR (ci := 11) (j := 1) C dX11_seen_1 lkF_X11_19 rfl h (fun c1 h => ?_)
  refine x_nn h (fun r2 h => ?_)
  refine q_iload_n C dX11_seen_4 rfl ?_
  obtain ⟨hk, h⟩ := q_obE h
  obtain ⟨u3, e1, h⟩ := q_bind h
  refine x_callV0 C dX11_seen_5 lkM_X11_170 mV_X3_hasGuest ⟨_, rfl, rfl⟩ hk (c_X3_hasGuest _ _ _ _ _ e1) rfl rfl (Nat.le_of_ble_eq_true rfl) (by decide) (by decide) ?_
  refine q_if_eq (tgt := 31) C dX11_seen_8 (by decide) h (fun _ h => ?_) (fun _ h => ?_)
  · refine x_iconst (v := (-1 : Int32)) C dX11_seen_31 (by decide) ?_
    exact q_iret C dX11_seen_32 rfl (by decide) (by decide) (Option.some.inj h)
  · refine q_aload_n C dX11_seen_11 rfl ?_
    refine x_getR (ci := 11) (j := 1) C dX11_seen_12 lkF_X11_19 rfl h (fun c4 h => ?_)
    refine x_nn h (fun r5 h => ?_)
    refine q_iload_n C dX11_seen_15 rfl ?_
    obtain ⟨hk, h⟩ := q_obE h
    obtain ⟨u6, e1, h⟩ := q_bind h
    refine x_callV0 C dX11_seen_16 lkM_X11_163 mV_X3_hasDish ⟨_, rfl, rfl⟩ hk (c_X3_hasDish _ _ _ _ _ e1) rfl rfl (Nat.le_of_ble_eq_true rfl) (by decide) (by decide) ?_
    refine q_if_eq (tgt := 31) C dX11_seen_19 (by decide) h (fun _ h => ?_) (fun _ h => ?_)
    · refine x_iconst (v := (-1 : Int32)) C dX11_seen_31 (by decide) ?_
      exact q_iret C dX11_seen_32 rfl (by decide) (by decide) (Option.some.inj h)
    · refine q_iload_n C dX11_seen_22 rfl ?_
      refine q_iload C dX11_seen_23 rfl ?_
      obtain ⟨u7, e1, h⟩ := q_bind h
      refine x_callS0 C dX11_seen_25 lkM_X11_291 mS_X11_areWarmthAndJoy (c_X11_areWarmthAndJoy _ _ _ _ _ e1) rfl rfl (Nat.le_of_ble_eq_true rfl) (by decide) (by decide) ?_
      refine q_if_ne (tgt := 33) C dX11_seen_28 (by decide) h (fun _ h => ?_) (fun _ h => ?_)
      · refine x_iconst (v := (-1 : Int32)) C dX11_seen_31 (by decide) ?_
        exact q_iret C dX11_seen_32 rfl (by decide) (by decide) (Option.some.inj h)
      · refine q_aload_n C dX11_seen_33 rfl ?_
        refine x_getR (ci := 11) (j := 12) C dX11_seen_34 lkF_X11_94 rfl h (fun c8 h => ?_)
        refine x_nn h (fun r9 h => ?_)
        refine q_iload_n C dX11_seen_37 rfl ?_
        refine q_iload_n C dX11_seen_38 rfl ?_
        refine q_iload_n C dX11_seen_39 rfl ?_
        refine q_iload C dX11_seen_40 rfl ?_
        refine q_iload C dX11_seen_42 rfl ?_
        obtain ⟨hk, h⟩ := q_obE h
        obtain ⟨⟨u10, M11⟩, e1, h⟩ := q_bind h
        refine x_callV0 C dX11_seen_44 lkM_X11_295 mV_X7_add ⟨_, rfl, rfl⟩ hk (c_X7_add _ _ _ _ _ _ _ _ _ e1) rfl rfl (Nat.le_of_ble_eq_true rfl) (by decide) (by decide) ?_
        exact q_iret C dX11_seen_47 rfl (by decide) (by decide) (Option.some.inj h)
noncomputable def F_X11_likes (l0 : Nat) (l1 : Int32) (M : q_Mem) : Option (Int32 × q_Mem) := (q_gR M l0 11 1 (fun c1 => q_nn c1 (fun r2 => (q_ob M r2 3 ((F_X3_hasGuest r2 l1 M).bind (fun u3 => (if u3 = 0 then some ((-1 : Int32), M) else (q_gR M l0 11 12 (fun c4 => q_nn c4 (fun r5 => (q_ob M r5 7 ((F_X7_kindsLeft r5 l1 M).bind (fun x => match x with | (u6, M7) => some (u6, M7))))))))))))))
set_option maxRecDepth 100000 in
set_option maxHeartbeats 4000000 in
theorem c_X11_likes (l : Launch) (G : q_G) (l0 : Nat) (l1 : Int32) (M : q_Mem) {r : Int32} {M' : q_Mem} (h : F_X11_likes l0 l1 M = some (r, M')) : q_Met l G yX11_likes cX11_likes 2 (Option.some Jvm.ClassFile.FieldType.int) 7 0 0 [.ref l0, .int l1] M (some (.int r)) M' := by
  unfold F_X11_likes at h
  refine q_enter [some (.ref l0), some (.int l1)] (by decide) (Nat.le_of_ble_eq_true rfl) rfl (fun K C => ?_)
  refine q_aload_n C dX11_likes_0 rfl ?_
  refine x_getR (ci := 11) (j := 1) C dX11_likes_1 lkF_X11_19 rfl h (fun c1 h => ?_)
  refine x_nn h (fun r2 h => ?_)
  refine q_iload_n C dX11_likes_4 rfl ?_
  obtain ⟨hk, h⟩ := q_obE h
  obtain ⟨u3, e1, h⟩ := q_bind h
  refine x_callV0 C dX11_likes_5 lkM_X11_170 mV_X3_hasGuest ⟨_, rfl, rfl⟩ hk (c_X3_hasGuest _ _ _ _ _ e1) rfl rfl (Nat.le_of_ble_eq_true rfl) (by decide) (by decide) ?_
  refine q_if_eq (tgt := 22) C dX11_likes_8 (by decide) h (fun _ h => ?_) (fun _ h => ?_)
  · refine x_iconst (v := (-1 : Int32)) C dX11_likes_22 (by decide) ?_
    exact q_iret C dX11_likes_23 rfl (by decide) (by decide) (Option.some.inj h)
  · refine q_aload_n C dX11_likes_11 rfl ?_
    refine x_getR (ci := 11) (j := 12) C dX11_likes_12 lkF_X11_94 rfl h (fun c4 h => ?_)
    refine x_nn h (fun r5 h => ?_)
    refine q_iload_n C dX11_likes_15 rfl ?_
    obtain ⟨hk, h⟩ := q_obE h
    obtain ⟨⟨u6, M7⟩, e1, h⟩ := q_bind h
    refine x_callV0 C dX11_likes_16 lkM_X11_299 mV_X7_kindsLeft ⟨_, rfl, rfl⟩ hk (c_X7_kindsLeft _ _ _ _ _ e1) rfl rfl (Nat.le_of_ble_eq_true rfl) (by decide) (by decide) ?_
    refine q_goto (tgt := 23) C dX11_likes_19 (by decide) ?_
    exact q_iret C dX11_likes_23 rfl (by decide) (by decide) (Option.some.inj h)
noncomputable def F_X11_probe (l0 : Nat) (l1 : Int32) (l2 : Int32) (l3 : Int32) (M : q_Mem) : Option (Int32 × q_Mem) := (q_gR M l0 11 1 (fun c1 => q_nn c1 (fun r2 => (q_ob M r2 3 ((F_X3_hasGuest r2 l1 M).bind (fun u3 => (if u3 = 0 then some ((-1 : Int32), M) else ((F_X11_areWarmthAndJoy l2 l3 M).bind (fun u4 => (if u4 = 0 then some ((-1 : Int32), M) else (q_gR M l0 11 12 (fun c5 => q_nn c5 (fun r6 => (q_ob M r6 7 ((F_X7_dishToTry r6 l1 l2 l3 M).bind (fun x => match x with | (u7, M8) => some (u7, M8)))))))))))))))))
set_option maxRecDepth 100000 in
set_option maxHeartbeats 4000000 in
theorem c_X11_probe (l : Launch) (G : q_G) (l0 : Nat) (l1 : Int32) (l2 : Int32) (l3 : Int32) (M : q_Mem) {r : Int32} {M' : q_Mem} (h : F_X11_probe l0 l1 l2 l3 M = some (r, M')) : q_Met l G yX11_probe cX11_probe 4 (Option.some Jvm.ClassFile.FieldType.int) 8 0 0 [.ref l0, .int l1, .int l2, .int l3] M (some (.int r)) M' := by
  unfold F_X11_probe at h
  refine q_enter [some (.ref l0), some (.int l1), some (.int l2), some (.int l3)] (by decide) (Nat.le_of_ble_eq_true rfl) rfl (fun K C => ?_)
  refine q_aload_n C dX11_probe_0 rfl ?_
  refine x_getR (ci := 11) (j := 1) C dX11_probe_1 lkF_X11_19 rfl h (fun c1 h => ?_)
  refine x_nn h (fun r2 h => ?_)
  refine q_iload_n C dX11_probe_4 rfl ?_
  obtain ⟨hk, h⟩ := q_obE h
  obtain ⟨u3, e1, h⟩ := q_bind h
  refine x_callV0 C dX11_probe_5 lkM_X11_170 mV_X3_hasGuest ⟨_, rfl, rfl⟩ hk (c_X3_hasGuest _ _ _ _ _ e1) rfl rfl (Nat.le_of_ble_eq_true rfl) (by decide) (by decide) ?_
  refine q_if_eq (tgt := 19) C dX11_probe_8 (by decide) h (fun _ h => ?_) (fun _ h => ?_)
  · refine x_iconst (v := (-1 : Int32)) C dX11_probe_19 (by decide) ?_
    exact q_iret C dX11_probe_20 rfl (by decide) (by decide) (Option.some.inj h)
  · refine q_iload_n C dX11_probe_11 rfl ?_
    refine q_iload_n C dX11_probe_12 rfl ?_
    obtain ⟨u4, e1, h⟩ := q_bind h
    refine x_callS0 C dX11_probe_13 lkM_X11_291 mS_X11_areWarmthAndJoy (c_X11_areWarmthAndJoy _ _ _ _ _ e1) rfl rfl (Nat.le_of_ble_eq_true rfl) (by decide) (by decide) ?_
    refine q_if_ne (tgt := 21) C dX11_probe_16 (by decide) h (fun _ h => ?_) (fun _ h => ?_)
    · refine x_iconst (v := (-1 : Int32)) C dX11_probe_19 (by decide) ?_
      exact q_iret C dX11_probe_20 rfl (by decide) (by decide) (Option.some.inj h)
    · refine q_aload_n C dX11_probe_21 rfl ?_
      refine x_getR (ci := 11) (j := 12) C dX11_probe_22 lkF_X11_94 rfl h (fun c5 h => ?_)
      refine x_nn h (fun r6 h => ?_)
      refine q_iload_n C dX11_probe_25 rfl ?_
      refine q_iload_n C dX11_probe_26 rfl ?_
      refine q_iload_n C dX11_probe_27 rfl ?_
      obtain ⟨hk, h⟩ := q_obE h
      obtain ⟨⟨u7, M8⟩, e1, h⟩ := q_bind h
      refine x_callV0 C dX11_probe_28 lkM_X11_302 mV_X7_dishToTry ⟨_, rfl, rfl⟩ hk (c_X7_dishToTry _ _ _ _ _ _ _ e1) rfl rfl (Nat.le_of_ble_eq_true rfl) (by decide) (by decide) ?_
      exact q_iret C dX11_probe_31 rfl (by decide) (by decide) (Option.some.inj h)
noncomputable def F_X11_leaves (l0 : Nat) (l1 : Int32) (M : q_Mem) : Option (Int32 × q_Mem) := (q_gR M l0 11 1 (fun c1 => q_nn c1 (fun r2 => (q_ob M r2 3 ((F_X3_hasGuest r2 l1 M).bind (fun u3 => (if u3 = 0 then some ((-1 : Int32), M) else (q_gR M l0 11 6 (fun c4 => q_nn c4 (fun r5 => (q_ob M r5 8 ((F_X8_hasLeft r5 l1 M).bind (fun u6 => (if u6 = 0 then (q_gR M l0 11 11 (fun c7 => q_nn c7 (fun r8 => (q_gR M l0 11 6 (fun c9 => q_nn c9 (fun r10 => (q_ob M r8 2 ((F_X2_daysToLeaving r8 r10 l1 M).bind (fun x => match x with | (u11, M12) => some (u11, M12)))))))))) else some ((-1 : Int32), M)))))))))))))))
set_option maxRecDepth 100000 in
set_option maxHeartbeats 4000000 in
theorem c_X11_leaves (l : Launch) (G : q_G) (l0 : Nat) (l1 : Int32) (M : q_Mem) {r : Int32} {M' : q_Mem} (h : F_X11_leaves l0 l1 M = some (r, M')) : q_Met l G yX11_leaves cX11_leaves 2 (Option.some Jvm.ClassFile.FieldType.int) 7 0 0 [.ref l0, .int l1] M (some (.int r)) M' := by
  unfold F_X11_leaves at h
  refine q_enter [some (.ref l0), some (.int l1)] (by decide) (Nat.le_of_ble_eq_true rfl) rfl (fun K C => ?_)
  refine q_aload_n C dX11_leaves_0 rfl ?_
  refine x_getR (ci := 11) (j := 1) C dX11_leaves_1 lkF_X11_19 rfl h (fun c1 h => ?_)
  refine x_nn h (fun r2 h => ?_)
  refine q_iload_n C dX11_leaves_4 rfl ?_
  obtain ⟨hk, h⟩ := q_obE h
  obtain ⟨u3, e1, h⟩ := q_bind h
  refine x_callV0 C dX11_leaves_5 lkM_X11_170 mV_X3_hasGuest ⟨_, rfl, rfl⟩ hk (c_X3_hasGuest _ _ _ _ _ e1) rfl rfl (Nat.le_of_ble_eq_true rfl) (by decide) (by decide) ?_
  refine q_if_eq (tgt := 22) C dX11_leaves_8 (by decide) h (fun _ h => ?_) (fun _ h => ?_)
  · refine x_iconst (v := (-1 : Int32)) C dX11_leaves_22 (by decide) ?_
    exact q_iret C dX11_leaves_23 rfl (by decide) (by decide) (Option.some.inj h)
  · refine q_aload_n C dX11_leaves_11 rfl ?_
    refine x_getR (ci := 11) (j := 6) C dX11_leaves_12 lkF_X11_50 rfl h (fun c4 h => ?_)
    refine x_nn h (fun r5 h => ?_)
    refine q_iload_n C dX11_leaves_15 rfl ?_
    obtain ⟨hk, h⟩ := q_obE h
    obtain ⟨u6, e1, h⟩ := q_bind h
    refine x_callV0 C dX11_leaves_16 lkM_X11_183 mV_X8_hasLeft ⟨_, rfl, rfl⟩ hk (c_X8_hasLeft _ _ _ _ _ e1) rfl rfl (Nat.le_of_ble_eq_true rfl) (by decide) (by decide) ?_
    refine q_if_eq (tgt := 24) C dX11_leaves_19 (by decide) h (fun _ h => ?_) (fun _ h => ?_)
    · refine q_aload_n C dX11_leaves_24 rfl ?_
      refine x_getR (ci := 11) (j := 11) C dX11_leaves_25 lkF_X11_87 rfl h (fun c7 h => ?_)
      refine x_nn h (fun r8 h => ?_)
      refine q_aload_n C dX11_leaves_28 rfl ?_
      refine x_getR (ci := 11) (j := 6) C dX11_leaves_29 lkF_X11_50 rfl h (fun c9 h => ?_)
      refine x_nn h (fun r10 h => ?_)
      refine q_iload_n C dX11_leaves_32 rfl ?_
      obtain ⟨hk, h⟩ := q_obE h
      obtain ⟨⟨u11, M12⟩, e1, h⟩ := q_bind h
      refine x_callV0 C dX11_leaves_33 lkM_X11_306 mV_X2_daysToLeaving ⟨_, rfl, rfl⟩ hk (c_X2_daysToLeaving _ _ _ _ _ _ e1) rfl rfl (Nat.le_of_ble_eq_true rfl) (by decide) (by decide) ?_
      exact q_iret C dX11_leaves_36 rfl (by decide) (by decide) (Option.some.inj h)
    · refine x_iconst (v := (-1 : Int32)) C dX11_leaves_22 (by decide) ?_
      exact q_iret C dX11_leaves_23 rfl (by decide) (by decide) (Option.some.inj h)
noncomputable def F_X11_canPlay (l0 : Nat) (l1 : Int32) (l2 : Int32) (M : q_Mem) : Option (Int32) := (q_gR M l0 11 1 (fun c1 => q_nn c1 (fun r2 => (q_ob M r2 3 ((F_X3_hasGuest r2 l1 M).bind (fun u3 => (if u3 = 0 then q_rq (0 : Int32) else (q_gR M l0 11 1 (fun c4 => q_nn c4 (fun r5 => (q_ob M r5 3 ((F_X3_hasGuest r5 l2 M).bind (fun u6 => (if u6 = 0 then q_rq (0 : Int32) else (if l1 = l2 then q_rq (0 : Int32) else (q_gR M l0 11 6 (fun c7 => q_nn c7 (fun r8 => (q_ob M r8 8 ((F_X8_hasLeft r8 l1 M).bind (fun u9 => (if u9 = 0 then (q_gR M l0 11 6 (fun c10 => q_nn c10 (fun r11 => (q_ob M r11 8 ((F_X8_hasLeft r11 l2 M).bind (fun u12 => (if u12 = 0 then q_rq (1 : Int32) else q_rq (0 : Int32)))))))) else q_rq (0 : Int32)))))))))))))))))))))))
set_option maxRecDepth 100000 in
set_option maxHeartbeats 4000000 in
theorem c_X11_canPlay (l : Launch) (G : q_G) (l0 : Nat) (l1 : Int32) (l2 : Int32) (M : q_Mem) {r : Int32} (h : F_X11_canPlay l0 l1 l2 M = some r) : q_Met l G yX11_canPlay cX11_canPlay 3 (Option.some Jvm.ClassFile.FieldType.boolean) 2 0 0 [.ref l0, .int l1, .int l2] M (some (.int r)) M := by
  unfold F_X11_canPlay at h
  refine q_enter [some (.ref l0), some (.int l1), some (.int l2)] (by decide) (Nat.le_of_ble_eq_true rfl) rfl (fun K C => ?_)
  refine q_aload_n C dX11_canPlay_0 rfl ?_
  refine x_getR (ci := 11) (j := 1) C dX11_canPlay_1 lkF_X11_19 rfl h (fun c1 h => ?_)
  refine x_nn h (fun r2 h => ?_)
  refine q_iload_n C dX11_canPlay_4 rfl ?_
  obtain ⟨hk, h⟩ := q_obE h
  obtain ⟨u3, e1, h⟩ := q_bind h
  refine x_callV0 C dX11_canPlay_5 lkM_X11_170 mV_X3_hasGuest ⟨_, rfl, rfl⟩ hk (c_X3_hasGuest _ _ _ _ _ e1) rfl rfl (Nat.le_of_ble_eq_true rfl) (by decide) (by decide) ?_
  refine q_if_eq (tgt := 53) C dX11_canPlay_8 (by decide) h (fun _ h => ?_) (fun _ h => ?_)
  · refine x_iconst (v := (0 : Int32)) C dX11_canPlay_53 (by decide) ?_
    exact q_zret (res := (r, M)) C dX11_canPlay_54 rfl (by decide) (by decide) (q_rqE h).1 (congrArg (fun z => (z, M)) (q_rqE h).2)
  · refine q_aload_n C dX11_canPlay_11 rfl ?_
    refine x_getR (ci := 11) (j := 1) C dX11_canPlay_12 lkF_X11_19 rfl h (fun c4 h => ?_)
    refine x_nn h (fun r5 h => ?_)
    refine q_iload_n C dX11_canPlay_15 rfl ?_
    obtain ⟨hk, h⟩ := q_obE h
    obtain ⟨u6, e1, h⟩ := q_bind h
    refine x_callV0 C dX11_canPlay_16 lkM_X11_170 mV_X3_hasGuest ⟨_, rfl, rfl⟩ hk (c_X3_hasGuest _ _ _ _ _ e1) rfl rfl (Nat.le_of_ble_eq_true rfl) (by decide) (by decide) ?_
    refine q_if_eq (tgt := 53) C dX11_canPlay_19 (by decide) h (fun _ h => ?_) (fun _ h => ?_)
    · refine x_iconst (v := (0 : Int32)) C dX11_canPlay_53 (by decide) ?_
      exact q_zret (res := (r, M)) C dX11_canPlay_54 rfl (by decide) (by decide) (q_rqE h).1 (congrArg (fun z => (z, M)) (q_rqE h).2)
    · refine q_iload_n C dX11_canPlay_22 rfl ?_
      refine q_iload_n C dX11_canPlay_23 rfl ?_
      refine q_icmp_eq (tgt := 53) C dX11_canPlay_24 (by decide) h (fun _ h => ?_) (fun _ h => ?_)
      · refine x_iconst (v := (0 : Int32)) C dX11_canPlay_53 (by decide) ?_
        exact q_zret (res := (r, M)) C dX11_canPlay_54 rfl (by decide) (by decide) (q_rqE h).1 (congrArg (fun z => (z, M)) (q_rqE h).2)
      · refine q_aload_n C dX11_canPlay_27 rfl ?_
        refine x_getR (ci := 11) (j := 6) C dX11_canPlay_28 lkF_X11_50 rfl h (fun c7 h => ?_)
        refine x_nn h (fun r8 h => ?_)
        refine q_iload_n C dX11_canPlay_31 rfl ?_
        obtain ⟨hk, h⟩ := q_obE h
        obtain ⟨u9, e1, h⟩ := q_bind h
        refine x_callV0 C dX11_canPlay_32 lkM_X11_183 mV_X8_hasLeft ⟨_, rfl, rfl⟩ hk (c_X8_hasLeft _ _ _ _ _ e1) rfl rfl (Nat.le_of_ble_eq_true rfl) (by decide) (by decide) ?_
        refine q_if_ne (tgt := 53) C dX11_canPlay_35 (by decide) h (fun _ h => ?_) (fun _ h => ?_)
        · refine q_aload_n C dX11_canPlay_38 rfl ?_
          refine x_getR (ci := 11) (j := 6) C dX11_canPlay_39 lkF_X11_50 rfl h (fun c10 h => ?_)
          refine x_nn h (fun r11 h => ?_)
          refine q_iload_n C dX11_canPlay_42 rfl ?_
          obtain ⟨hk, h⟩ := q_obE h
          obtain ⟨u12, e1, h⟩ := q_bind h
          refine x_callV0 C dX11_canPlay_43 lkM_X11_183 mV_X8_hasLeft ⟨_, rfl, rfl⟩ hk (c_X8_hasLeft _ _ _ _ _ e1) rfl rfl (Nat.le_of_ble_eq_true rfl) (by decide) (by decide) ?_
          refine q_if_ne (tgt := 53) C dX11_canPlay_46 (by decide) h (fun _ h => ?_) (fun _ h => ?_)
          · refine x_iconst (v := (1 : Int32)) C dX11_canPlay_49 (by decide) ?_
            refine q_goto (tgt := 54) C dX11_canPlay_50 (by decide) ?_
            exact q_zret (res := (r, M)) C dX11_canPlay_54 rfl (by decide) (by decide) (q_rqE h).1 (congrArg (fun z => (z, M)) (q_rqE h).2)
          · refine x_iconst (v := (0 : Int32)) C dX11_canPlay_53 (by decide) ?_
            exact q_zret (res := (r, M)) C dX11_canPlay_54 rfl (by decide) (by decide) (q_rqE h).1 (congrArg (fun z => (z, M)) (q_rqE h).2)
        · refine x_iconst (v := (0 : Int32)) C dX11_canPlay_53 (by decide) ?_
          exact q_zret (res := (r, M)) C dX11_canPlay_54 rfl (by decide) (by decide) (q_rqE h).1 (congrArg (fun z => (z, M)) (q_rqE h).2)
noncomputable def F_X11_game (l0 : Nat) (l1 : Int32) (l2 : Int32) (l3 : Int32) (l4 : Int32) (l5 : Int32) (M : q_Mem) : Option (Int32 × q_Mem) := (q_ob M l0 11 ((F_X11_canPlay l0 l1 l2 M).bind (fun u1 => (if u1 = 0 then some ((-1000000 : Int32), M) else (if l3 < 0 then some ((-1000000 : Int32), M) else (if (3 : Int32) < l3 then some ((-1000000 : Int32), M) else (if l4 < 0 then some ((-1000000 : Int32), M) else (if (3 : Int32) < l4 then some ((-1000000 : Int32), M) else (if l5 < 0 then some ((-1000000 : Int32), M) else (if (1 : Int32) < l5 then some ((-1000000 : Int32), M) else (q_gR M l0 11 11 (fun c2 => q_nn c2 (fun r3 => (q_gR M l0 11 6 (fun c4 => q_nn c4 (fun r5 => (q_ob M r3 2 ((F_X2_play r3 r5 l1 l2 l3 l4 M).bind (fun x => match x with | (_, M7) => (if l5 = 0 then (q_gR M7 l0 11 11 (fun c8 => q_nn c8 (fun r9 => (q_gI M7 r9 2 10 (fun v10 => some (v10, M7)))))) else (q_gR M7 l0 11 11 (fun c11 => q_nn c11 (fun r12 => (q_gI M7 r12 2 11 (fun v13 => some (v13, M7))))))))))))))))))))))))))
set_option maxRecDepth 100000 in
set_option maxHeartbeats 4000000 in
theorem c_X11_game (l : Launch) (G : q_G) (l0 : Nat) (l1 : Int32) (l2 : Int32) (l3 : Int32) (l4 : Int32) (l5 : Int32) (M : q_Mem) {r : Int32} {M' : q_Mem} (h : F_X11_game l0 l1 l2 l3 l4 l5 M = some (r, M')) : q_Met l G yX11_game cX11_game 6 (Option.some Jvm.ClassFile.FieldType.int) 7 0 0 [.ref l0, .int l1, .int l2, .int l3, .int l4, .int l5] M (some (.int r)) M' := by
  unfold F_X11_game at h
  refine q_enter [some (.ref l0), some (.int l1), some (.int l2), some (.int l3), some (.int l4), some (.int l5)] (by decide) (Nat.le_of_ble_eq_true rfl) rfl (fun K C => ?_)
  refine q_aload_n C dX11_game_0 rfl ?_
  refine q_iload_n C dX11_game_1 rfl ?_
  refine q_iload_n C dX11_game_2 rfl ?_
  obtain ⟨hk, h⟩ := q_obE h
  obtain ⟨u1, e1, h⟩ := q_bind h
  refine x_callV0 C dX11_game_3 lkM_X11_309 mV_X11_canPlay ⟨_, rfl, rfl⟩ hk (c_X11_canPlay _ _ _ _ _ _ e1) rfl rfl (Nat.le_of_ble_eq_true rfl) (by decide) (by decide) ?_
  refine q_if_eq (tgt := 40) C dX11_game_6 (by decide) h (fun _ h => ?_) (fun _ h => ?_)
  · refine q_ldc (v := (-1000000 : Int32)) C dX11_game_40 wd_866 ?_
    exact q_iret C dX11_game_42 rfl (by decide) (by decide) (Option.some.inj h)
  · refine q_iload_n C dX11_game_9 rfl ?_
    refine q_if_lt (tgt := 40) C dX11_game_10 (by decide) h (fun _ h => ?_) (fun _ h => ?_)
    · refine q_ldc (v := (-1000000 : Int32)) C dX11_game_40 wd_866 ?_
      exact q_iret C dX11_game_42 rfl (by decide) (by decide) (Option.some.inj h)
    · refine q_iload_n C dX11_game_13 rfl ?_
      refine x_iconst (v := (3 : Int32)) C dX11_game_14 (by decide) ?_
      refine q_icmp_gt (tgt := 40) C dX11_game_15 (by decide) h (fun _ h => ?_) (fun _ h => ?_)
      · refine q_ldc (v := (-1000000 : Int32)) C dX11_game_40 wd_866 ?_
        exact q_iret C dX11_game_42 rfl (by decide) (by decide) (Option.some.inj h)
      · refine q_iload C dX11_game_18 rfl ?_
        refine q_if_lt (tgt := 40) C dX11_game_20 (by decide) h (fun _ h => ?_) (fun _ h => ?_)
        · refine q_ldc (v := (-1000000 : Int32)) C dX11_game_40 wd_866 ?_
          exact q_iret C dX11_game_42 rfl (by decide) (by decide) (Option.some.inj h)
        · refine q_iload C dX11_game_23 rfl ?_
          refine x_iconst (v := (3 : Int32)) C dX11_game_25 (by decide) ?_
          refine q_icmp_gt (tgt := 40) C dX11_game_26 (by decide) h (fun _ h => ?_) (fun _ h => ?_)
          · refine q_ldc (v := (-1000000 : Int32)) C dX11_game_40 wd_866 ?_
            exact q_iret C dX11_game_42 rfl (by decide) (by decide) (Option.some.inj h)
          · refine q_iload C dX11_game_29 rfl ?_
            refine q_if_lt (tgt := 40) C dX11_game_31 (by decide) h (fun _ h => ?_) (fun _ h => ?_)
            · refine q_ldc (v := (-1000000 : Int32)) C dX11_game_40 wd_866 ?_
              exact q_iret C dX11_game_42 rfl (by decide) (by decide) (Option.some.inj h)
            · refine q_iload C dX11_game_34 rfl ?_
              refine x_iconst (v := (1 : Int32)) C dX11_game_36 (by decide) ?_
              refine q_icmp_le (tgt := 43) C dX11_game_37 (by decide) h (fun _ h => ?_) (fun _ h => ?_)
              · refine q_ldc (v := (-1000000 : Int32)) C dX11_game_40 wd_866 ?_
                exact q_iret C dX11_game_42 rfl (by decide) (by decide) (Option.some.inj h)
              · refine q_aload_n C dX11_game_43 rfl ?_
                refine x_getR (ci := 11) (j := 11) C dX11_game_44 lkF_X11_87 rfl h (fun c2 h => ?_)
                refine x_nn h (fun r3 h => ?_)
                refine q_aload_n C dX11_game_47 rfl ?_
                refine x_getR (ci := 11) (j := 6) C dX11_game_48 lkF_X11_50 rfl h (fun c4 h => ?_)
                refine x_nn h (fun r5 h => ?_)
                refine q_iload_n C dX11_game_51 rfl ?_
                refine q_iload_n C dX11_game_52 rfl ?_
                refine q_iload_n C dX11_game_53 rfl ?_
                refine q_iload C dX11_game_54 rfl ?_
                obtain ⟨hk, h⟩ := q_obE h
                obtain ⟨⟨_, M7⟩, e1, h⟩ := q_bind h
                refine x_callVv0 C dX11_game_56 lkM_X11_312 mV_X2_play ⟨_, rfl, rfl⟩ hk (c_X2_play _ _ _ _ _ _ _ _ _ e1) rfl rfl (Nat.le_of_ble_eq_true rfl) (by decide) (by decide) ?_
                refine q_iload C dX11_game_59 rfl ?_
                refine q_if_ne (tgt := 74) C dX11_game_61 (by decide) h (fun _ h => ?_) (fun _ h => ?_)
                · refine q_aload_n C dX11_game_64 rfl ?_
                  refine x_getR (ci := 11) (j := 11) C dX11_game_65 lkF_X11_87 rfl h (fun c8 h => ?_)
                  refine x_nn h (fun r9 h => ?_)
                  refine x_getI (ci := 2) (j := 10) C dX11_game_68 lkF_X11_316 rfl h (fun v10 h => ?_)
                  refine q_goto (tgt := 81) C dX11_game_71 (by decide) ?_
                  exact q_iret C dX11_game_81 rfl (by decide) (by decide) (Option.some.inj h)
                · refine q_aload_n C dX11_game_74 rfl ?_
                  refine x_getR (ci := 11) (j := 11) C dX11_game_75 lkF_X11_87 rfl h (fun c11 h => ?_)
                  refine x_nn h (fun r12 h => ?_)
                  refine x_getI (ci := 2) (j := 11) C dX11_game_78 lkF_X11_319 rfl h (fun v13 h => ?_)
                  exact q_iret C dX11_game_81 rfl (by decide) (by decide) (Option.some.inj h)
noncomputable def F_X11_rests (l0 : Nat) (l1 : Int32) (l2 : Int32) (l3 : Int32) (M : q_Mem) : Option (Int32 × q_Mem) := (q_ob M l0 11 ((F_X11_canPlay l0 l1 l2 M).bind (fun u1 => (if u1 = 0 then some ((-1 : Int32), M) else (if l3 < (-1 : Int32) then some ((-1 : Int32), M) else (if l3 < (16 : Int32) then (q_gR M l0 11 11 (fun c2 => q_nn c2 (fun r3 => (q_gR M l0 11 6 (fun c4 => q_nn c4 (fun r5 => (q_ob M r3 2 ((F_X2_playAll r3 r5 l1 l2 M).bind (fun x => match x with | (_, M7) => (if l3 = (-1 : Int32) then (q_gR M7 l0 11 11 (fun c8 => q_nn c8 (fun r9 => (q_ob M7 r9 2 ((F_X2_restCount r9 M7).bind (fun u10 => some (u10, M7))))))) else (q_gR M7 l0 11 11 (fun c11 => q_nn c11 (fun r12 => (q_ob M7 r12 2 ((F_X2_restAt r12 l3 M7).bind (fun u13 => some (u13, M7))))))))))))))))) else some ((-1 : Int32), M)))))))
set_option maxRecDepth 100000 in
set_option maxHeartbeats 4000000 in
theorem c_X11_rests (l : Launch) (G : q_G) (l0 : Nat) (l1 : Int32) (l2 : Int32) (l3 : Int32) (M : q_Mem) {r : Int32} {M' : q_Mem} (h : F_X11_rests l0 l1 l2 l3 M = some (r, M')) : q_Met l G yX11_rests cX11_rests 4 (Option.some Jvm.ClassFile.FieldType.int) 8 0 0 [.ref l0, .int l1, .int l2, .int l3] M (some (.int r)) M' := by
  unfold F_X11_rests at h
  refine q_enter [some (.ref l0), some (.int l1), some (.int l2), some (.int l3)] (by decide) (Nat.le_of_ble_eq_true rfl) rfl (fun K C => ?_)
  refine q_aload_n C dX11_rests_0 rfl ?_
  refine q_iload_n C dX11_rests_1 rfl ?_
  refine q_iload_n C dX11_rests_2 rfl ?_
  obtain ⟨hk, h⟩ := q_obE h
  obtain ⟨u1, e1, h⟩ := q_bind h
  refine x_callV0 C dX11_rests_3 lkM_X11_309 mV_X11_canPlay ⟨_, rfl, rfl⟩ hk (c_X11_canPlay _ _ _ _ _ _ e1) rfl rfl (Nat.le_of_ble_eq_true rfl) (by decide) (by decide) ?_
  refine q_if_eq (tgt := 20) C dX11_rests_6 (by decide) h (fun _ h => ?_) (fun _ h => ?_)
  · refine x_iconst (v := (-1 : Int32)) C dX11_rests_20 (by decide) ?_
    exact q_iret C dX11_rests_21 rfl (by decide) (by decide) (Option.some.inj h)
  · refine q_iload_n C dX11_rests_9 rfl ?_
    refine x_iconst (v := (-1 : Int32)) C dX11_rests_10 (by decide) ?_
    refine q_icmp_lt (tgt := 20) C dX11_rests_11 (by decide) h (fun _ h => ?_) (fun _ h => ?_)
    · refine x_iconst (v := (-1 : Int32)) C dX11_rests_20 (by decide) ?_
      exact q_iret C dX11_rests_21 rfl (by decide) (by decide) (Option.some.inj h)
    · refine q_iload_n C dX11_rests_14 rfl ?_
      refine x_bipush (v := (16 : Int32)) C dX11_rests_15 (by decide) ?_
      refine q_icmp_lt (tgt := 22) C dX11_rests_17 (by decide) h (fun _ h => ?_) (fun _ h => ?_)
      · refine q_aload_n C dX11_rests_22 rfl ?_
        refine x_getR (ci := 11) (j := 11) C dX11_rests_23 lkF_X11_87 rfl h (fun c2 h => ?_)
        refine x_nn h (fun r3 h => ?_)
        refine q_aload_n C dX11_rests_26 rfl ?_
        refine x_getR (ci := 11) (j := 6) C dX11_rests_27 lkF_X11_50 rfl h (fun c4 h => ?_)
        refine x_nn h (fun r5 h => ?_)
        refine q_iload_n C dX11_rests_30 rfl ?_
        refine q_iload_n C dX11_rests_31 rfl ?_
        obtain ⟨hk, h⟩ := q_obE h
        obtain ⟨⟨_, M7⟩, e1, h⟩ := q_bind h
        refine x_callVv0 C dX11_rests_32 lkM_X11_322 mV_X2_playAll ⟨_, rfl, rfl⟩ hk (c_X2_playAll _ _ _ _ _ _ _ e1) rfl rfl (Nat.le_of_ble_eq_true rfl) (by decide) (by decide) ?_
        refine q_iload_n C dX11_rests_35 rfl ?_
        refine x_iconst (v := (-1 : Int32)) C dX11_rests_36 (by decide) ?_
        refine q_icmp_ne (tgt := 50) C dX11_rests_37 (by decide) h (fun _ h => ?_) (fun _ h => ?_)
        · refine q_aload_n C dX11_rests_40 rfl ?_
          refine x_getR (ci := 11) (j := 11) C dX11_rests_41 lkF_X11_87 rfl h (fun c8 h => ?_)
          refine x_nn h (fun r9 h => ?_)
          obtain ⟨hk, h⟩ := q_obE h
          obtain ⟨u10, e1, h⟩ := q_bind h
          refine x_callV0 C dX11_rests_44 lkM_X11_326 mV_X2_restCount ⟨_, rfl, rfl⟩ hk (c_X2_restCount _ _ _ _ e1) rfl rfl (Nat.le_of_ble_eq_true rfl) (by decide) (by decide) ?_
          refine q_goto (tgt := 58) C dX11_rests_47 (by decide) ?_
          exact q_iret C dX11_rests_58 rfl (by decide) (by decide) (Option.some.inj h)
        · refine q_aload_n C dX11_rests_50 rfl ?_
          refine x_getR (ci := 11) (j := 11) C dX11_rests_51 lkF_X11_87 rfl h (fun c11 h => ?_)
          refine x_nn h (fun r12 h => ?_)
          refine q_iload_n C dX11_rests_54 rfl ?_
          obtain ⟨hk, h⟩ := q_obE h
          obtain ⟨u13, e1, h⟩ := q_bind h
          refine x_callV0 C dX11_rests_55 lkM_X11_329 mV_X2_restAt ⟨_, rfl, rfl⟩ hk (c_X2_restAt _ _ _ _ _ e1) rfl rfl (Nat.le_of_ble_eq_true rfl) (by decide) (by decide) ?_
          exact q_iret C dX11_rests_58 rfl (by decide) (by decide) (Option.some.inj h)
      · refine x_iconst (v := (-1 : Int32)) C dX11_rests_20 (by decide) ?_
        exact q_iret C dX11_rests_21 rfl (by decide) (by decide) (Option.some.inj h)
noncomputable def F_X11_odds (l0 : Nat) (l1 : Int32) (l2 : Int32) (l3 : Int32) (M : q_Mem) : Option (Int32 × q_Mem) := (q_gR M l0 11 1 (fun c1 => q_nn c1 (fun r2 => (q_ob M r2 3 ((F_X3_hasGuest r2 l1 M).bind (fun u3 => (if u3 = 0 then some ((-1 : Int32), M) else (if l2 < 0 then some ((-1 : Int32), M) else (if (4 : Int32) < l2 then some ((-1 : Int32), M) else (if l3 < 0 then some ((-1 : Int32), M) else (if (100 : Int32) < l3 then some ((-1 : Int32), M) else (q_gR M l0 11 11 (fun c4 => q_nn c4 (fun r5 => (q_gR M l0 11 6 (fun c6 => q_nn c6 (fun r7 => (q_ob M r5 2 ((F_X2_oddsOf r5 r7 l1 l2 l3 M).bind (fun x => match x with | (u8, M9) => some (u8.toInt32, M9)))))))))))))))))))))
set_option maxRecDepth 100000 in
set_option maxHeartbeats 4000000 in
theorem c_X11_odds (l : Launch) (G : q_G) (l0 : Nat) (l1 : Int32) (l2 : Int32) (l3 : Int32) (M : q_Mem) {r : Int32} {M' : q_Mem} (h : F_X11_odds l0 l1 l2 l3 M = some (r, M')) : q_Met l G yX11_odds cX11_odds 4 (Option.some Jvm.ClassFile.FieldType.int) 69 0 0 [.ref l0, .int l1, .int l2, .int l3] M (some (.int r)) M' := by
  unfold F_X11_odds at h
  refine q_enter [some (.ref l0), some (.int l1), some (.int l2), some (.int l3)] (by decide) (Nat.le_of_ble_eq_true rfl) rfl (fun K C => ?_)
  refine q_aload_n C dX11_odds_0 rfl ?_
  refine x_getR (ci := 11) (j := 1) C dX11_odds_1 lkF_X11_19 rfl h (fun c1 h => ?_)
  refine x_nn h (fun r2 h => ?_)
  refine q_iload_n C dX11_odds_4 rfl ?_
  obtain ⟨hk, h⟩ := q_obE h
  obtain ⟨u3, e1, h⟩ := q_bind h
  refine x_callV0 C dX11_odds_5 lkM_X11_170 mV_X3_hasGuest ⟨_, rfl, rfl⟩ hk (c_X3_hasGuest _ _ _ _ _ e1) rfl rfl (Nat.le_of_ble_eq_true rfl) (by decide) (by decide) ?_
  refine q_if_eq (tgt := 30) C dX11_odds_8 (by decide) h (fun _ h => ?_) (fun _ h => ?_)
  · refine x_iconst (v := (-1 : Int32)) C dX11_odds_30 (by decide) ?_
    exact q_iret C dX11_odds_31 rfl (by decide) (by decide) (Option.some.inj h)
  · refine q_iload_n C dX11_odds_11 rfl ?_
    refine q_if_lt (tgt := 30) C dX11_odds_12 (by decide) h (fun _ h => ?_) (fun _ h => ?_)
    · refine x_iconst (v := (-1 : Int32)) C dX11_odds_30 (by decide) ?_
      exact q_iret C dX11_odds_31 rfl (by decide) (by decide) (Option.some.inj h)
    · refine q_iload_n C dX11_odds_15 rfl ?_
      refine x_iconst (v := (4 : Int32)) C dX11_odds_16 (by decide) ?_
      refine q_icmp_gt (tgt := 30) C dX11_odds_17 (by decide) h (fun _ h => ?_) (fun _ h => ?_)
      · refine x_iconst (v := (-1 : Int32)) C dX11_odds_30 (by decide) ?_
        exact q_iret C dX11_odds_31 rfl (by decide) (by decide) (Option.some.inj h)
      · refine q_iload_n C dX11_odds_20 rfl ?_
        refine q_if_lt (tgt := 30) C dX11_odds_21 (by decide) h (fun _ h => ?_) (fun _ h => ?_)
        · refine x_iconst (v := (-1 : Int32)) C dX11_odds_30 (by decide) ?_
          exact q_iret C dX11_odds_31 rfl (by decide) (by decide) (Option.some.inj h)
        · refine q_iload_n C dX11_odds_24 rfl ?_
          refine x_bipush (v := (100 : Int32)) C dX11_odds_25 (by decide) ?_
          refine q_icmp_le (tgt := 32) C dX11_odds_27 (by decide) h (fun _ h => ?_) (fun _ h => ?_)
          · refine x_iconst (v := (-1 : Int32)) C dX11_odds_30 (by decide) ?_
            exact q_iret C dX11_odds_31 rfl (by decide) (by decide) (Option.some.inj h)
          · refine q_aload_n C dX11_odds_32 rfl ?_
            refine x_getR (ci := 11) (j := 11) C dX11_odds_33 lkF_X11_87 rfl h (fun c4 h => ?_)
            refine x_nn h (fun r5 h => ?_)
            refine q_aload_n C dX11_odds_36 rfl ?_
            refine x_getR (ci := 11) (j := 6) C dX11_odds_37 lkF_X11_50 rfl h (fun c6 h => ?_)
            refine x_nn h (fun r7 h => ?_)
            refine q_iload_n C dX11_odds_40 rfl ?_
            refine q_iload_n C dX11_odds_41 rfl ?_
            refine q_iload_n C dX11_odds_42 rfl ?_
            obtain ⟨hk, h⟩ := q_obE h
            obtain ⟨⟨u8, M9⟩, e1, h⟩ := q_bind h
            refine x_callV0 C dX11_odds_43 lkM_X11_332 mV_X2_oddsOf ⟨_, rfl, rfl⟩ hk (c_X2_oddsOf _ _ _ _ _ _ _ _ e1) rfl rfl (Nat.le_of_ble_eq_true rfl) (by decide) (by decide) ?_
            refine q_l2i C dX11_odds_46 ?_
            exact q_iret C dX11_odds_47 rfl (by decide) (by decide) (Option.some.inj h)
noncomputable def J_X11_firstMost_46_6 (l0 : Nat) (l1 : Int32) (l2 : Int32) (l3 : Int32) (l4 : Int32) (l5 : Int32) (M : q_Mem) : Option ((Int32 × Int32) ⊕ (Int32)) := some (.inl (l4, (l5 + (1 : Int32))))
set_option maxRecDepth 100000 in
set_option maxHeartbeats 4000000 in
theorem jW_X11_firstMost_46_6 {K : q_K} {Q : State → Prop} (C : q_C K yX11_firstMost cX11_firstMost 6 (Option.some Jvm.ClassFile.FieldType.int) 1 0 0) (l0 : Nat) (l1 : Int32) (l2 : Int32) (l3 : Int32) (l4 : Int32) (l5 : Int32) (M : q_Mem) {stp : (Int32 × Int32) ⊕ (Int32)} (h : J_X11_firstMost_46_6 l0 l1 l2 l3 l4 l5 M = some stp) (kC : ∀ (l4 : Int32) (l5 : Int32), stp = .inl (l4, l5) → q_W K 6 Q 0 0 M 6 [some (.ref l0), some (.int l1), some (.int l2), some (.int l3), some (.int l4), some (.int l5)] []) (kE0 : ∀ (l4 : Int32), stp = .inr l4 → q_W K 6 Q 0 0 M 52 [none, none, none, none, some (.int l4), none] []) : q_W K 6 Q 0 0 M 46 [some (.ref l0), some (.int l1), some (.int l2), some (.int l3), some (.int l4), some (.int l5)] [] := by
  unfold J_X11_firstMost_46_6 at h
  refine x_iinc (w := (1 : Int32)) (L' := [some (.ref l0), some (.int l1), some (.int l2), some (.int l3), some (.int l4), some (.int (l5 + (1 : Int32)))]) C dX11_firstMost_46 rfl (by decide) (by decide) rfl rfl ?_
  refine q_goto (tgt := 6) C dX11_firstMost_49 (by decide) ?_
  exact q_msk [true, true, true, true, true, true] (kC _ _ (Option.some.inj h).symm)
noncomputable def B_X11_firstMost_6 (l0 : Nat) (l1 : Int32) (l2 : Int32) (l3 : Int32) (l4 : Int32) (l5 : Int32) (M : q_Mem) : Option ((Int32 × Int32) ⊕ (Int32)) := (if l5 < l3 then (q_al M l0 (fun v1 => (if (l1 + (l5 * l2)) < v1 then (q_lI M 0 l0 (l1 + (l5 * l2)) (fun v2 => (q_lI M 0 l0 (l1 + (l4 * l2)) (fun v3 => (if v3 < v2 then J_X11_firstMost_46_6 l0 l1 l2 l3 l5 l5 M else J_X11_firstMost_46_6 l0 l1 l2 l3 l4 l5 M))))) else some (.inr l4)))) else some (.inr l4))
set_option maxRecDepth 100000 in
set_option maxHeartbeats 4000000 in
theorem bW_X11_firstMost_6 {K : q_K} {Q : State → Prop} (C : q_C K yX11_firstMost cX11_firstMost 6 (Option.some Jvm.ClassFile.FieldType.int) 1 0 0) (l0 : Nat) (l1 : Int32) (l2 : Int32) (l3 : Int32) (l4 : Int32) (l5 : Int32) (M : q_Mem) {stp : (Int32 × Int32) ⊕ (Int32)} (h : B_X11_firstMost_6 l0 l1 l2 l3 l4 l5 M = some stp) (kC : ∀ (l4 : Int32) (l5 : Int32), stp = .inl (l4, l5) → q_W K 6 Q 0 0 M 6 [some (.ref l0), some (.int l1), some (.int l2), some (.int l3), some (.int l4), some (.int l5)] []) (kE0 : ∀ (l4 : Int32), stp = .inr l4 → q_W K 6 Q 0 0 M 52 [none, none, none, none, some (.int l4), none] []) : q_W K 6 Q 0 0 M 6 [some (.ref l0), some (.int l1), some (.int l2), some (.int l3), some (.int l4), some (.int l5)] [] := by
  unfold B_X11_firstMost_6 at h
  refine q_iload C dX11_firstMost_6 rfl ?_
  refine q_iload_n C dX11_firstMost_8 rfl ?_
  refine q_icmp_ge (tgt := 52) C dX11_firstMost_9 (by decide) h (fun _ h => ?_) (fun _ h => ?_)
  · refine q_iload_n C dX11_firstMost_12 rfl ?_
    refine q_iload C dX11_firstMost_13 rfl ?_
    refine q_iload_n C dX11_firstMost_15 rfl ?_
    refine q_imul C dX11_firstMost_16 ?_
    refine q_iadd C dX11_firstMost_17 ?_
    refine q_aload_n C dX11_firstMost_18 rfl ?_
    refine x_alen C dX11_firstMost_19 h (fun v1 h => ?_)
    refine q_icmp_ge (tgt := 52) C dX11_firstMost_20 (by decide) h (fun _ h => ?_) (fun _ h => ?_)
    · refine q_aload_n C dX11_firstMost_23 rfl ?_
      refine q_iload_n C dX11_firstMost_24 rfl ?_
      refine q_iload C dX11_firstMost_25 rfl ?_
      refine q_iload_n C dX11_firstMost_27 rfl ?_
      refine q_imul C dX11_firstMost_28 ?_
      refine q_iadd C dX11_firstMost_29 ?_
      refine x_iald C dX11_firstMost_30 h (fun v2 h => ?_)
      refine q_aload_n C dX11_firstMost_31 rfl ?_
      refine q_iload_n C dX11_firstMost_32 rfl ?_
      refine q_iload C dX11_firstMost_33 rfl ?_
      refine q_iload_n C dX11_firstMost_35 rfl ?_
      refine q_imul C dX11_firstMost_36 ?_
      refine q_iadd C dX11_firstMost_37 ?_
      refine x_iald C dX11_firstMost_38 h (fun v3 h => ?_)
      refine q_icmp_le (tgt := 46) C dX11_firstMost_39 (by decide) h (fun _ h => ?_) (fun _ h => ?_)
      · refine q_iload C dX11_firstMost_42 rfl ?_
        refine q_istore (L' := [some (.ref l0), some (.int l1), some (.int l2), some (.int l3), some (.int l5), some (.int l5)]) C dX11_firstMost_44 (by decide) rfl rfl ?_
        exact q_msk [true, true, true, true, true, true] (jW_X11_firstMost_46_6 C l0 l1 l2 l3 l5 l5 M h kC kE0)
      · exact q_msk [true, true, true, true, true, true] (jW_X11_firstMost_46_6 C l0 l1 l2 l3 l4 l5 M h kC kE0)
    · exact q_msk [false, false, false, false, true, false] (kE0 _ (Option.some.inj h).symm)
  · exact q_msk [false, false, false, false, true, false] (kE0 _ (Option.some.inj h).symm)
set_option maxRecDepth 100000 in
set_option maxHeartbeats 4000000 in
theorem lW_X11_firstMost_6 {K : q_K} {Q : State → Prop} (C : q_C K yX11_firstMost cX11_firstMost 6 (Option.some Jvm.ClassFile.FieldType.int) 1 0 0) (l0 : Nat) (l1 : Int32) (l2 : Int32) (l3 : Int32) (M : q_Mem) (n : Nat) : ∀ (l4 : Int32) (l5 : Int32) (e : (Int32)), q_lp (fun s => B_X11_firstMost_6 l0 l1 l2 l3 s.1 s.2 M) n (l4, l5) = some e → (∀ (l4 : Int32), e = l4 → q_W K 6 Q 0 0 M 52 [none, none, none, none, some (.int l4), none] []) → q_W K 6 Q 0 0 M 6 [some (.ref l0), some (.int l1), some (.int l2), some (.int l3), some (.int l4), some (.int l5)] [] := by
  induction n with
  | zero => intro l4 l5 e h; cases h
  | succ n ih =>
    intro l4 l5 e h kE0
    obtain ⟨stp, e1, e2⟩ := q_bind h
    refine bW_X11_firstMost_6 C l0 l1 l2 l3 l4 l5 M e1 (fun a0 a1 hs => ?_) (fun b0 hs => ?_)
    · subst hs; exact ih _ _ _ e2 kE0
    · subst hs; exact kE0 _ (Option.some.inj e2).symm
noncomputable def F_X11_firstMost (l0 : Nat) (l1 : Int32) (l2 : Int32) (l3 : Int32) (M : q_Mem) : Option (Int32) := (q_lp (fun s => B_X11_firstMost_6 l0 l1 l2 l3 s.1 s.2 M) q_fu ((0 : Int32), (1 : Int32))).bind (fun e4 => match e4 with | w5 => some w5)
set_option maxRecDepth 100000 in
set_option maxHeartbeats 4000000 in
theorem c_X11_firstMost (l : Launch) (G : q_G) (l0 : Nat) (l1 : Int32) (l2 : Int32) (l3 : Int32) (M : q_Mem) {r : Int32} (h : F_X11_firstMost l0 l1 l2 l3 M = some r) : q_Met l G yX11_firstMost cX11_firstMost 6 (Option.some Jvm.ClassFile.FieldType.int) 1 0 0 [.ref l0, .int l1, .int l2, .int l3] M (some (.int r)) M := by
  unfold F_X11_firstMost at h
  refine q_enter [some (.ref l0), some (.int l1), some (.int l2), some (.int l3), none, none] (by decide) (Nat.le_of_ble_eq_true rfl) rfl (fun K C => ?_)
  refine x_iconst (v := (0 : Int32)) C dX11_firstMost_0 (by decide) ?_
  refine q_istore (L' := [some (.ref l0), some (.int l1), some (.int l2), some (.int l3), some (.int (0 : Int32)), none]) C dX11_firstMost_1 (by decide) rfl rfl ?_
  refine x_iconst (v := (1 : Int32)) C dX11_firstMost_3 (by decide) ?_
  refine q_istore (L' := [some (.ref l0), some (.int l1), some (.int l2), some (.int l3), some (.int (0 : Int32)), some (.int (1 : Int32))]) C dX11_firstMost_4 (by decide) rfl rfl ?_
  obtain ⟨e4, he, h⟩ := q_bind h
  refine q_msk [true, true, true, true, true, true] (lW_X11_firstMost_6 C l0 l1 l2 l3 M q_fu _ _ _ he (fun w5 hs => ?_))
  · have hs := hs.symm
    subst hs
    refine q_iload C dX11_firstMost_52 rfl ?_
    exact q_iret (res := (r, M)) C dX11_firstMost_54 rfl (by decide) (by decide) (congrArg (fun z => (z, M)) (Option.some.inj h))
noncomputable def J_X11_cheapest_38_4 (l0 : Nat) (l1 : Int32) (l2 : Int32) (M : q_Mem) : Option ((Int32 × Int32) ⊕ (Int32)) := some (.inl (l1, (l2 + (1 : Int32))))
set_option maxRecDepth 100000 in
set_option maxHeartbeats 4000000 in
theorem jW_X11_cheapest_38_4 {K : q_K} {Q : State → Prop} (C : q_C K yX11_cheapest cX11_cheapest 3 (Option.some Jvm.ClassFile.FieldType.int) 2 0 0) (l0 : Nat) (l1 : Int32) (l2 : Int32) (M : q_Mem) {stp : (Int32 × Int32) ⊕ (Int32)} (h : J_X11_cheapest_38_4 l0 l1 l2 M = some stp) (kC : ∀ (l1 : Int32) (l2 : Int32), stp = .inl (l1, l2) → q_W K 3 Q 0 0 M 4 [some (.ref l0), some (.int l1), some (.int l2)] []) (kE0 : ∀ (l1 : Int32), stp = .inr l1 → q_W K 3 Q 0 0 M 44 [none, some (.int l1), none] []) : q_W K 3 Q 0 0 M 38 [some (.ref l0), some (.int l1), some (.int l2)] [] := by
  unfold J_X11_cheapest_38_4 at h
  refine x_iinc (w := (1 : Int32)) (L' := [some (.ref l0), some (.int l1), some (.int (l2 + (1 : Int32)))]) C dX11_cheapest_38 rfl (by decide) (by decide) rfl rfl ?_
  refine q_goto (tgt := 4) C dX11_cheapest_41 (by decide) ?_
  exact q_msk [true, true, true] (kC _ _ (Option.some.inj h).symm)
noncomputable def B_X11_cheapest_4 (l0 : Nat) (l1 : Int32) (l2 : Int32) (M : q_Mem) : Option ((Int32 × Int32) ⊕ (Int32)) := (q_gR M l0 11 1 (fun c1 => q_nn c1 (fun r2 => (q_gI M r2 3 4 (fun v3 => (if l2 < v3 then (q_gR M l0 11 1 (fun c4 => q_nn c4 (fun r5 => (q_ob M r5 3 ((F_X3_ofDish r5 l2 (1 : Int32) M).bind (fun u6 => (q_gR M l0 11 1 (fun c7 => q_nn c7 (fun r8 => (q_ob M r8 3 ((F_X3_ofDish r8 l1 (1 : Int32) M).bind (fun u9 => (if u6 < u9 then J_X11_cheapest_38_4 l0 l2 l2 M else J_X11_cheapest_38_4 l0 l1 l2 M))))))))))))) else some (.inr l1)))))))
set_option maxRecDepth 100000 in
set_option maxHeartbeats 4000000 in
theorem bW_X11_cheapest_4 {K : q_K} {Q : State → Prop} (C : q_C K yX11_cheapest cX11_cheapest 3 (Option.some Jvm.ClassFile.FieldType.int) 2 0 0) (l0 : Nat) (l1 : Int32) (l2 : Int32) (M : q_Mem) {stp : (Int32 × Int32) ⊕ (Int32)} (h : B_X11_cheapest_4 l0 l1 l2 M = some stp) (kC : ∀ (l1 : Int32) (l2 : Int32), stp = .inl (l1, l2) → q_W K 3 Q 0 0 M 4 [some (.ref l0), some (.int l1), some (.int l2)] []) (kE0 : ∀ (l1 : Int32), stp = .inr l1 → q_W K 3 Q 0 0 M 44 [none, some (.int l1), none] []) : q_W K 3 Q 0 0 M 4 [some (.ref l0), some (.int l1), some (.int l2)] [] := by
  unfold B_X11_cheapest_4 at h
  refine q_iload_n C dX11_cheapest_4 rfl ?_
  refine q_aload_n C dX11_cheapest_5 rfl ?_
  refine x_getR (ci := 11) (j := 1) C dX11_cheapest_6 lkF_X11_19 rfl h (fun c1 h => ?_)
  refine x_nn h (fun r2 h => ?_)
  refine x_getI (ci := 3) (j := 4) C dX11_cheapest_9 lkF_X11_349 rfl h (fun v3 h => ?_)
  refine q_icmp_ge (tgt := 44) C dX11_cheapest_12 (by decide) h (fun _ h => ?_) (fun _ h => ?_)
  · refine q_aload_n C dX11_cheapest_15 rfl ?_
    refine x_getR (ci := 11) (j := 1) C dX11_cheapest_16 lkF_X11_19 rfl h (fun c4 h => ?_)
    refine x_nn h (fun r5 h => ?_)
    refine q_iload_n C dX11_cheapest_19 rfl ?_
    refine x_iconst (v := (1 : Int32)) C dX11_cheapest_20 (by decide) ?_
    obtain ⟨hk, h⟩ := q_obE h
    obtain ⟨u6, e1, h⟩ := q_bind h
    refine x_callV0 C dX11_cheapest_21 lkM_X11_166 mV_X3_ofDish ⟨_, rfl, rfl⟩ hk (c_X3_ofDish _ _ _ _ _ _ e1) rfl rfl (Nat.le_of_ble_eq_true rfl) (by decide) (by decide) ?_
    refine q_aload_n C dX11_cheapest_24 rfl ?_
    refine x_getR (ci := 11) (j := 1) C dX11_cheapest_25 lkF_X11_19 rfl h (fun c7 h => ?_)
    refine x_nn h (fun r8 h => ?_)
    refine q_iload_n C dX11_cheapest_28 rfl ?_
    refine x_iconst (v := (1 : Int32)) C dX11_cheapest_29 (by decide) ?_
    obtain ⟨hk, h⟩ := q_obE h
    obtain ⟨u9, e1, h⟩ := q_bind h
    refine x_callV0 C dX11_cheapest_30 lkM_X11_166 mV_X3_ofDish ⟨_, rfl, rfl⟩ hk (c_X3_ofDish _ _ _ _ _ _ e1) rfl rfl (Nat.le_of_ble_eq_true rfl) (by decide) (by decide) ?_
    refine q_icmp_ge (tgt := 38) C dX11_cheapest_33 (by decide) h (fun _ h => ?_) (fun _ h => ?_)
    · refine q_iload_n C dX11_cheapest_36 rfl ?_
      refine q_istore_n (L' := [some (.ref l0), some (.int l2), some (.int l2)]) C dX11_cheapest_37 (by decide) rfl rfl ?_
      exact q_msk [true, true, true] (jW_X11_cheapest_38_4 C l0 l2 l2 M h kC kE0)
    · exact q_msk [true, true, true] (jW_X11_cheapest_38_4 C l0 l1 l2 M h kC kE0)
  · exact q_msk [false, true, false] (kE0 _ (Option.some.inj h).symm)
set_option maxRecDepth 100000 in
set_option maxHeartbeats 4000000 in
theorem lW_X11_cheapest_4 {K : q_K} {Q : State → Prop} (C : q_C K yX11_cheapest cX11_cheapest 3 (Option.some Jvm.ClassFile.FieldType.int) 2 0 0) (l0 : Nat) (M : q_Mem) (n : Nat) : ∀ (l1 : Int32) (l2 : Int32) (e : (Int32)), q_lp (fun s => B_X11_cheapest_4 l0 s.1 s.2 M) n (l1, l2) = some e → (∀ (l1 : Int32), e = l1 → q_W K 3 Q 0 0 M 44 [none, some (.int l1), none] []) → q_W K 3 Q 0 0 M 4 [some (.ref l0), some (.int l1), some (.int l2)] [] := by
  induction n with
  | zero => intro l1 l2 e h; cases h
  | succ n ih =>
    intro l1 l2 e h kE0
    obtain ⟨stp, e1, e2⟩ := q_bind h
    refine bW_X11_cheapest_4 C l0 l1 l2 M e1 (fun a0 a1 hs => ?_) (fun b0 hs => ?_)
    · subst hs; exact ih _ _ _ e2 kE0
    · subst hs; exact kE0 _ (Option.some.inj e2).symm
noncomputable def F_X11_cheapest (l0 : Nat) (M : q_Mem) : Option (Int32) := (q_lp (fun s => B_X11_cheapest_4 l0 s.1 s.2 M) q_fu ((0 : Int32), (1 : Int32))).bind (fun e10 => match e10 with | w11 => some w11)
set_option maxRecDepth 100000 in
set_option maxHeartbeats 4000000 in
theorem c_X11_cheapest (l : Launch) (G : q_G) (l0 : Nat) (M : q_Mem) {r : Int32} (h : F_X11_cheapest l0 M = some r) : q_Met l G yX11_cheapest cX11_cheapest 3 (Option.some Jvm.ClassFile.FieldType.int) 2 0 0 [.ref l0] M (some (.int r)) M := by
  unfold F_X11_cheapest at h
  refine q_enter [some (.ref l0), none, none] (by decide) (Nat.le_of_ble_eq_true rfl) rfl (fun K C => ?_)
  refine x_iconst (v := (0 : Int32)) C dX11_cheapest_0 (by decide) ?_
  refine q_istore_n (L' := [some (.ref l0), some (.int (0 : Int32)), none]) C dX11_cheapest_1 (by decide) rfl rfl ?_
  refine x_iconst (v := (1 : Int32)) C dX11_cheapest_2 (by decide) ?_
  refine q_istore_n (L' := [some (.ref l0), some (.int (0 : Int32)), some (.int (1 : Int32))]) C dX11_cheapest_3 (by decide) rfl rfl ?_
  obtain ⟨e10, he, h⟩ := q_bind h
  refine q_msk [true, true, true] (lW_X11_cheapest_4 C l0 M q_fu _ _ _ he (fun w11 hs => ?_))
  · have hs := hs.symm
    subst hs
    refine q_iload_n C dX11_cheapest_44 rfl ?_
    exact q_iret (res := (r, M)) C dX11_cheapest_45 rfl (by decide) (by decide) (congrArg (fun z => (z, M)) (Option.some.inj h))
noncomputable def J_X11_mostLiked_79_23 (l0 : Nat) (l1 : Int32) (l2 : Int32) (l3 : Int32) (l4 : Int32) (l5 : Int32) (M : q_Mem) : Option ((Int32 × Int32) ⊕ (Int32)) := some (.inl (l4, (l5 + (1 : Int32))))
set_option maxRecDepth 100000 in
set_option maxHeartbeats 4000000 in
theorem jW_X11_mostLiked_79_23 {K : q_K} {Q : State → Prop} (C : q_C K yX11_mostLiked cX11_mostLiked 6 (Option.some Jvm.ClassFile.FieldType.int) 3 0 0) (l0 : Nat) (l1 : Int32) (l2 : Int32) (l3 : Int32) (l4 : Int32) (l5 : Int32) (M : q_Mem) {stp : (Int32 × Int32) ⊕ (Int32)} (h : J_X11_mostLiked_79_23 l0 l1 l2 l3 l4 l5 M = some stp) (kC : ∀ (l4 : Int32) (l5 : Int32), stp = .inl (l4, l5) → q_W K 6 Q 0 0 M 23 [some (.ref l0), some (.int l1), some (.int l2), some (.int l3), some (.int l4), some (.int l5)] []) (kE0 : ∀ (l4 : Int32), stp = .inr l4 → q_W K 6 Q 0 0 M 85 [some (.ref l0), some (.int l1), some (.int l2), some (.int l3), some (.int l4), none] []) : q_W K 6 Q 0 0 M 79 [some (.ref l0), some (.int l1), some (.int l2), some (.int l3), some (.int l4), some (.int l5)] [] := by
  unfold J_X11_mostLiked_79_23 at h
  refine x_iinc (w := (1 : Int32)) (L' := [some (.ref l0), some (.int l1), some (.int l2), some (.int l3), some (.int l4), some (.int (l5 + (1 : Int32)))]) C dX11_mostLiked_79 rfl (by decide) (by decide) rfl rfl ?_
  refine q_goto (tgt := 23) C dX11_mostLiked_82 (by decide) ?_
  exact q_msk [true, true, true, true, true, true] (kC _ _ (Option.some.inj h).symm)
noncomputable def B_X11_mostLiked_23 (l0 : Nat) (l1 : Int32) (l2 : Int32) (l3 : Int32) (l4 : Int32) (l5 : Int32) (M : q_Mem) : Option ((Int32 × Int32) ⊕ (Int32)) := (q_gR M l0 11 1 (fun c4 => q_nn c4 (fun r5 => (q_gI M r5 3 5 (fun v6 => (if l5 < v6 then (q_gR M l0 11 9 (fun c7 => q_nn c7 (fun r8 => (q_gR M l0 11 6 (fun c9 => q_nn c9 (fun r10 => (q_ob M r8 1 ((F_X1_isThere r8 r10 l5 M).bind (fun u11 => (if u11 = 0 then J_X11_mostLiked_79_23 l0 l1 l2 l3 l4 l5 M else (q_gR M l0 11 6 (fun c12 => q_nn c12 (fun r13 => (q_gR M r13 8 0 (fun c14 => q_nn c14 (fun r15 => (q_lI M 0 r15 ((19 : Int32) + l5) (fun v16 => (q_gR M l0 11 1 (fun c17 => q_nn c17 (fun r18 => (q_ob M r18 3 ((F_X3_ofDish r18 l3 (2 : Int32) M).bind (fun u19 => (if v16 = u19 then J_X11_mostLiked_79_23 l0 l1 l2 l3 (l4 + (1 : Int32)) l5 M else J_X11_mostLiked_79_23 l0 l1 l2 l3 l4 l5 M))))))))))))))))))))))))) else some (.inr l4)))))))
set_option maxRecDepth 100000 in
set_option maxHeartbeats 4000000 in
theorem bW_X11_mostLiked_23 {K : q_K} {Q : State → Prop} (C : q_C K yX11_mostLiked cX11_mostLiked 6 (Option.some Jvm.ClassFile.FieldType.int) 3 0 0) (l0 : Nat) (l1 : Int32) (l2 : Int32) (l3 : Int32) (l4 : Int32) (l5 : Int32) (M : q_Mem) {stp : (Int32 × Int32) ⊕ (Int32)} (h : B_X11_mostLiked_23 l0 l1 l2 l3 l4 l5 M = some stp) (kC : ∀ (l4 : Int32) (l5 : Int32), stp = .inl (l4, l5) → q_W K 6 Q 0 0 M 23 [some (.ref l0), some (.int l1), some (.int l2), some (.int l3), some (.int l4), some (.int l5)] []) (kE0 : ∀ (l4 : Int32), stp = .inr l4 → q_W K 6 Q 0 0 M 85 [some (.ref l0), some (.int l1), some (.int l2), some (.int l3), some (.int l4), none] []) : q_W K 6 Q 0 0 M 23 [some (.ref l0), some (.int l1), some (.int l2), some (.int l3), some (.int l4), some (.int l5)] [] := by
  unfold B_X11_mostLiked_23 at h
  refine q_iload C dX11_mostLiked_23 rfl ?_
  refine q_aload_n C dX11_mostLiked_25 rfl ?_
  refine x_getR (ci := 11) (j := 1) C dX11_mostLiked_26 lkF_X11_19 rfl h (fun c4 h => ?_)
  refine x_nn h (fun r5 h => ?_)
  refine x_getI (ci := 3) (j := 5) C dX11_mostLiked_29 lkF_X11_336 rfl h (fun v6 h => ?_)
  refine q_icmp_ge (tgt := 85) C dX11_mostLiked_32 (by decide) h (fun _ h => ?_) (fun _ h => ?_)
  · refine q_aload_n C dX11_mostLiked_35 rfl ?_
    refine x_getR (ci := 11) (j := 9) C dX11_mostLiked_36 lkF_X11_69 rfl h (fun c7 h => ?_)
    refine x_nn h (fun r8 h => ?_)
    refine q_aload_n C dX11_mostLiked_39 rfl ?_
    refine x_getR (ci := 11) (j := 6) C dX11_mostLiked_40 lkF_X11_50 rfl h (fun c9 h => ?_)
    refine x_nn h (fun r10 h => ?_)
    refine q_iload C dX11_mostLiked_43 rfl ?_
    obtain ⟨hk, h⟩ := q_obE h
    obtain ⟨u11, e1, h⟩ := q_bind h
    refine x_callV0 C dX11_mostLiked_45 lkM_X11_268 mV_X1_isThere ⟨_, rfl, rfl⟩ hk (c_X1_isThere _ _ _ _ _ _ e1) rfl rfl (Nat.le_of_ble_eq_true rfl) (by decide) (by decide) ?_
    refine q_if_eq (tgt := 79) C dX11_mostLiked_48 (by decide) h (fun _ h => ?_) (fun _ h => ?_)
    · exact q_msk [true, true, true, true, true, true] (jW_X11_mostLiked_79_23 C l0 l1 l2 l3 l4 l5 M h kC kE0)
    · refine q_aload_n C dX11_mostLiked_51 rfl ?_
      refine x_getR (ci := 11) (j := 6) C dX11_mostLiked_52 lkF_X11_50 rfl h (fun c12 h => ?_)
      refine x_nn h (fun r13 h => ?_)
      refine x_getR (ci := 8) (j := 0) C dX11_mostLiked_55 lkF_X11_156 rfl h (fun c14 h => ?_)
      refine x_nn h (fun r15 h => ?_)
      refine x_bipush (v := (19 : Int32)) C dX11_mostLiked_58 (by decide) ?_
      refine q_iload C dX11_mostLiked_60 rfl ?_
      refine q_iadd C dX11_mostLiked_62 ?_
      refine x_iald C dX11_mostLiked_63 h (fun v16 h => ?_)
      refine q_aload_n C dX11_mostLiked_64 rfl ?_
      refine x_getR (ci := 11) (j := 1) C dX11_mostLiked_65 lkF_X11_19 rfl h (fun c17 h => ?_)
      refine x_nn h (fun r18 h => ?_)
      refine q_iload_n C dX11_mostLiked_68 rfl ?_
      refine x_iconst (v := (2 : Int32)) C dX11_mostLiked_69 (by decide) ?_
      obtain ⟨hk, h⟩ := q_obE h
      obtain ⟨u19, e1, h⟩ := q_bind h
      refine x_callV0 C dX11_mostLiked_70 lkM_X11_166 mV_X3_ofDish ⟨_, rfl, rfl⟩ hk (c_X3_ofDish _ _ _ _ _ _ e1) rfl rfl (Nat.le_of_ble_eq_true rfl) (by decide) (by decide) ?_
      refine q_icmp_ne (tgt := 79) C dX11_mostLiked_73 (by decide) h (fun _ h => ?_) (fun _ h => ?_)
      · refine x_iinc (w := (1 : Int32)) (L' := [some (.ref l0), some (.int l1), some (.int l2), some (.int l3), some (.int (l4 + (1 : Int32))), some (.int l5)]) C dX11_mostLiked_76 rfl (by decide) (by decide) rfl rfl ?_
        exact q_msk [true, true, true, true, true, true] (jW_X11_mostLiked_79_23 C l0 l1 l2 l3 (l4 + (1 : Int32)) l5 M h kC kE0)
      · exact q_msk [true, true, true, true, true, true] (jW_X11_mostLiked_79_23 C l0 l1 l2 l3 l4 l5 M h kC kE0)
  · exact q_msk [true, true, true, true, true, false] (kE0 _ (Option.some.inj h).symm)
set_option maxRecDepth 100000 in
set_option maxHeartbeats 4000000 in
theorem lW_X11_mostLiked_23 {K : q_K} {Q : State → Prop} (C : q_C K yX11_mostLiked cX11_mostLiked 6 (Option.some Jvm.ClassFile.FieldType.int) 3 0 0) (l0 : Nat) (l1 : Int32) (l2 : Int32) (l3 : Int32) (M : q_Mem) (n : Nat) : ∀ (l4 : Int32) (l5 : Int32) (e : (Int32)), q_lp (fun s => B_X11_mostLiked_23 l0 l1 l2 l3 s.1 s.2 M) n (l4, l5) = some e → (∀ (l4 : Int32), e = l4 → q_W K 6 Q 0 0 M 85 [some (.ref l0), some (.int l1), some (.int l2), some (.int l3), some (.int l4), none] []) → q_W K 6 Q 0 0 M 23 [some (.ref l0), some (.int l1), some (.int l2), some (.int l3), some (.int l4), some (.int l5)] [] := by
  induction n with
  | zero => intro l4 l5 e h; cases h
  | succ n ih =>
    intro l4 l5 e h kE0
    obtain ⟨stp, e1, e2⟩ := q_bind h
    refine bW_X11_mostLiked_23 C l0 l1 l2 l3 l4 l5 M e1 (fun a0 a1 hs => ?_) (fun b0 hs => ?_)
    · subst hs; exact ih _ _ _ e2 kE0
    · subst hs; exact kE0 _ (Option.some.inj e2).symm
noncomputable def J_X11_mostLiked_96_6 (l0 : Nat) (l1 : Int32) (l2 : Int32) (l3 : Int32) (M : q_Mem) : Option ((Int32 × Int32 × Int32) ⊕ (Int32)) := some (.inl (l1, l2, (l3 + (1 : Int32))))
set_option maxRecDepth 100000 in
set_option maxHeartbeats 4000000 in
theorem jW_X11_mostLiked_96_6 {K : q_K} {Q : State → Prop} (C : q_C K yX11_mostLiked cX11_mostLiked 6 (Option.some Jvm.ClassFile.FieldType.int) 3 0 0) (l0 : Nat) (l1 : Int32) (l2 : Int32) (l3 : Int32) (M : q_Mem) {stp : (Int32 × Int32 × Int32) ⊕ (Int32)} (h : J_X11_mostLiked_96_6 l0 l1 l2 l3 M = some stp) (kC : ∀ (l1 : Int32) (l2 : Int32) (l3 : Int32), stp = .inl (l1, l2, l3) → q_W K 6 Q 0 0 M 6 [some (.ref l0), some (.int l1), some (.int l2), some (.int l3), none, none] []) (kE0 : ∀ (l1 : Int32), stp = .inr l1 → q_W K 6 Q 0 0 M 102 [none, some (.int l1), none, none, none, none] []) : q_W K 6 Q 0 0 M 96 [some (.ref l0), some (.int l1), some (.int l2), some (.int l3), none, none] [] := by
  unfold J_X11_mostLiked_96_6 at h
  refine x_iinc (w := (1 : Int32)) (L' := [some (.ref l0), some (.int l1), some (.int l2), some (.int (l3 + (1 : Int32))), none, none]) C dX11_mostLiked_96 rfl (by decide) (by decide) rfl rfl ?_
  refine q_goto (tgt := 6) C dX11_mostLiked_99 (by decide) ?_
  exact q_msk [true, true, true, true, false, false] (kC _ _ _ (Option.some.inj h).symm)
noncomputable def B_X11_mostLiked_6 (l0 : Nat) (l1 : Int32) (l2 : Int32) (l3 : Int32) (M : q_Mem) : Option ((Int32 × Int32 × Int32) ⊕ (Int32)) := (q_gR M l0 11 1 (fun c1 => q_nn c1 (fun r2 => (q_gI M r2 3 4 (fun v3 => (if l3 < v3 then (q_lp (fun s => B_X11_mostLiked_23 l0 l1 l2 l3 s.1 s.2 M) q_fu ((0 : Int32), (0 : Int32))).bind (fun e20 => match e20 with | w21 => (if l2 < w21 then J_X11_mostLiked_96_6 l0 l3 w21 l3 M else J_X11_mostLiked_96_6 l0 l1 l2 l3 M)) else some (.inr l1)))))))
set_option maxRecDepth 100000 in
set_option maxHeartbeats 4000000 in
theorem bW_X11_mostLiked_6 {K : q_K} {Q : State → Prop} (C : q_C K yX11_mostLiked cX11_mostLiked 6 (Option.some Jvm.ClassFile.FieldType.int) 3 0 0) (l0 : Nat) (l1 : Int32) (l2 : Int32) (l3 : Int32) (M : q_Mem) {stp : (Int32 × Int32 × Int32) ⊕ (Int32)} (h : B_X11_mostLiked_6 l0 l1 l2 l3 M = some stp) (kC : ∀ (l1 : Int32) (l2 : Int32) (l3 : Int32), stp = .inl (l1, l2, l3) → q_W K 6 Q 0 0 M 6 [some (.ref l0), some (.int l1), some (.int l2), some (.int l3), none, none] []) (kE0 : ∀ (l1 : Int32), stp = .inr l1 → q_W K 6 Q 0 0 M 102 [none, some (.int l1), none, none, none, none] []) : q_W K 6 Q 0 0 M 6 [some (.ref l0), some (.int l1), some (.int l2), some (.int l3), none, none] [] := by
  unfold B_X11_mostLiked_6 at h
  refine q_iload_n C dX11_mostLiked_6 rfl ?_
  refine q_aload_n C dX11_mostLiked_7 rfl ?_
  refine x_getR (ci := 11) (j := 1) C dX11_mostLiked_8 lkF_X11_19 rfl h (fun c1 h => ?_)
  refine x_nn h (fun r2 h => ?_)
  refine x_getI (ci := 3) (j := 4) C dX11_mostLiked_11 lkF_X11_349 rfl h (fun v3 h => ?_)
  refine q_icmp_ge (tgt := 102) C dX11_mostLiked_14 (by decide) h (fun _ h => ?_) (fun _ h => ?_)
  · refine x_iconst (v := (0 : Int32)) C dX11_mostLiked_17 (by decide) ?_
    refine q_istore (L' := [some (.ref l0), some (.int l1), some (.int l2), some (.int l3), some (.int (0 : Int32)), none]) C dX11_mostLiked_18 (by decide) rfl rfl ?_
    refine x_iconst (v := (0 : Int32)) C dX11_mostLiked_20 (by decide) ?_
    refine q_istore (L' := [some (.ref l0), some (.int l1), some (.int l2), some (.int l3), some (.int (0 : Int32)), some (.int (0 : Int32))]) C dX11_mostLiked_21 (by decide) rfl rfl ?_
    obtain ⟨e20, he, h⟩ := q_bind h
    refine q_msk [true, true, true, true, true, true] (lW_X11_mostLiked_23 C l0 l1 l2 l3 M q_fu _ _ _ he (fun w21 hs => ?_))
    · have hs := hs.symm
      subst hs
      refine q_iload C dX11_mostLiked_85 rfl ?_
      refine q_iload_n C dX11_mostLiked_87 rfl ?_
      refine q_icmp_le (tgt := 96) C dX11_mostLiked_88 (by decide) h (fun _ h => ?_) (fun _ h => ?_)
      · refine q_iload C dX11_mostLiked_91 rfl ?_
        refine q_istore_n (L' := [some (.ref l0), some (.int l1), some (.int w21), some (.int l3), some (.int w21), none]) C dX11_mostLiked_93 (by decide) rfl rfl ?_
        refine q_iload_n C dX11_mostLiked_94 rfl ?_
        refine q_istore_n (L' := [some (.ref l0), some (.int l3), some (.int w21), some (.int l3), some (.int w21), none]) C dX11_mostLiked_95 (by decide) rfl rfl ?_
        exact q_msk [true, true, true, true, false, false] (jW_X11_mostLiked_96_6 C l0 l3 w21 l3 M h kC kE0)
      · exact q_msk [true, true, true, true, false, false] (jW_X11_mostLiked_96_6 C l0 l1 l2 l3 M h kC kE0)
  · exact q_msk [false, true, false, false, false, false] (kE0 _ (Option.some.inj h).symm)
set_option maxRecDepth 100000 in
set_option maxHeartbeats 4000000 in
theorem lW_X11_mostLiked_6 {K : q_K} {Q : State → Prop} (C : q_C K yX11_mostLiked cX11_mostLiked 6 (Option.some Jvm.ClassFile.FieldType.int) 3 0 0) (l0 : Nat) (M : q_Mem) (n : Nat) : ∀ (l1 : Int32) (l2 : Int32) (l3 : Int32) (e : (Int32)), q_lp (fun s => B_X11_mostLiked_6 l0 s.1 s.2.1 s.2.2 M) n (l1, l2, l3) = some e → (∀ (l1 : Int32), e = l1 → q_W K 6 Q 0 0 M 102 [none, some (.int l1), none, none, none, none] []) → q_W K 6 Q 0 0 M 6 [some (.ref l0), some (.int l1), some (.int l2), some (.int l3), none, none] [] := by
  induction n with
  | zero => intro l1 l2 l3 e h; cases h
  | succ n ih =>
    intro l1 l2 l3 e h kE0
    obtain ⟨stp, e1, e2⟩ := q_bind h
    refine bW_X11_mostLiked_6 C l0 l1 l2 l3 M e1 (fun a0 a1 a2 hs => ?_) (fun b0 hs => ?_)
    · subst hs; exact ih _ _ _ _ e2 kE0
    · subst hs; exact kE0 _ (Option.some.inj e2).symm
noncomputable def F_X11_mostLiked (l0 : Nat) (M : q_Mem) : Option (Int32) := (q_lp (fun s => B_X11_mostLiked_6 l0 s.1 s.2.1 s.2.2 M) q_fu ((0 : Int32), (-1 : Int32), (0 : Int32))).bind (fun e22 => match e22 with | w23 => some w23)
set_option maxRecDepth 100000 in
set_option maxHeartbeats 4000000 in
theorem c_X11_mostLiked (l : Launch) (G : q_G) (l0 : Nat) (M : q_Mem) {r : Int32} (h : F_X11_mostLiked l0 M = some r) : q_Met l G yX11_mostLiked cX11_mostLiked 6 (Option.some Jvm.ClassFile.FieldType.int) 3 0 0 [.ref l0] M (some (.int r)) M := by
  unfold F_X11_mostLiked at h
  refine q_enter [some (.ref l0), none, none, none, none, none] (by decide) (Nat.le_of_ble_eq_true rfl) rfl (fun K C => ?_)
  refine x_iconst (v := (0 : Int32)) C dX11_mostLiked_0 (by decide) ?_
  refine q_istore_n (L' := [some (.ref l0), some (.int (0 : Int32)), none, none, none, none]) C dX11_mostLiked_1 (by decide) rfl rfl ?_
  refine x_iconst (v := (-1 : Int32)) C dX11_mostLiked_2 (by decide) ?_
  refine q_istore_n (L' := [some (.ref l0), some (.int (0 : Int32)), some (.int (-1 : Int32)), none, none, none]) C dX11_mostLiked_3 (by decide) rfl rfl ?_
  refine x_iconst (v := (0 : Int32)) C dX11_mostLiked_4 (by decide) ?_
  refine q_istore_n (L' := [some (.ref l0), some (.int (0 : Int32)), some (.int (-1 : Int32)), some (.int (0 : Int32)), none, none]) C dX11_mostLiked_5 (by decide) rfl rfl ?_
  obtain ⟨e22, he, h⟩ := q_bind h
  refine q_msk [true, true, true, true, false, false] (lW_X11_mostLiked_6 C l0 M q_fu _ _ _ _ he (fun w23 hs => ?_))
  · have hs := hs.symm
    subst hs
    refine q_iload_n C dX11_mostLiked_102 rfl ?_
    exact q_iret (res := (r, M)) C dX11_mostLiked_103 rfl (by decide) (by decide) (congrArg (fun z => (z, M)) (Option.some.inj h))
noncomputable def J_X11_lastDay_55_4 (l0 : Nat) (l1 : Int32) (l2 : Int32) (M : q_Mem) : Option ((Int32 × Int32) ⊕ (Int32)) := some (.inl (l1, (l2 + (1 : Int32))))
set_option maxRecDepth 100000 in
set_option maxHeartbeats 4000000 in
theorem jW_X11_lastDay_55_4 {K : q_K} {Q : State → Prop} (C : q_C K yX11_lastDay cX11_lastDay 3 (Option.some Jvm.ClassFile.FieldType.int) 2 0 0) (l0 : Nat) (l1 : Int32) (l2 : Int32) (M : q_Mem) {stp : (Int32 × Int32) ⊕ (Int32)} (h : J_X11_lastDay_55_4 l0 l1 l2 M = some stp) (kC : ∀ (l1 : Int32) (l2 : Int32), stp = .inl (l1, l2) → q_W K 3 Q 0 0 M 4 [some (.ref l0), some (.int l1), some (.int l2)] []) (kE0 : ∀ (l1 : Int32), stp = .inr l1 → q_W K 3 Q 0 0 M 61 [none, some (.int l1), none] []) : q_W K 3 Q 0 0 M 55 [some (.ref l0), some (.int l1), some (.int l2)] [] := by
  unfold J_X11_lastDay_55_4 at h
  refine x_iinc (w := (1 : Int32)) (L' := [some (.ref l0), some (.int l1), some (.int (l2 + (1 : Int32)))]) C dX11_lastDay_55 rfl (by decide) (by decide) rfl rfl ?_
  refine q_goto (tgt := 4) C dX11_lastDay_58 (by decide) ?_
  exact q_msk [true, true, true] (kC _ _ (Option.some.inj h).symm)
noncomputable def B_X11_lastDay_4 (l0 : Nat) (l1 : Int32) (l2 : Int32) (M : q_Mem) : Option ((Int32 × Int32) ⊕ (Int32)) := (q_gR M l0 11 1 (fun c1 => q_nn c1 (fun r2 => (q_gI M r2 3 5 (fun v3 => (if l2 < v3 then (q_gR M l0 11 6 (fun c4 => q_nn c4 (fun r5 => (q_ob M r5 8 ((F_X8_hasLeft r5 l2 M).bind (fun u6 => (if u6 = 0 then (q_gR M l0 11 1 (fun c7 => q_nn c7 (fun r8 => (q_ob M r8 3 ((F_X3_ofGuest r8 l2 (0 : Int32) M).bind (fun u9 => (q_gR M l0 11 6 (fun c10 => q_nn c10 (fun r11 => (q_gR M r11 8 0 (fun c12 => q_nn c12 (fun r13 => (q_lI M 0 r13 ((13 : Int32) + l2) (fun v14 => J_X11_lastDay_55_4 l0 (q_mx l1 ((u9 + v14) - (1 : Int32))) l2 M)))))))))))))) else J_X11_lastDay_55_4 l0 l1 l2 M))))))) else some (.inr l1)))))))
set_option maxRecDepth 100000 in
set_option maxHeartbeats 4000000 in
theorem bW_X11_lastDay_4 {K : q_K} {Q : State → Prop} (C : q_C K yX11_lastDay cX11_lastDay 3 (Option.some Jvm.ClassFile.FieldType.int) 2 0 0) (l0 : Nat) (l1 : Int32) (l2 : Int32) (M : q_Mem) {stp : (Int32 × Int32) ⊕ (Int32)} (h : B_X11_lastDay_4 l0 l1 l2 M = some stp) (kC : ∀ (l1 : Int32) (l2 : Int32), stp = .inl (l1, l2) → q_W K 3 Q 0 0 M 4 [some (.ref l0), some (.int l1), some (.int l2)] []) (kE0 : ∀ (l1 : Int32), stp = .inr l1 → q_W K 3 Q 0 0 M 61 [none, some (.int l1), none] []) : q_W K 3 Q 0 0 M 4 [some (.ref l0), some (.int l1), some (.int l2)] [] := by
  unfold B_X11_lastDay_4 at h
  refine q_iload_n C dX11_lastDay_4 rfl ?_
  refine q_aload_n C dX11_lastDay_5 rfl ?_
  refine x_getR (ci := 11) (j := 1) C dX11_lastDay_6 lkF_X11_19 rfl h (fun c1 h => ?_)
  refine x_nn h (fun r2 h => ?_)
  refine x_getI (ci := 3) (j := 5) C dX11_lastDay_9 lkF_X11_336 rfl h (fun v3 h => ?_)
  refine q_icmp_ge (tgt := 61) C dX11_lastDay_12 (by decide) h (fun _ h => ?_) (fun _ h => ?_)
  · refine q_aload_n C dX11_lastDay_15 rfl ?_
    refine x_getR (ci := 11) (j := 6) C dX11_lastDay_16 lkF_X11_50 rfl h (fun c4 h => ?_)
    refine x_nn h (fun r5 h => ?_)
    refine q_iload_n C dX11_lastDay_19 rfl ?_
    obtain ⟨hk, h⟩ := q_obE h
    obtain ⟨u6, e1, h⟩ := q_bind h
    refine x_callV0 C dX11_lastDay_20 lkM_X11_183 mV_X8_hasLeft ⟨_, rfl, rfl⟩ hk (c_X8_hasLeft _ _ _ _ _ e1) rfl rfl (Nat.le_of_ble_eq_true rfl) (by decide) (by decide) ?_
    refine q_if_ne (tgt := 55) C dX11_lastDay_23 (by decide) h (fun _ h => ?_) (fun _ h => ?_)
    · refine q_iload_n C dX11_lastDay_26 rfl ?_
      refine q_aload_n C dX11_lastDay_27 rfl ?_
      refine x_getR (ci := 11) (j := 1) C dX11_lastDay_28 lkF_X11_19 rfl h (fun c7 h => ?_)
      refine x_nn h (fun r8 h => ?_)
      refine q_iload_n C dX11_lastDay_31 rfl ?_
      refine x_iconst (v := (0 : Int32)) C dX11_lastDay_32 (by decide) ?_
      obtain ⟨hk, h⟩ := q_obE h
      obtain ⟨u9, e1, h⟩ := q_bind h
      refine x_callV0 C dX11_lastDay_33 lkM_X11_180 mV_X3_ofGuest ⟨_, rfl, rfl⟩ hk (c_X3_ofGuest _ _ _ _ _ _ e1) rfl rfl (Nat.le_of_ble_eq_true rfl) (by decide) (by decide) ?_
      refine q_aload_n C dX11_lastDay_36 rfl ?_
      refine x_getR (ci := 11) (j := 6) C dX11_lastDay_37 lkF_X11_50 rfl h (fun c10 h => ?_)
      refine x_nn h (fun r11 h => ?_)
      refine x_getR (ci := 8) (j := 0) C dX11_lastDay_40 lkF_X11_156 rfl h (fun c12 h => ?_)
      refine x_nn h (fun r13 h => ?_)
      refine x_bipush (v := (13 : Int32)) C dX11_lastDay_43 (by decide) ?_
      refine q_iload_n C dX11_lastDay_45 rfl ?_
      refine q_iadd C dX11_lastDay_46 ?_
      refine x_iald C dX11_lastDay_47 h (fun v14 h => ?_)
      refine q_iadd C dX11_lastDay_48 ?_
      refine x_iconst (v := (1 : Int32)) C dX11_lastDay_49 (by decide) ?_
      refine q_isub C dX11_lastDay_50 ?_
      refine q_max C dX11_lastDay_51 wd_1074 wd_470 wd_15 wd_471 (by decide) (Nat.le_of_ble_eq_true rfl) (by decide) ?_
      refine q_istore_n (L' := [some (.ref l0), some (.int (q_mx l1 ((u9 + v14) - (1 : Int32)))), some (.int l2)]) C dX11_lastDay_54 (by decide) rfl rfl ?_
      exact q_msk [true, true, true] (jW_X11_lastDay_55_4 C l0 (q_mx l1 ((u9 + v14) - (1 : Int32))) l2 M h kC kE0)
    · exact q_msk [true, true, true] (jW_X11_lastDay_55_4 C l0 l1 l2 M h kC kE0)
  · exact q_msk [false, true, false] (kE0 _ (Option.some.inj h).symm)
set_option maxRecDepth 100000 in
set_option maxHeartbeats 4000000 in
theorem lW_X11_lastDay_4 {K : q_K} {Q : State → Prop} (C : q_C K yX11_lastDay cX11_lastDay 3 (Option.some Jvm.ClassFile.FieldType.int) 2 0 0) (l0 : Nat) (M : q_Mem) (n : Nat) : ∀ (l1 : Int32) (l2 : Int32) (e : (Int32)), q_lp (fun s => B_X11_lastDay_4 l0 s.1 s.2 M) n (l1, l2) = some e → (∀ (l1 : Int32), e = l1 → q_W K 3 Q 0 0 M 61 [none, some (.int l1), none] []) → q_W K 3 Q 0 0 M 4 [some (.ref l0), some (.int l1), some (.int l2)] [] := by
  induction n with
  | zero => intro l1 l2 e h; cases h
  | succ n ih =>
    intro l1 l2 e h kE0
    obtain ⟨stp, e1, e2⟩ := q_bind h
    refine bW_X11_lastDay_4 C l0 l1 l2 M e1 (fun a0 a1 hs => ?_) (fun b0 hs => ?_)
    · subst hs; exact ih _ _ _ e2 kE0
    · subst hs; exact kE0 _ (Option.some.inj e2).symm
noncomputable def F_X11_lastDay (l0 : Nat) (M : q_Mem) : Option (Int32) := (q_lp (fun s => B_X11_lastDay_4 l0 s.1 s.2 M) q_fu ((-1 : Int32), (0 : Int32))).bind (fun e15 => match e15 with | w16 => some w16)
set_option maxRecDepth 100000 in
set_option maxHeartbeats 4000000 in
theorem c_X11_lastDay (l : Launch) (G : q_G) (l0 : Nat) (M : q_Mem) {r : Int32} (h : F_X11_lastDay l0 M = some r) : q_Met l G yX11_lastDay cX11_lastDay 3 (Option.some Jvm.ClassFile.FieldType.int) 2 0 0 [.ref l0] M (some (.int r)) M := by
  unfold F_X11_lastDay at h
  refine q_enter [some (.ref l0), none, none] (by decide) (Nat.le_of_ble_eq_true rfl) rfl (fun K C => ?_)
  refine x_iconst (v := (-1 : Int32)) C dX11_lastDay_0 (by decide) ?_
  refine q_istore_n (L' := [some (.ref l0), some (.int (-1 : Int32)), none]) C dX11_lastDay_1 (by decide) rfl rfl ?_
  refine x_iconst (v := (0 : Int32)) C dX11_lastDay_2 (by decide) ?_
  refine q_istore_n (L' := [some (.ref l0), some (.int (-1 : Int32)), some (.int (0 : Int32))]) C dX11_lastDay_3 (by decide) rfl rfl ?_
  obtain ⟨e15, he, h⟩ := q_bind h
  refine q_msk [true, true, true] (lW_X11_lastDay_4 C l0 M q_fu _ _ _ he (fun w16 hs => ?_))
  · have hs := hs.symm
    subst hs
    refine q_iload_n C dX11_lastDay_61 rfl ?_
    exact q_iret (res := (r, M)) C dX11_lastDay_62 rfl (by decide) (by decide) (congrArg (fun z => (z, M)) (Option.some.inj h))
noncomputable def J_X11_takings_42_4 (l0 : Nat) (l1 : Int32) (l2 : Int32) (M : q_Mem) : Option ((Int32 × Int32) ⊕ (Int32)) := some (.inl (l1, (l2 + (1 : Int32))))
set_option maxRecDepth 100000 in
set_option maxHeartbeats 4000000 in
theorem jW_X11_takings_42_4 {K : q_K} {Q : State → Prop} (C : q_C K yX11_takings cX11_takings 3 (Option.some Jvm.ClassFile.FieldType.int) 3 0 0) (l0 : Nat) (l1 : Int32) (l2 : Int32) (M : q_Mem) {stp : (Int32 × Int32) ⊕ (Int32)} (h : J_X11_takings_42_4 l0 l1 l2 M = some stp) (kC : ∀ (l1 : Int32) (l2 : Int32), stp = .inl (l1, l2) → q_W K 3 Q 0 0 M 4 [some (.ref l0), some (.int l1), some (.int l2)] []) (kE0 : ∀ (l1 : Int32), stp = .inr l1 → q_W K 3 Q 0 0 M 48 [none, some (.int l1), none] []) : q_W K 3 Q 0 0 M 42 [some (.ref l0), some (.int l1), some (.int l2)] [] := by
  unfold J_X11_takings_42_4 at h
  refine x_iinc (w := (1 : Int32)) (L' := [some (.ref l0), some (.int l1), some (.int (l2 + (1 : Int32)))]) C dX11_takings_42 rfl (by decide) (by decide) rfl rfl ?_
  refine q_goto (tgt := 4) C dX11_takings_45 (by decide) ?_
  exact q_msk [true, true, true] (kC _ _ (Option.some.inj h).symm)
noncomputable def B_X11_takings_4 (l0 : Nat) (l1 : Int32) (l2 : Int32) (M : q_Mem) : Option ((Int32 × Int32) ⊕ (Int32)) := (q_gR M l0 11 1 (fun c1 => q_nn c1 (fun r2 => (q_gI M r2 3 5 (fun v3 => (if l2 < v3 then (q_gR M l0 11 9 (fun c4 => q_nn c4 (fun r5 => (q_gR M l0 11 6 (fun c6 => q_nn c6 (fun r7 => (q_ob M r5 1 ((F_X1_isThere r5 r7 l2 M).bind (fun u8 => (if u8 = 0 then J_X11_takings_42_4 l0 l1 l2 M else (q_gR M l0 11 1 (fun c9 => q_nn c9 (fun r10 => (q_ob M r10 3 ((F_X3_ofGuest r10 l2 (3 : Int32) M).bind (fun u11 => J_X11_takings_42_4 l0 (l1 + u11) l2 M)))))))))))))))) else some (.inr l1)))))))
set_option maxRecDepth 100000 in
set_option maxHeartbeats 4000000 in
theorem bW_X11_takings_4 {K : q_K} {Q : State → Prop} (C : q_C K yX11_takings cX11_takings 3 (Option.some Jvm.ClassFile.FieldType.int) 3 0 0) (l0 : Nat) (l1 : Int32) (l2 : Int32) (M : q_Mem) {stp : (Int32 × Int32) ⊕ (Int32)} (h : B_X11_takings_4 l0 l1 l2 M = some stp) (kC : ∀ (l1 : Int32) (l2 : Int32), stp = .inl (l1, l2) → q_W K 3 Q 0 0 M 4 [some (.ref l0), some (.int l1), some (.int l2)] []) (kE0 : ∀ (l1 : Int32), stp = .inr l1 → q_W K 3 Q 0 0 M 48 [none, some (.int l1), none] []) : q_W K 3 Q 0 0 M 4 [some (.ref l0), some (.int l1), some (.int l2)] [] := by
  unfold B_X11_takings_4 at h
  refine q_iload_n C dX11_takings_4 rfl ?_
  refine q_aload_n C dX11_takings_5 rfl ?_
  refine x_getR (ci := 11) (j := 1) C dX11_takings_6 lkF_X11_19 rfl h (fun c1 h => ?_)
  refine x_nn h (fun r2 h => ?_)
  refine x_getI (ci := 3) (j := 5) C dX11_takings_9 lkF_X11_336 rfl h (fun v3 h => ?_)
  refine q_icmp_ge (tgt := 48) C dX11_takings_12 (by decide) h (fun _ h => ?_) (fun _ h => ?_)
  · refine q_aload_n C dX11_takings_15 rfl ?_
    refine x_getR (ci := 11) (j := 9) C dX11_takings_16 lkF_X11_69 rfl h (fun c4 h => ?_)
    refine x_nn h (fun r5 h => ?_)
    refine q_aload_n C dX11_takings_19 rfl ?_
    refine x_getR (ci := 11) (j := 6) C dX11_takings_20 lkF_X11_50 rfl h (fun c6 h => ?_)
    refine x_nn h (fun r7 h => ?_)
    refine q_iload_n C dX11_takings_23 rfl ?_
    obtain ⟨hk, h⟩ := q_obE h
    obtain ⟨u8, e1, h⟩ := q_bind h
    refine x_callV0 C dX11_takings_24 lkM_X11_268 mV_X1_isThere ⟨_, rfl, rfl⟩ hk (c_X1_isThere _ _ _ _ _ _ e1) rfl rfl (Nat.le_of_ble_eq_true rfl) (by decide) (by decide) ?_
    refine q_if_eq (tgt := 42) C dX11_takings_27 (by decide) h (fun _ h => ?_) (fun _ h => ?_)
    · exact q_msk [true, true, true] (jW_X11_takings_42_4 C l0 l1 l2 M h kC kE0)
    · refine q_iload_n C dX11_takings_30 rfl ?_
      refine q_aload_n C dX11_takings_31 rfl ?_
      refine x_getR (ci := 11) (j := 1) C dX11_takings_32 lkF_X11_19 rfl h (fun c9 h => ?_)
      refine x_nn h (fun r10 h => ?_)
      refine q_iload_n C dX11_takings_35 rfl ?_
      refine x_iconst (v := (3 : Int32)) C dX11_takings_36 (by decide) ?_
      obtain ⟨hk, h⟩ := q_obE h
      obtain ⟨u11, e1, h⟩ := q_bind h
      refine x_callV0 C dX11_takings_37 lkM_X11_180 mV_X3_ofGuest ⟨_, rfl, rfl⟩ hk (c_X3_ofGuest _ _ _ _ _ _ e1) rfl rfl (Nat.le_of_ble_eq_true rfl) (by decide) (by decide) ?_
      refine q_iadd C dX11_takings_40 ?_
      refine q_istore_n (L' := [some (.ref l0), some (.int (l1 + u11)), some (.int l2)]) C dX11_takings_41 (by decide) rfl rfl ?_
      exact q_msk [true, true, true] (jW_X11_takings_42_4 C l0 (l1 + u11) l2 M h kC kE0)
  · exact q_msk [false, true, false] (kE0 _ (Option.some.inj h).symm)
set_option maxRecDepth 100000 in
set_option maxHeartbeats 4000000 in
theorem lW_X11_takings_4 {K : q_K} {Q : State → Prop} (C : q_C K yX11_takings cX11_takings 3 (Option.some Jvm.ClassFile.FieldType.int) 3 0 0) (l0 : Nat) (M : q_Mem) (n : Nat) : ∀ (l1 : Int32) (l2 : Int32) (e : (Int32)), q_lp (fun s => B_X11_takings_4 l0 s.1 s.2 M) n (l1, l2) = some e → (∀ (l1 : Int32), e = l1 → q_W K 3 Q 0 0 M 48 [none, some (.int l1), none] []) → q_W K 3 Q 0 0 M 4 [some (.ref l0), some (.int l1), some (.int l2)] [] := by
  induction n with
  | zero => intro l1 l2 e h; cases h
  | succ n ih =>
    intro l1 l2 e h kE0
    obtain ⟨stp, e1, e2⟩ := q_bind h
    refine bW_X11_takings_4 C l0 l1 l2 M e1 (fun a0 a1 hs => ?_) (fun b0 hs => ?_)
    · subst hs; exact ih _ _ _ e2 kE0
    · subst hs; exact kE0 _ (Option.some.inj e2).symm
noncomputable def F_X11_takings (l0 : Nat) (M : q_Mem) : Option (Int32) := (q_lp (fun s => B_X11_takings_4 l0 s.1 s.2 M) q_fu ((0 : Int32), (0 : Int32))).bind (fun e12 => match e12 with | w13 => some w13)
set_option maxRecDepth 100000 in
set_option maxHeartbeats 4000000 in
theorem c_X11_takings (l : Launch) (G : q_G) (l0 : Nat) (M : q_Mem) {r : Int32} (h : F_X11_takings l0 M = some r) : q_Met l G yX11_takings cX11_takings 3 (Option.some Jvm.ClassFile.FieldType.int) 3 0 0 [.ref l0] M (some (.int r)) M := by
  unfold F_X11_takings at h
  refine q_enter [some (.ref l0), none, none] (by decide) (Nat.le_of_ble_eq_true rfl) rfl (fun K C => ?_)
  refine x_iconst (v := (0 : Int32)) C dX11_takings_0 (by decide) ?_
  refine q_istore_n (L' := [some (.ref l0), some (.int (0 : Int32)), none]) C dX11_takings_1 (by decide) rfl rfl ?_
  refine x_iconst (v := (0 : Int32)) C dX11_takings_2 (by decide) ?_
  refine q_istore_n (L' := [some (.ref l0), some (.int (0 : Int32)), some (.int (0 : Int32))]) C dX11_takings_3 (by decide) rfl rfl ?_
  obtain ⟨e12, he, h⟩ := q_bind h
  refine q_msk [true, true, true] (lW_X11_takings_4 C l0 M q_fu _ _ _ he (fun w13 hs => ?_))
  · have hs := hs.symm
    subst hs
    refine q_iload_n C dX11_takings_48 rfl ?_
    exact q_iret (res := (r, M)) C dX11_takings_49 rfl (by decide) (by decide) (congrArg (fun z => (z, M)) (Option.some.inj h))
noncomputable def F_X11_all (l0 : Nat) (l1 : Int32) (M : q_Mem) : Option (Int32 × q_Mem) := (q_gI M l0 11 18 (fun v1 => (if v1 = 0 then some ((-1 : Int32), M) else (q_gR M l0 11 9 (fun c2 => q_nn c2 (fun r3 => (q_gR M l0 11 6 (fun c4 => q_nn c4 (fun r5 => (q_ob M r3 1 ((F_X1_lay r3 r5 M).bind (fun x => match x with | (_, M7) => (if l1 = (0 : Int32) then (q_gR M7 l0 11 6 (fun c8 => q_nn c8 (fun r9 => (q_gR M7 r9 8 0 (fun c10 => q_nn c10 (fun r11 => (q_gR M7 l0 11 1 (fun c12 => q_nn c12 (fun r13 => (q_gI M7 r13 3 5 (fun v14 => ((F_X11_firstMost r11 (25 : Int32) (1 : Int32) v14 M7).bind (fun u15 => some (u15, M7)))))))))))))) else (if l1 = (1 : Int32) then (q_gR M7 l0 11 6 (fun c16 => q_nn c16 (fun r17 => (q_gR M7 r17 8 0 (fun c18 => q_nn c18 (fun r19 => (q_gR M7 l0 11 1 (fun c20 => q_nn c20 (fun r21 => (q_gI M7 r21 3 5 (fun v22 => ((F_X11_firstMost r19 (13 : Int32) (1 : Int32) v22 M7).bind (fun u23 => some (u23, M7)))))))))))))) else (if l1 = (2 : Int32) then (q_gR M7 l0 11 1 (fun c24 => q_nn c24 (fun r25 => (q_gR M7 r25 3 2 (fun c26 => q_nn c26 (fun r27 => (q_gR M7 l0 11 1 (fun c28 => q_nn c28 (fun r29 => (q_gI M7 r29 3 5 (fun v30 => ((F_X11_firstMost r27 (3 : Int32) (4 : Int32) v30 M7).bind (fun u31 => some (u31, M7)))))))))))))) else (if l1 = (3 : Int32) then (q_gR M7 l0 11 1 (fun c32 => q_nn c32 (fun r33 => (q_gR M7 r33 3 1 (fun c34 => q_nn c34 (fun r35 => (q_gR M7 l0 11 1 (fun c36 => q_nn c36 (fun r37 => (q_gI M7 r37 3 4 (fun v38 => ((F_X11_firstMost r35 (0 : Int32) (3 : Int32) v38 M7).bind (fun u39 => some (u39, M7)))))))))))))) else (if l1 = (4 : Int32) then (q_ob M7 l0 11 ((F_X11_cheapest l0 M7).bind (fun u40 => some (u40, M7)))) else (if l1 = (5 : Int32) then (q_ob M7 l0 11 ((F_X11_mostLiked l0 M7).bind (fun u41 => some (u41, M7)))) else (if l1 = (6 : Int32) then (q_gR M7 l0 11 9 (fun c42 => q_nn c42 (fun r43 => (q_gI M7 r43 1 11 (fun v44 => some (v44, M7)))))) else (if l1 = (7 : Int32) then (q_ob M7 l0 11 ((F_X11_lastDay l0 M7).bind (fun u45 => some (u45, M7)))) else (if l1 = (8 : Int32) then (q_ob M7 l0 11 ((F_X11_takings l0 M7).bind (fun u46 => some (u46, M7)))) else (if l1 = (9 : Int32) then (q_gR M7 l0 11 9 (fun c47 => q_nn c47 (fun r48 => (q_gI M7 r48 1 5 (fun v49 => some (v49, M7)))))) else (if l1 = (10 : Int32) then (q_gR M7 l0 11 9 (fun c50 => q_nn c50 (fun r51 => (q_gI M7 r51 1 4 (fun v52 => (q_gR M7 l0 11 9 (fun c53 => q_nn c53 (fun r54 => (q_gI M7 r54 1 10 (fun v55 => some ((v52 &&& (v55 ^^^ (-1 : Int32))), M7))))))))))) else (if l1 = (11 : Int32) then (q_gR M7 l0 11 11 (fun c56 => q_nn c56 (fun r57 => (q_gR M7 l0 11 6 (fun c58 => q_nn c58 (fun r59 => (q_ob M7 r57 2 ((F_X2_daysToNothing r57 r59 M7).bind (fun x => match x with | (u60, M61) => some (u60, M61)))))))))) else (if l1 = (12 : Int32) then (q_gR M7 l0 11 11 (fun c62 => q_nn c62 (fun r63 => (q_gR M7 l0 11 6 (fun c64 => q_nn c64 (fun r65 => (q_ob M7 r63 2 ((F_X2_fullestDay r63 r65 M7).bind (fun x => match x with | (u66, M67) => some (u66, M67)))))))))) else some ((-1 : Int32), M7))))))))))))))))))))))))))
set_option maxRecDepth 100000 in
set_option maxHeartbeats 4000000 in
theorem c_X11_all (l : Launch) (G : q_G) (l0 : Nat) (l1 : Int32) (M : q_Mem) {r : Int32} {M' : q_Mem} (h : F_X11_all l0 l1 M = some (r, M')) : q_Met l G yX11_all cX11_all 2 (Option.some Jvm.ClassFile.FieldType.int) 7 0 0 [.ref l0, .int l1] M (some (.int r)) M' := by
  unfold F_X11_all at h
  refine q_enter [some (.ref l0), some (.int l1)] (by decide) (Nat.le_of_ble_eq_true rfl) rfl (fun K C => ?_)
  refine q_aload_n C dX11_all_0 rfl ?_
  refine x_getI (ci := 11) (j := 18) C dX11_all_1 lkF_X11_116 rfl h (fun v1 h => ?_)
  refine q_if_ne (tgt := 9) C dX11_all_4 (by decide) h (fun _ h => ?_) (fun _ h => ?_)
  · refine x_iconst (v := (-1 : Int32)) C dX11_all_7 (by decide) ?_
    exact q_iret C dX11_all_8 rfl (by decide) (by decide) (Option.some.inj h)
  · refine q_aload_n C dX11_all_9 rfl ?_
    refine x_getR (ci := 11) (j := 9) C dX11_all_10 lkF_X11_69 rfl h (fun c2 h => ?_)
    refine x_nn h (fun r3 h => ?_)
    refine q_aload_n C dX11_all_13 rfl ?_
    refine x_getR (ci := 11) (j := 6) C dX11_all_14 lkF_X11_50 rfl h (fun c4 h => ?_)
    refine x_nn h (fun r5 h => ?_)
    obtain ⟨hk, h⟩ := q_obE h
    obtain ⟨⟨_, M7⟩, e1, h⟩ := q_bind h
    refine x_callVv0 C dX11_all_17 lkM_X11_272 mV_X1_lay ⟨_, rfl, rfl⟩ hk (c_X1_lay _ _ _ _ _ e1) rfl rfl (Nat.le_of_ble_eq_true rfl) (by decide) (by decide) ?_
    refine q_iload_n C dX11_all_20 rfl ?_
    by_cases hs21_0 : l1 = (0 : Int32)
    · rw [if_pos hs21_0] at h
      refine q_tsIn (tgt := 88) C dX11_all_21 hs21_0 (by decide) (by decide) rfl (by decide) ?_
      refine q_aload_n C dX11_all_88 rfl ?_
      refine x_getR (ci := 11) (j := 6) C dX11_all_89 lkF_X11_50 rfl h (fun c8 h => ?_)
      refine x_nn h (fun r9 h => ?_)
      refine x_getR (ci := 8) (j := 0) C dX11_all_92 lkF_X11_156 rfl h (fun c10 h => ?_)
      refine x_nn h (fun r11 h => ?_)
      refine x_bipush (v := (25 : Int32)) C dX11_all_95 (by decide) ?_
      refine x_iconst (v := (1 : Int32)) C dX11_all_97 (by decide) ?_
      refine q_aload_n C dX11_all_98 rfl ?_
      refine x_getR (ci := 11) (j := 1) C dX11_all_99 lkF_X11_19 rfl h (fun c12 h => ?_)
      refine x_nn h (fun r13 h => ?_)
      refine x_getI (ci := 3) (j := 5) C dX11_all_102 lkF_X11_336 rfl h (fun v14 h => ?_)
      obtain ⟨u15, e1, h⟩ := q_bind h
      refine x_callS0 C dX11_all_105 lkM_X11_339 mS_X11_firstMost (c_X11_firstMost _ _ _ _ _ _ _ e1) rfl rfl (Nat.le_of_ble_eq_true rfl) (by decide) (by decide) ?_
      exact q_iret C dX11_all_108 rfl (by decide) (by decide) (Option.some.inj h)
    rw [if_neg hs21_0] at h
    by_cases hs21_1 : l1 = (1 : Int32)
    · rw [if_pos hs21_1] at h
      refine q_tsIn (tgt := 109) C dX11_all_21 hs21_1 (by decide) (by decide) rfl (by decide) ?_
      refine q_aload_n C dX11_all_109 rfl ?_
      refine x_getR (ci := 11) (j := 6) C dX11_all_110 lkF_X11_50 rfl h (fun c16 h => ?_)
      refine x_nn h (fun r17 h => ?_)
      refine x_getR (ci := 8) (j := 0) C dX11_all_113 lkF_X11_156 rfl h (fun c18 h => ?_)
      refine x_nn h (fun r19 h => ?_)
      refine x_bipush (v := (13 : Int32)) C dX11_all_116 (by decide) ?_
      refine x_iconst (v := (1 : Int32)) C dX11_all_118 (by decide) ?_
      refine q_aload_n C dX11_all_119 rfl ?_
      refine x_getR (ci := 11) (j := 1) C dX11_all_120 lkF_X11_19 rfl h (fun c20 h => ?_)
      refine x_nn h (fun r21 h => ?_)
      refine x_getI (ci := 3) (j := 5) C dX11_all_123 lkF_X11_336 rfl h (fun v22 h => ?_)
      obtain ⟨u23, e1, h⟩ := q_bind h
      refine x_callS0 C dX11_all_126 lkM_X11_339 mS_X11_firstMost (c_X11_firstMost _ _ _ _ _ _ _ e1) rfl rfl (Nat.le_of_ble_eq_true rfl) (by decide) (by decide) ?_
      exact q_iret C dX11_all_129 rfl (by decide) (by decide) (Option.some.inj h)
    rw [if_neg hs21_1] at h
    by_cases hs21_2 : l1 = (2 : Int32)
    · rw [if_pos hs21_2] at h
      refine q_tsIn (tgt := 130) C dX11_all_21 hs21_2 (by decide) (by decide) rfl (by decide) ?_
      refine q_aload_n C dX11_all_130 rfl ?_
      refine x_getR (ci := 11) (j := 1) C dX11_all_131 lkF_X11_19 rfl h (fun c24 h => ?_)
      refine x_nn h (fun r25 h => ?_)
      refine x_getR (ci := 3) (j := 2) C dX11_all_134 lkF_X11_343 rfl h (fun c26 h => ?_)
      refine x_nn h (fun r27 h => ?_)
      refine x_iconst (v := (3 : Int32)) C dX11_all_137 (by decide) ?_
      refine x_iconst (v := (4 : Int32)) C dX11_all_138 (by decide) ?_
      refine q_aload_n C dX11_all_139 rfl ?_
      refine x_getR (ci := 11) (j := 1) C dX11_all_140 lkF_X11_19 rfl h (fun c28 h => ?_)
      refine x_nn h (fun r29 h => ?_)
      refine x_getI (ci := 3) (j := 5) C dX11_all_143 lkF_X11_336 rfl h (fun v30 h => ?_)
      obtain ⟨u31, e1, h⟩ := q_bind h
      refine x_callS0 C dX11_all_146 lkM_X11_339 mS_X11_firstMost (c_X11_firstMost _ _ _ _ _ _ _ e1) rfl rfl (Nat.le_of_ble_eq_true rfl) (by decide) (by decide) ?_
      exact q_iret C dX11_all_149 rfl (by decide) (by decide) (Option.some.inj h)
    rw [if_neg hs21_2] at h
    by_cases hs21_3 : l1 = (3 : Int32)
    · rw [if_pos hs21_3] at h
      refine q_tsIn (tgt := 150) C dX11_all_21 hs21_3 (by decide) (by decide) rfl (by decide) ?_
      refine q_aload_n C dX11_all_150 rfl ?_
      refine x_getR (ci := 11) (j := 1) C dX11_all_151 lkF_X11_19 rfl h (fun c32 h => ?_)
      refine x_nn h (fun r33 h => ?_)
      refine x_getR (ci := 3) (j := 1) C dX11_all_154 lkF_X11_346 rfl h (fun c34 h => ?_)
      refine x_nn h (fun r35 h => ?_)
      refine x_iconst (v := (0 : Int32)) C dX11_all_157 (by decide) ?_
      refine x_iconst (v := (3 : Int32)) C dX11_all_158 (by decide) ?_
      refine q_aload_n C dX11_all_159 rfl ?_
      refine x_getR (ci := 11) (j := 1) C dX11_all_160 lkF_X11_19 rfl h (fun c36 h => ?_)
      refine x_nn h (fun r37 h => ?_)
      refine x_getI (ci := 3) (j := 4) C dX11_all_163 lkF_X11_349 rfl h (fun v38 h => ?_)
      obtain ⟨u39, e1, h⟩ := q_bind h
      refine x_callS0 C dX11_all_166 lkM_X11_339 mS_X11_firstMost (c_X11_firstMost _ _ _ _ _ _ _ e1) rfl rfl (Nat.le_of_ble_eq_true rfl) (by decide) (by decide) ?_
      exact q_iret C dX11_all_169 rfl (by decide) (by decide) (Option.some.inj h)
    rw [if_neg hs21_3] at h
    by_cases hs21_4 : l1 = (4 : Int32)
    · rw [if_pos hs21_4] at h
      refine q_tsIn (tgt := 170) C dX11_all_21 hs21_4 (by decide) (by decide) rfl (by decide) ?_
      refine q_aload_n C dX11_all_170 rfl ?_
      obtain ⟨hk, h⟩ := q_obE h
      obtain ⟨u40, e1, h⟩ := q_bind h
      refine x_callV0 C dX11_all_171 lkM_X11_352 mV_X11_cheapest ⟨_, rfl, rfl⟩ hk (c_X11_cheapest _ _ _ _ e1) rfl rfl (Nat.le_of_ble_eq_true rfl) (by decide) (by decide) ?_
      exact q_iret C dX11_all_174 rfl (by decide) (by decide) (Option.some.inj h)
    rw [if_neg hs21_4] at h
    by_cases hs21_5 : l1 = (5 : Int32)
    · rw [if_pos hs21_5] at h
      refine q_tsIn (tgt := 175) C dX11_all_21 hs21_5 (by decide) (by decide) rfl (by decide) ?_
      refine q_aload_n C dX11_all_175 rfl ?_
      obtain ⟨hk, h⟩ := q_obE h
      obtain ⟨u41, e1, h⟩ := q_bind h
      refine x_callV0 C dX11_all_176 lkM_X11_355 mV_X11_mostLiked ⟨_, rfl, rfl⟩ hk (c_X11_mostLiked _ _ _ _ e1) rfl rfl (Nat.le_of_ble_eq_true rfl) (by decide) (by decide) ?_
      exact q_iret C dX11_all_179 rfl (by decide) (by decide) (Option.some.inj h)
    rw [if_neg hs21_5] at h
    by_cases hs21_6 : l1 = (6 : Int32)
    · rw [if_pos hs21_6] at h
      refine q_tsIn (tgt := 180) C dX11_all_21 hs21_6 (by decide) (by decide) rfl (by decide) ?_
      refine q_aload_n C dX11_all_180 rfl ?_
      refine x_getR (ci := 11) (j := 9) C dX11_all_181 lkF_X11_69 rfl h (fun c42 h => ?_)
      refine x_nn h (fun r43 h => ?_)
      refine x_getI (ci := 1) (j := 11) C dX11_all_184 lkF_X11_358 rfl h (fun v44 h => ?_)
      exact q_iret C dX11_all_187 rfl (by decide) (by decide) (Option.some.inj h)
    rw [if_neg hs21_6] at h
    by_cases hs21_7 : l1 = (7 : Int32)
    · rw [if_pos hs21_7] at h
      refine q_tsIn (tgt := 188) C dX11_all_21 hs21_7 (by decide) (by decide) rfl (by decide) ?_
      refine q_aload_n C dX11_all_188 rfl ?_
      obtain ⟨hk, h⟩ := q_obE h
      obtain ⟨u45, e1, h⟩ := q_bind h
      refine x_callV0 C dX11_all_189 lkM_X11_361 mV_X11_lastDay ⟨_, rfl, rfl⟩ hk (c_X11_lastDay _ _ _ _ e1) rfl rfl (Nat.le_of_ble_eq_true rfl) (by decide) (by decide) ?_
      exact q_iret C dX11_all_192 rfl (by decide) (by decide) (Option.some.inj h)
    rw [if_neg hs21_7] at h
    by_cases hs21_8 : l1 = (8 : Int32)
    · rw [if_pos hs21_8] at h
      refine q_tsIn (tgt := 193) C dX11_all_21 hs21_8 (by decide) (by decide) rfl (by decide) ?_
      refine q_aload_n C dX11_all_193 rfl ?_
      obtain ⟨hk, h⟩ := q_obE h
      obtain ⟨u46, e1, h⟩ := q_bind h
      refine x_callV0 C dX11_all_194 lkM_X11_364 mV_X11_takings ⟨_, rfl, rfl⟩ hk (c_X11_takings _ _ _ _ e1) rfl rfl (Nat.le_of_ble_eq_true rfl) (by decide) (by decide) ?_
      exact q_iret C dX11_all_197 rfl (by decide) (by decide) (Option.some.inj h)
    rw [if_neg hs21_8] at h
    by_cases hs21_9 : l1 = (9 : Int32)
    · rw [if_pos hs21_9] at h
      refine q_tsIn (tgt := 198) C dX11_all_21 hs21_9 (by decide) (by decide) rfl (by decide) ?_
      refine q_aload_n C dX11_all_198 rfl ?_
      refine x_getR (ci := 11) (j := 9) C dX11_all_199 lkF_X11_69 rfl h (fun c47 h => ?_)
      refine x_nn h (fun r48 h => ?_)
      refine x_getI (ci := 1) (j := 5) C dX11_all_202 lkF_X11_367 rfl h (fun v49 h => ?_)
      exact q_iret C dX11_all_205 rfl (by decide) (by decide) (Option.some.inj h)
    rw [if_neg hs21_9] at h
    by_cases hs21_10 : l1 = (10 : Int32)
    · rw [if_pos hs21_10] at h
      refine q_tsIn (tgt := 206) C dX11_all_21 hs21_10 (by decide) (by decide) rfl (by decide) ?_
      refine q_aload_n C dX11_all_206 rfl ?_
      refine x_getR (ci := 11) (j := 9) C dX11_all_207 lkF_X11_69 rfl h (fun c50 h => ?_)
      refine x_nn h (fun r51 h => ?_)
      refine x_getI (ci := 1) (j := 4) C dX11_all_210 lkF_X11_265 rfl h (fun v52 h => ?_)
      refine q_aload_n C dX11_all_213 rfl ?_
      refine x_getR (ci := 11) (j := 9) C dX11_all_214 lkF_X11_69 rfl h (fun c53 h => ?_)
      refine x_nn h (fun r54 h => ?_)
      refine x_getI (ci := 1) (j := 10) C dX11_all_217 lkF_X11_196 rfl h (fun v55 h => ?_)
      refine x_iconst (v := (-1 : Int32)) C dX11_all_220 (by decide) ?_
      refine q_ixor C dX11_all_221 ?_
      refine q_iand C dX11_all_222 ?_
      exact q_iret C dX11_all_223 rfl (by decide) (by decide) (Option.some.inj h)
    rw [if_neg hs21_10] at h
    by_cases hs21_11 : l1 = (11 : Int32)
    · rw [if_pos hs21_11] at h
      refine q_tsIn (tgt := 224) C dX11_all_21 hs21_11 (by decide) (by decide) rfl (by decide) ?_
      refine q_aload_n C dX11_all_224 rfl ?_
      refine x_getR (ci := 11) (j := 11) C dX11_all_225 lkF_X11_87 rfl h (fun c56 h => ?_)
      refine x_nn h (fun r57 h => ?_)
      refine q_aload_n C dX11_all_228 rfl ?_
      refine x_getR (ci := 11) (j := 6) C dX11_all_229 lkF_X11_50 rfl h (fun c58 h => ?_)
      refine x_nn h (fun r59 h => ?_)
      obtain ⟨hk, h⟩ := q_obE h
      obtain ⟨⟨u60, M61⟩, e1, h⟩ := q_bind h
      refine x_callV0 C dX11_all_232 lkM_X11_370 mV_X2_daysToNothing ⟨_, rfl, rfl⟩ hk (c_X2_daysToNothing _ _ _ _ _ e1) rfl rfl (Nat.le_of_ble_eq_true rfl) (by decide) (by decide) ?_
      exact q_iret C dX11_all_235 rfl (by decide) (by decide) (Option.some.inj h)
    rw [if_neg hs21_11] at h
    by_cases hs21_12 : l1 = (12 : Int32)
    · rw [if_pos hs21_12] at h
      refine q_tsIn (tgt := 236) C dX11_all_21 hs21_12 (by decide) (by decide) rfl (by decide) ?_
      refine q_aload_n C dX11_all_236 rfl ?_
      refine x_getR (ci := 11) (j := 11) C dX11_all_237 lkF_X11_87 rfl h (fun c62 h => ?_)
      refine x_nn h (fun r63 h => ?_)
      refine q_aload_n C dX11_all_240 rfl ?_
      refine x_getR (ci := 11) (j := 6) C dX11_all_241 lkF_X11_50 rfl h (fun c64 h => ?_)
      refine x_nn h (fun r65 h => ?_)
      obtain ⟨hk, h⟩ := q_obE h
      obtain ⟨⟨u66, M67⟩, e1, h⟩ := q_bind h
      refine x_callV0 C dX11_all_244 lkM_X11_374 mV_X2_fullestDay ⟨_, rfl, rfl⟩ hk (c_X2_fullestDay _ _ _ _ _ e1) rfl rfl (Nat.le_of_ble_eq_true rfl) (by decide) (by decide) ?_
      exact q_iret C dX11_all_247 rfl (by decide) (by decide) (Option.some.inj h)
    rw [if_neg hs21_12] at h
    have ho21 : (l1 : Int32).toInt < 0 ∨ 12 < (l1 : Int32).toInt := by
      have z0 := lv_neT (a := 0) hs21_0 (by decide)
      have z1 := lv_neT (a := 1) hs21_1 (by decide)
      have z2 := lv_neT (a := 2) hs21_2 (by decide)
      have z3 := lv_neT (a := 3) hs21_3 (by decide)
      have z4 := lv_neT (a := 4) hs21_4 (by decide)
      have z5 := lv_neT (a := 5) hs21_5 (by decide)
      have z6 := lv_neT (a := 6) hs21_6 (by decide)
      have z7 := lv_neT (a := 7) hs21_7 (by decide)
      have z8 := lv_neT (a := 8) hs21_8 (by decide)
      have z9 := lv_neT (a := 9) hs21_9 (by decide)
      have z10 := lv_neT (a := 10) hs21_10 (by decide)
      have z11 := lv_neT (a := 11) hs21_11 (by decide)
      have z12 := lv_neT (a := 12) hs21_12 (by decide)
      omega
    refine q_tsOut (tgt := 248) C dX11_all_21 ho21 (by decide) ?_
    refine x_iconst (v := (-1 : Int32)) C dX11_all_248 (by decide) ?_
    exact q_iret C dX11_all_249 rfl (by decide) (by decide) (Option.some.inj h)
noncomputable def J_X11_kinds_52_22 (l0 : Nat) (l1 : Int32) (l2 : Int32) (l3 : Int32) (M : q_Mem) : Option ((Int32 × Int32) ⊕ (Int32)) := some (.inl (l2, (l3 + (1 : Int32))))
set_option maxRecDepth 100000 in
set_option maxHeartbeats 4000000 in
theorem jW_X11_kinds_52_22 {K : q_K} {Q : State → Prop} (C : q_C K yX11_kinds cX11_kinds 4 (Option.some Jvm.ClassFile.FieldType.int) 2 0 0) (l0 : Nat) (l1 : Int32) (l2 : Int32) (l3 : Int32) (M : q_Mem) {stp : (Int32 × Int32) ⊕ (Int32)} (h : J_X11_kinds_52_22 l0 l1 l2 l3 M = some stp) (kC : ∀ (l2 : Int32) (l3 : Int32), stp = .inl (l2, l3) → q_W K 4 Q 0 0 M 22 [some (.ref l0), some (.int l1), some (.int l2), some (.int l3)] []) (kE0 : ∀ (l2 : Int32), stp = .inr l2 → q_W K 4 Q 0 0 M 58 [none, none, some (.int l2), none] []) : q_W K 4 Q 0 0 M 52 [some (.ref l0), some (.int l1), some (.int l2), some (.int l3)] [] := by
  unfold J_X11_kinds_52_22 at h
  refine x_iinc (w := (1 : Int32)) (L' := [some (.ref l0), some (.int l1), some (.int l2), some (.int (l3 + (1 : Int32)))]) C dX11_kinds_52 rfl (by decide) (by decide) rfl rfl ?_
  refine q_goto (tgt := 22) C dX11_kinds_55 (by decide) ?_
  exact q_msk [true, true, true, true] (kC _ _ (Option.some.inj h).symm)
noncomputable def B_X11_kinds_22 (l0 : Nat) (l1 : Int32) (l2 : Int32) (l3 : Int32) (M : q_Mem) : Option ((Int32 × Int32) ⊕ (Int32)) := (q_gR M l0 11 1 (fun c2 => q_nn c2 (fun r3 => (q_gI M r3 3 4 (fun v4 => (if l3 < v4 then (q_gR M l0 11 1 (fun c5 => q_nn c5 (fun r6 => (q_ob M r6 3 ((F_X3_ofDish r6 l3 (2 : Int32) M).bind (fun u7 => (if u7 = l1 then J_X11_kinds_52_22 l0 l1 (l2 ||| ((1 : Int32) <<< (l3 &&& 31))) l3 M else J_X11_kinds_52_22 l0 l1 l2 l3 M))))))) else some (.inr l2)))))))
set_option maxRecDepth 100000 in
set_option maxHeartbeats 4000000 in
theorem bW_X11_kinds_22 {K : q_K} {Q : State → Prop} (C : q_C K yX11_kinds cX11_kinds 4 (Option.some Jvm.ClassFile.FieldType.int) 2 0 0) (l0 : Nat) (l1 : Int32) (l2 : Int32) (l3 : Int32) (M : q_Mem) {stp : (Int32 × Int32) ⊕ (Int32)} (h : B_X11_kinds_22 l0 l1 l2 l3 M = some stp) (kC : ∀ (l2 : Int32) (l3 : Int32), stp = .inl (l2, l3) → q_W K 4 Q 0 0 M 22 [some (.ref l0), some (.int l1), some (.int l2), some (.int l3)] []) (kE0 : ∀ (l2 : Int32), stp = .inr l2 → q_W K 4 Q 0 0 M 58 [none, none, some (.int l2), none] []) : q_W K 4 Q 0 0 M 22 [some (.ref l0), some (.int l1), some (.int l2), some (.int l3)] [] := by
  unfold B_X11_kinds_22 at h
  refine q_iload_n C dX11_kinds_22 rfl ?_
  refine q_aload_n C dX11_kinds_23 rfl ?_
  refine x_getR (ci := 11) (j := 1) C dX11_kinds_24 lkF_X11_19 rfl h (fun c2 h => ?_)
  refine x_nn h (fun r3 h => ?_)
  refine x_getI (ci := 3) (j := 4) C dX11_kinds_27 lkF_X11_349 rfl h (fun v4 h => ?_)
  refine q_icmp_ge (tgt := 58) C dX11_kinds_30 (by decide) h (fun _ h => ?_) (fun _ h => ?_)
  · refine q_aload_n C dX11_kinds_33 rfl ?_
    refine x_getR (ci := 11) (j := 1) C dX11_kinds_34 lkF_X11_19 rfl h (fun c5 h => ?_)
    refine x_nn h (fun r6 h => ?_)
    refine q_iload_n C dX11_kinds_37 rfl ?_
    refine x_iconst (v := (2 : Int32)) C dX11_kinds_38 (by decide) ?_
    obtain ⟨hk, h⟩ := q_obE h
    obtain ⟨u7, e1, h⟩ := q_bind h
    refine x_callV0 C dX11_kinds_39 lkM_X11_166 mV_X3_ofDish ⟨_, rfl, rfl⟩ hk (c_X3_ofDish _ _ _ _ _ _ e1) rfl rfl (Nat.le_of_ble_eq_true rfl) (by decide) (by decide) ?_
    refine q_iload_n C dX11_kinds_42 rfl ?_
    refine q_icmp_ne (tgt := 52) C dX11_kinds_43 (by decide) h (fun _ h => ?_) (fun _ h => ?_)
    · refine q_iload_n C dX11_kinds_46 rfl ?_
      refine x_iconst (v := (1 : Int32)) C dX11_kinds_47 (by decide) ?_
      refine q_iload_n C dX11_kinds_48 rfl ?_
      refine q_ishl C dX11_kinds_49 ?_
      refine q_ior C dX11_kinds_50 ?_
      refine q_istore_n (L' := [some (.ref l0), some (.int l1), some (.int (l2 ||| ((1 : Int32) <<< (l3 &&& 31)))), some (.int l3)]) C dX11_kinds_51 (by decide) rfl rfl ?_
      exact q_msk [true, true, true, true] (jW_X11_kinds_52_22 C l0 l1 (l2 ||| ((1 : Int32) <<< (l3 &&& 31))) l3 M h kC kE0)
    · exact q_msk [true, true, true, true] (jW_X11_kinds_52_22 C l0 l1 l2 l3 M h kC kE0)
  · exact q_msk [false, false, true, false] (kE0 _ (Option.some.inj h).symm)
set_option maxRecDepth 100000 in
set_option maxHeartbeats 4000000 in
theorem lW_X11_kinds_22 {K : q_K} {Q : State → Prop} (C : q_C K yX11_kinds cX11_kinds 4 (Option.some Jvm.ClassFile.FieldType.int) 2 0 0) (l0 : Nat) (l1 : Int32) (M : q_Mem) (n : Nat) : ∀ (l2 : Int32) (l3 : Int32) (e : (Int32)), q_lp (fun s => B_X11_kinds_22 l0 l1 s.1 s.2 M) n (l2, l3) = some e → (∀ (l2 : Int32), e = l2 → q_W K 4 Q 0 0 M 58 [none, none, some (.int l2), none] []) → q_W K 4 Q 0 0 M 22 [some (.ref l0), some (.int l1), some (.int l2), some (.int l3)] [] := by
  induction n with
  | zero => intro l2 l3 e h; cases h
  | succ n ih =>
    intro l2 l3 e h kE0
    obtain ⟨stp, e1, e2⟩ := q_bind h
    refine bW_X11_kinds_22 C l0 l1 l2 l3 M e1 (fun a0 a1 hs => ?_) (fun b0 hs => ?_)
    · subst hs; exact ih _ _ _ e2 kE0
    · subst hs; exact kE0 _ (Option.some.inj e2).symm
noncomputable def F_X11_kinds (l0 : Nat) (l1 : Int32) (M : q_Mem) : Option (Int32) := (q_gI M l0 11 18 (fun v1 => (if v1 = 0 then some (-1 : Int32) else (if l1 < 0 then some (-1 : Int32) else (if l1 < (4 : Int32) then (q_lp (fun s => B_X11_kinds_22 l0 l1 s.1 s.2 M) q_fu ((0 : Int32), (0 : Int32))).bind (fun e8 => match e8 with | w9 => some w9) else some (-1 : Int32))))))
set_option maxRecDepth 100000 in
set_option maxHeartbeats 4000000 in
theorem c_X11_kinds (l : Launch) (G : q_G) (l0 : Nat) (l1 : Int32) (M : q_Mem) {r : Int32} (h : F_X11_kinds l0 l1 M = some r) : q_Met l G yX11_kinds cX11_kinds 4 (Option.some Jvm.ClassFile.FieldType.int) 2 0 0 [.ref l0, .int l1] M (some (.int r)) M := by
  unfold F_X11_kinds at h
  refine q_enter [some (.ref l0), some (.int l1), none, none] (by decide) (Nat.le_of_ble_eq_true rfl) rfl (fun K C => ?_)
  refine q_aload_n C dX11_kinds_0 rfl ?_
  refine x_getI (ci := 11) (j := 18) C dX11_kinds_1 lkF_X11_116 rfl h (fun v1 h => ?_)
  refine q_if_eq (tgt := 16) C dX11_kinds_4 (by decide) h (fun _ h => ?_) (fun _ h => ?_)
  · refine x_iconst (v := (-1 : Int32)) C dX11_kinds_16 (by decide) ?_
    exact q_iret (res := (r, M)) C dX11_kinds_17 rfl (by decide) (by decide) (congrArg (fun z => (z, M)) (Option.some.inj h))
  · refine q_iload_n C dX11_kinds_7 rfl ?_
    refine q_if_lt (tgt := 16) C dX11_kinds_8 (by decide) h (fun _ h => ?_) (fun _ h => ?_)
    · refine x_iconst (v := (-1 : Int32)) C dX11_kinds_16 (by decide) ?_
      exact q_iret (res := (r, M)) C dX11_kinds_17 rfl (by decide) (by decide) (congrArg (fun z => (z, M)) (Option.some.inj h))
    · refine q_iload_n C dX11_kinds_11 rfl ?_
      refine x_iconst (v := (4 : Int32)) C dX11_kinds_12 (by decide) ?_
      refine q_icmp_lt (tgt := 18) C dX11_kinds_13 (by decide) h (fun _ h => ?_) (fun _ h => ?_)
      · refine x_iconst (v := (0 : Int32)) C dX11_kinds_18 (by decide) ?_
        refine q_istore_n (L' := [some (.ref l0), some (.int l1), some (.int (0 : Int32)), none]) C dX11_kinds_19 (by decide) rfl rfl ?_
        refine x_iconst (v := (0 : Int32)) C dX11_kinds_20 (by decide) ?_
        refine q_istore_n (L' := [some (.ref l0), some (.int l1), some (.int (0 : Int32)), some (.int (0 : Int32))]) C dX11_kinds_21 (by decide) rfl rfl ?_
        obtain ⟨e8, he, h⟩ := q_bind h
        refine q_msk [true, true, true, true] (lW_X11_kinds_22 C l0 l1 M q_fu _ _ _ he (fun w9 hs => ?_))
        · have hs := hs.symm
          subst hs
          refine q_iload_n C dX11_kinds_58 rfl ?_
          exact q_iret (res := (r, M)) C dX11_kinds_59 rfl (by decide) (by decide) (congrArg (fun z => (z, M)) (Option.some.inj h))
      · refine x_iconst (v := (-1 : Int32)) C dX11_kinds_16 (by decide) ?_
        exact q_iret (res := (r, M)) C dX11_kinds_17 rfl (by decide) (by decide) (congrArg (fun z => (z, M)) (Option.some.inj h))
noncomputable def F_X11_staying (l0 : Nat) (l1 : Int32) (M : q_Mem) : Option (Int32) := (q_gR M l0 11 1 (fun c1 => q_nn c1 (fun r2 => (q_ob M r2 3 ((F_X3_hasGuest r2 l1 M).bind (fun u3 => (if u3 = 0 then some (-1 : Int32) else (q_gR M l0 11 6 (fun c4 => q_nn c4 (fun r5 => (q_ob M r5 8 ((F_X8_hasLeft r5 l1 M).bind (fun u6 => (if u6 = 0 then (q_gR M l0 11 1 (fun c7 => q_nn c7 (fun r8 => (q_ob M r8 3 ((F_X3_ofGuest r8 l1 (0 : Int32) M).bind (fun u9 => (q_gR M l0 11 6 (fun c10 => q_nn c10 (fun r11 => (q_gR M r11 8 0 (fun c12 => q_nn c12 (fun r13 => (q_lI M 0 r13 (0 : Int32) (fun v14 => (q_gR M l0 11 6 (fun c15 => q_nn c15 (fun r16 => (q_gR M r16 8 0 (fun c17 => q_nn c17 (fun r18 => (q_lI M 0 r18 ((13 : Int32) + l1) (fun v19 => some (q_mx (0 : Int32) ((u9 + v19) - (q_mx v14 u9))))))))))))))))))))))))) else some (0 : Int32)))))))))))))))
set_option maxRecDepth 100000 in
set_option maxHeartbeats 4000000 in
theorem c_X11_staying (l : Launch) (G : q_G) (l0 : Nat) (l1 : Int32) (M : q_Mem) {r : Int32} (h : F_X11_staying l0 l1 M = some r) : q_Met l G yX11_staying cX11_staying 4 (Option.some Jvm.ClassFile.FieldType.int) 2 0 0 [.ref l0, .int l1] M (some (.int r)) M := by
  unfold F_X11_staying at h
  refine q_enter [some (.ref l0), some (.int l1), none, none] (by decide) (Nat.le_of_ble_eq_true rfl) rfl (fun K C => ?_)
  refine q_aload_n C dX11_staying_0 rfl ?_
  refine x_getR (ci := 11) (j := 1) C dX11_staying_1 lkF_X11_19 rfl h (fun c1 h => ?_)
  refine x_nn h (fun r2 h => ?_)
  refine q_iload_n C dX11_staying_4 rfl ?_
  obtain ⟨hk, h⟩ := q_obE h
  obtain ⟨u3, e1, h⟩ := q_bind h
  refine x_callV0 C dX11_staying_5 lkM_X11_170 mV_X3_hasGuest ⟨_, rfl, rfl⟩ hk (c_X3_hasGuest _ _ _ _ _ e1) rfl rfl (Nat.le_of_ble_eq_true rfl) (by decide) (by decide) ?_
  refine q_if_ne (tgt := 13) C dX11_staying_8 (by decide) h (fun _ h => ?_) (fun _ h => ?_)
  · refine x_iconst (v := (-1 : Int32)) C dX11_staying_11 (by decide) ?_
    exact q_iret (res := (r, M)) C dX11_staying_12 rfl (by decide) (by decide) (congrArg (fun z => (z, M)) (Option.some.inj h))
  · refine q_aload_n C dX11_staying_13 rfl ?_
    refine x_getR (ci := 11) (j := 6) C dX11_staying_14 lkF_X11_50 rfl h (fun c4 h => ?_)
    refine x_nn h (fun r5 h => ?_)
    refine q_iload_n C dX11_staying_17 rfl ?_
    obtain ⟨hk, h⟩ := q_obE h
    obtain ⟨u6, e1, h⟩ := q_bind h
    refine x_callV0 C dX11_staying_18 lkM_X11_183 mV_X8_hasLeft ⟨_, rfl, rfl⟩ hk (c_X8_hasLeft _ _ _ _ _ e1) rfl rfl (Nat.le_of_ble_eq_true rfl) (by decide) (by decide) ?_
    refine q_if_eq (tgt := 26) C dX11_staying_21 (by decide) h (fun _ h => ?_) (fun _ h => ?_)
    · refine q_aload_n C dX11_staying_26 rfl ?_
      refine x_getR (ci := 11) (j := 1) C dX11_staying_27 lkF_X11_19 rfl h (fun c7 h => ?_)
      refine x_nn h (fun r8 h => ?_)
      refine q_iload_n C dX11_staying_30 rfl ?_
      refine x_iconst (v := (0 : Int32)) C dX11_staying_31 (by decide) ?_
      obtain ⟨hk, h⟩ := q_obE h
      obtain ⟨u9, e1, h⟩ := q_bind h
      refine x_callV0 C dX11_staying_32 lkM_X11_180 mV_X3_ofGuest ⟨_, rfl, rfl⟩ hk (c_X3_ofGuest _ _ _ _ _ _ e1) rfl rfl (Nat.le_of_ble_eq_true rfl) (by decide) (by decide) ?_
      refine q_istore_n (L' := [some (.ref l0), some (.int l1), some (.int u9), none]) C dX11_staying_35 (by decide) rfl rfl ?_
      refine q_aload_n C dX11_staying_36 rfl ?_
      refine x_getR (ci := 11) (j := 6) C dX11_staying_37 lkF_X11_50 rfl h (fun c10 h => ?_)
      refine x_nn h (fun r11 h => ?_)
      refine x_getR (ci := 8) (j := 0) C dX11_staying_40 lkF_X11_156 rfl h (fun c12 h => ?_)
      refine x_nn h (fun r13 h => ?_)
      refine x_iconst (v := (0 : Int32)) C dX11_staying_43 (by decide) ?_
      refine x_iald C dX11_staying_44 h (fun v14 h => ?_)
      refine q_iload_n C dX11_staying_45 rfl ?_
      refine q_max C dX11_staying_46 wd_1074 wd_470 wd_15 wd_471 (by decide) (Nat.le_of_ble_eq_true rfl) (by decide) ?_
      refine q_istore_n (L' := [some (.ref l0), some (.int l1), some (.int u9), some (.int (q_mx v14 u9))]) C dX11_staying_49 (by decide) rfl rfl ?_
      refine x_iconst (v := (0 : Int32)) C dX11_staying_50 (by decide) ?_
      refine q_iload_n C dX11_staying_51 rfl ?_
      refine q_aload_n C dX11_staying_52 rfl ?_
      refine x_getR (ci := 11) (j := 6) C dX11_staying_53 lkF_X11_50 rfl h (fun c15 h => ?_)
      refine x_nn h (fun r16 h => ?_)
      refine x_getR (ci := 8) (j := 0) C dX11_staying_56 lkF_X11_156 rfl h (fun c17 h => ?_)
      refine x_nn h (fun r18 h => ?_)
      refine x_bipush (v := (13 : Int32)) C dX11_staying_59 (by decide) ?_
      refine q_iload_n C dX11_staying_61 rfl ?_
      refine q_iadd C dX11_staying_62 ?_
      refine x_iald C dX11_staying_63 h (fun v19 h => ?_)
      refine q_iadd C dX11_staying_64 ?_
      refine q_iload_n C dX11_staying_65 rfl ?_
      refine q_isub C dX11_staying_66 ?_
      refine q_max C dX11_staying_67 wd_1074 wd_470 wd_15 wd_471 (by decide) (Nat.le_of_ble_eq_true rfl) (by decide) ?_
      exact q_iret (res := (r, M)) C dX11_staying_70 rfl (by decide) (by decide) (congrArg (fun z => (z, M)) (Option.some.inj h))
    · refine x_iconst (v := (0 : Int32)) C dX11_staying_24 (by decide) ?_
      exact q_iret (res := (r, M)) C dX11_staying_25 rfl (by decide) (by decide) (congrArg (fun z => (z, M)) (Option.some.inj h))
noncomputable def F_X11_image (l0 : Nat) (M : q_Mem) : Option (Int32 × q_Mem) := (q_gI M l0 11 18 (fun v1 => (if v1 = 0 then some ((-1 : Int32), M) else (q_gR M l0 11 8 (fun c2 => q_nn c2 (fun r3 => (q_gR M l0 11 6 (fun c4 => q_nn c4 (fun r5 => (q_ob M r3 6 ((F_X6_takePicture r3 r5 M).bind (fun x => match x with | (_, M7) => (q_gR M7 l0 11 6 (fun c8 => q_nn c8 (fun r9 => (q_gR M7 r9 8 0 (fun c10 => q_nn c10 (fun r11 => (q_lI M7 0 r11 (0 : Int32) (fun v12 => some (v12, M7)))))))))))))))))))))
set_option maxRecDepth 100000 in
set_option maxHeartbeats 4000000 in
theorem c_X11_image (l : Launch) (G : q_G) (l0 : Nat) (M : q_Mem) {r : Int32} {M' : q_Mem} (h : F_X11_image l0 M = some (r, M')) : q_Met l G yX11_image cX11_image 1 (Option.some Jvm.ClassFile.FieldType.int) 4 0 0 [.ref l0] M (some (.int r)) M' := by
  unfold F_X11_image at h
  refine q_enter [some (.ref l0)] (by decide) (Nat.le_of_ble_eq_true rfl) rfl (fun K C => ?_)
  refine q_aload_n C dX11_image_0 rfl ?_
  refine x_getI (ci := 11) (j := 18) C dX11_image_1 lkF_X11_116 rfl h (fun v1 h => ?_)
  refine q_if_ne (tgt := 9) C dX11_image_4 (by decide) h (fun _ h => ?_) (fun _ h => ?_)
  · refine x_iconst (v := (-1 : Int32)) C dX11_image_7 (by decide) ?_
    exact q_iret C dX11_image_8 rfl (by decide) (by decide) (Option.some.inj h)
  · refine q_aload_n C dX11_image_9 rfl ?_
    refine x_getR (ci := 11) (j := 8) C dX11_image_10 lkF_X11_60 rfl h (fun c2 h => ?_)
    refine x_nn h (fun r3 h => ?_)
    refine q_aload_n C dX11_image_13 rfl ?_
    refine x_getR (ci := 11) (j := 6) C dX11_image_14 lkF_X11_50 rfl h (fun c4 h => ?_)
    refine x_nn h (fun r5 h => ?_)
    obtain ⟨hk, h⟩ := q_obE h
    obtain ⟨⟨_, M7⟩, e1, h⟩ := q_bind h
    refine x_callVv0 C dX11_image_17 lkM_X11_382 mV_X6_takePicture ⟨_, rfl, rfl⟩ hk (c_X6_takePicture _ _ _ _ _ e1) rfl rfl (Nat.le_of_ble_eq_true rfl) (by decide) (by decide) ?_
    refine q_aload_n C dX11_image_20 rfl ?_
    refine x_getR (ci := 11) (j := 6) C dX11_image_21 lkF_X11_50 rfl h (fun c8 h => ?_)
    refine x_nn h (fun r9 h => ?_)
    refine x_getR (ci := 8) (j := 0) C dX11_image_24 lkF_X11_156 rfl h (fun c10 h => ?_)
    refine x_nn h (fun r11 h => ?_)
    refine x_iconst (v := (0 : Int32)) C dX11_image_27 (by decide) ?_
    refine x_iald C dX11_image_28 h (fun v12 h => ?_)
    exact q_iret C dX11_image_29 rfl (by decide) (by decide) (Option.some.inj h)
noncomputable def F_X11_back (l0 : Nat) (M : q_Mem) : Option (Int32 × q_Mem) := (q_gR M l0 11 8 (fun c1 => q_nn c1 (fun r2 => (q_gR M l0 11 6 (fun c3 => q_nn c3 (fun r4 => (q_ob M r2 6 ((F_X6_showPicture r2 r4 M).bind (fun x => match x with | (u5, M6) => (if u5 = 0 then some ((-1 : Int32), M6) else (q_gR M6 l0 11 6 (fun c7 => q_nn c7 (fun r8 => (q_gR M6 r8 8 0 (fun c9 => q_nn c9 (fun r10 => (q_lI M6 0 r10 (0 : Int32) (fun v11 => some (v11, M6)))))))))))))))))))
set_option maxRecDepth 100000 in
set_option maxHeartbeats 4000000 in
theorem c_X11_back (l : Launch) (G : q_G) (l0 : Nat) (M : q_Mem) {r : Int32} {M' : q_Mem} (h : F_X11_back l0 M = some (r, M')) : q_Met l G yX11_back cX11_back 1 (Option.some Jvm.ClassFile.FieldType.int) 4 0 0 [.ref l0] M (some (.int r)) M' := by
  unfold F_X11_back at h
  refine q_enter [some (.ref l0)] (by decide) (Nat.le_of_ble_eq_true rfl) rfl (fun K C => ?_)
  refine q_aload_n C dX11_back_0 rfl ?_
  refine x_getR (ci := 11) (j := 8) C dX11_back_1 lkF_X11_60 rfl h (fun c1 h => ?_)
  refine x_nn h (fun r2 h => ?_)
  refine q_aload_n C dX11_back_4 rfl ?_
  refine x_getR (ci := 11) (j := 6) C dX11_back_5 lkF_X11_50 rfl h (fun c3 h => ?_)
  refine x_nn h (fun r4 h => ?_)
  obtain ⟨hk, h⟩ := q_obE h
  obtain ⟨⟨u5, M6⟩, e1, h⟩ := q_bind h
  refine x_callV0 C dX11_back_8 lkM_X11_385 mV_X6_showPicture ⟨_, rfl, rfl⟩ hk (c_X6_showPicture _ _ _ _ _ e1) rfl rfl (Nat.le_of_ble_eq_true rfl) (by decide) (by decide) ?_
  refine q_if_eq (tgt := 26) C dX11_back_11 (by decide) h (fun _ h => ?_) (fun _ h => ?_)
  · refine x_iconst (v := (-1 : Int32)) C dX11_back_26 (by decide) ?_
    exact q_iret C dX11_back_27 rfl (by decide) (by decide) (Option.some.inj h)
  · refine q_aload_n C dX11_back_14 rfl ?_
    refine x_getR (ci := 11) (j := 6) C dX11_back_15 lkF_X11_50 rfl h (fun c7 h => ?_)
    refine x_nn h (fun r8 h => ?_)
    refine x_getR (ci := 8) (j := 0) C dX11_back_18 lkF_X11_156 rfl h (fun c9 h => ?_)
    refine x_nn h (fun r10 h => ?_)
    refine x_iconst (v := (0 : Int32)) C dX11_back_21 (by decide) ?_
    refine x_iald C dX11_back_22 h (fun v11 h => ?_)
    refine q_goto (tgt := 27) C dX11_back_23 (by decide) ?_
    exact q_iret C dX11_back_27 rfl (by decide) (by decide) (Option.some.inj h)
noncomputable def F_X11_count (l0 : Nat) (l1 : Int32) (M : q_Mem) : Option (Int32) := (if l1 = (0 : Int32) then (q_gR M l0 11 1 (fun c1 => q_nn c1 (fun r2 => (q_gI M r2 3 5 (fun v3 => some v3))))) else (if l1 = (1 : Int32) then (q_gR M l0 11 1 (fun c4 => q_nn c4 (fun r5 => (q_gI M r5 3 4 (fun v6 => some v6))))) else (if l1 = (2 : Int32) then (q_gI M l0 11 14 (fun v7 => some v7)) else (if l1 = (3 : Int32) then (q_gI M l0 11 15 (fun v8 => some v8)) else (if l1 = (4 : Int32) then (q_gR M l0 11 0 (fun c9 => q_nn c9 (fun r10 => (q_gI M r10 9 1 (fun v11 => some v11))))) else (if l1 = (5 : Int32) then (q_gI M l0 11 16 (fun v12 => some v12)) else (if l1 = (6 : Int32) then (q_gR M l0 11 6 (fun c13 => q_nn c13 (fun r14 => (q_gR M r14 8 0 (fun c15 => q_nn c15 (fun r16 => (q_lI M 0 r16 (0 : Int32) (fun v17 => some v17)))))))) else (if l1 = (7 : Int32) then (q_gR M l0 11 6 (fun c18 => q_nn c18 (fun r19 => (q_ob M r19 8 ((F_X8_joyOfAll r19 M).bind (fun u20 => some u20)))))) else (if l1 = (8 : Int32) then (q_gR M l0 11 6 (fun c21 => q_nn c21 (fun r22 => (q_gR M r22 8 0 (fun c23 => q_nn c23 (fun r24 => (q_lI M 0 r24 (4 : Int32) (fun v25 => some v25)))))))) else (if l1 = (9 : Int32) then (q_gI M l0 11 17 (fun v26 => some v26)) else (if l1 = (10 : Int32) then (q_gR M l0 11 12 (fun c27 => q_nn c27 (fun r28 => (q_gI M r28 7 3 (fun v29 => some v29))))) else (if l1 = (11 : Int32) then (q_gR M l0 11 6 (fun c30 => q_nn c30 (fun r31 => (q_gR M r31 8 0 (fun c32 => q_nn c32 (fun r33 => (q_lI M 0 r33 (0 : Int32) (fun v34 => ((F_X6_logLength v34 M).bind (fun u35 => some u35)))))))))) else (if l1 = (12 : Int32) then (q_gR M l0 11 8 (fun c36 => q_nn c36 (fun r37 => (q_gI M r37 6 6 (fun v38 => some v38))))) else some (-1000000 : Int32))))))))))))))
set_option maxRecDepth 100000 in
set_option maxHeartbeats 4000000 in
theorem c_X11_count (l : Launch) (G : q_G) (l0 : Nat) (l1 : Int32) (M : q_Mem) {r : Int32} (h : F_X11_count l0 l1 M = some r) : q_Met l G yX11_count cX11_count 2 (Option.some Jvm.ClassFile.FieldType.int) 3 0 0 [.ref l0, .int l1] M (some (.int r)) M := by
  unfold F_X11_count at h
  refine q_enter [some (.ref l0), some (.int l1)] (by decide) (Nat.le_of_ble_eq_true rfl) rfl (fun K C => ?_)
  refine q_iload_n C dX11_count_0 rfl ?_
  by_cases hs1_0 : l1 = (0 : Int32)
  · rw [if_pos hs1_0] at h
    refine q_tsIn (tgt := 68) C dX11_count_1 hs1_0 (by decide) (by decide) rfl (by decide) ?_
    refine q_aload_n C dX11_count_68 rfl ?_
    refine x_getR (ci := 11) (j := 1) C dX11_count_69 lkF_X11_19 rfl h (fun c1 h => ?_)
    refine x_nn h (fun r2 h => ?_)
    refine x_getI (ci := 3) (j := 5) C dX11_count_72 lkF_X11_336 rfl h (fun v3 h => ?_)
    exact q_iret (res := (r, M)) C dX11_count_75 rfl (by decide) (by decide) (congrArg (fun z => (z, M)) (Option.some.inj h))
  rw [if_neg hs1_0] at h
  by_cases hs1_1 : l1 = (1 : Int32)
  · rw [if_pos hs1_1] at h
    refine q_tsIn (tgt := 76) C dX11_count_1 hs1_1 (by decide) (by decide) rfl (by decide) ?_
    refine q_aload_n C dX11_count_76 rfl ?_
    refine x_getR (ci := 11) (j := 1) C dX11_count_77 lkF_X11_19 rfl h (fun c4 h => ?_)
    refine x_nn h (fun r5 h => ?_)
    refine x_getI (ci := 3) (j := 4) C dX11_count_80 lkF_X11_349 rfl h (fun v6 h => ?_)
    exact q_iret (res := (r, M)) C dX11_count_83 rfl (by decide) (by decide) (congrArg (fun z => (z, M)) (Option.some.inj h))
  rw [if_neg hs1_1] at h
  by_cases hs1_2 : l1 = (2 : Int32)
  · rw [if_pos hs1_2] at h
    refine q_tsIn (tgt := 84) C dX11_count_1 hs1_2 (by decide) (by decide) rfl (by decide) ?_
    refine q_aload_n C dX11_count_84 rfl ?_
    refine x_getI (ci := 11) (j := 14) C dX11_count_85 lkF_X11_103 rfl h (fun v7 h => ?_)
    exact q_iret (res := (r, M)) C dX11_count_88 rfl (by decide) (by decide) (congrArg (fun z => (z, M)) (Option.some.inj h))
  rw [if_neg hs1_2] at h
  by_cases hs1_3 : l1 = (3 : Int32)
  · rw [if_pos hs1_3] at h
    refine q_tsIn (tgt := 89) C dX11_count_1 hs1_3 (by decide) (by decide) rfl (by decide) ?_
    refine q_aload_n C dX11_count_89 rfl ?_
    refine x_getI (ci := 11) (j := 15) C dX11_count_90 lkF_X11_107 rfl h (fun v8 h => ?_)
    exact q_iret (res := (r, M)) C dX11_count_93 rfl (by decide) (by decide) (congrArg (fun z => (z, M)) (Option.some.inj h))
  rw [if_neg hs1_3] at h
  by_cases hs1_4 : l1 = (4 : Int32)
  · rw [if_pos hs1_4] at h
    refine q_tsIn (tgt := 94) C dX11_count_1 hs1_4 (by decide) (by decide) rfl (by decide) ?_
    refine q_aload_n C dX11_count_94 rfl ?_
    refine x_getR (ci := 11) (j := 0) C dX11_count_95 lkF_X11_12 rfl h (fun c9 h => ?_)
    refine x_nn h (fun r10 h => ?_)
    refine x_getI (ci := 9) (j := 1) C dX11_count_98 lkF_X11_128 rfl h (fun v11 h => ?_)
    exact q_iret (res := (r, M)) C dX11_count_101 rfl (by decide) (by decide) (congrArg (fun z => (z, M)) (Option.some.inj h))
  rw [if_neg hs1_4] at h
  by_cases hs1_5 : l1 = (5 : Int32)
  · rw [if_pos hs1_5] at h
    refine q_tsIn (tgt := 102) C dX11_count_1 hs1_5 (by decide) (by decide) rfl (by decide) ?_
    refine q_aload_n C dX11_count_102 rfl ?_
    refine x_getI (ci := 11) (j := 16) C dX11_count_103 lkF_X11_110 rfl h (fun v12 h => ?_)
    exact q_iret (res := (r, M)) C dX11_count_106 rfl (by decide) (by decide) (congrArg (fun z => (z, M)) (Option.some.inj h))
  rw [if_neg hs1_5] at h
  by_cases hs1_6 : l1 = (6 : Int32)
  · rw [if_pos hs1_6] at h
    refine q_tsIn (tgt := 107) C dX11_count_1 hs1_6 (by decide) (by decide) rfl (by decide) ?_
    refine q_aload_n C dX11_count_107 rfl ?_
    refine x_getR (ci := 11) (j := 6) C dX11_count_108 lkF_X11_50 rfl h (fun c13 h => ?_)
    refine x_nn h (fun r14 h => ?_)
    refine x_getR (ci := 8) (j := 0) C dX11_count_111 lkF_X11_156 rfl h (fun c15 h => ?_)
    refine x_nn h (fun r16 h => ?_)
    refine x_iconst (v := (0 : Int32)) C dX11_count_114 (by decide) ?_
    refine x_iald C dX11_count_115 h (fun v17 h => ?_)
    exact q_iret (res := (r, M)) C dX11_count_116 rfl (by decide) (by decide) (congrArg (fun z => (z, M)) (Option.some.inj h))
  rw [if_neg hs1_6] at h
  by_cases hs1_7 : l1 = (7 : Int32)
  · rw [if_pos hs1_7] at h
    refine q_tsIn (tgt := 117) C dX11_count_1 hs1_7 (by decide) (by decide) rfl (by decide) ?_
    refine q_aload_n C dX11_count_117 rfl ?_
    refine x_getR (ci := 11) (j := 6) C dX11_count_118 lkF_X11_50 rfl h (fun c18 h => ?_)
    refine x_nn h (fun r19 h => ?_)
    obtain ⟨hk, h⟩ := q_obE h
    obtain ⟨u20, e1, h⟩ := q_bind h
    refine x_callV0 C dX11_count_121 lkM_X11_388 mV_X8_joyOfAll ⟨_, rfl, rfl⟩ hk (c_X8_joyOfAll _ _ _ _ e1) rfl rfl (Nat.le_of_ble_eq_true rfl) (by decide) (by decide) ?_
    exact q_iret (res := (r, M)) C dX11_count_124 rfl (by decide) (by decide) (congrArg (fun z => (z, M)) (Option.some.inj h))
  rw [if_neg hs1_7] at h
  by_cases hs1_8 : l1 = (8 : Int32)
  · rw [if_pos hs1_8] at h
    refine q_tsIn (tgt := 125) C dX11_count_1 hs1_8 (by decide) (by decide) rfl (by decide) ?_
    refine q_aload_n C dX11_count_125 rfl ?_
    refine x_getR (ci := 11) (j := 6) C dX11_count_126 lkF_X11_50 rfl h (fun c21 h => ?_)
    refine x_nn h (fun r22 h => ?_)
    refine x_getR (ci := 8) (j := 0) C dX11_count_129 lkF_X11_156 rfl h (fun c23 h => ?_)
    refine x_nn h (fun r24 h => ?_)
    refine x_iconst (v := (4 : Int32)) C dX11_count_132 (by decide) ?_
    refine x_iald C dX11_count_133 h (fun v25 h => ?_)
    exact q_iret (res := (r, M)) C dX11_count_134 rfl (by decide) (by decide) (congrArg (fun z => (z, M)) (Option.some.inj h))
  rw [if_neg hs1_8] at h
  by_cases hs1_9 : l1 = (9 : Int32)
  · rw [if_pos hs1_9] at h
    refine q_tsIn (tgt := 135) C dX11_count_1 hs1_9 (by decide) (by decide) rfl (by decide) ?_
    refine q_aload_n C dX11_count_135 rfl ?_
    refine x_getI (ci := 11) (j := 17) C dX11_count_136 lkF_X11_113 rfl h (fun v26 h => ?_)
    exact q_iret (res := (r, M)) C dX11_count_139 rfl (by decide) (by decide) (congrArg (fun z => (z, M)) (Option.some.inj h))
  rw [if_neg hs1_9] at h
  by_cases hs1_10 : l1 = (10 : Int32)
  · rw [if_pos hs1_10] at h
    refine q_tsIn (tgt := 140) C dX11_count_1 hs1_10 (by decide) (by decide) rfl (by decide) ?_
    refine q_aload_n C dX11_count_140 rfl ?_
    refine x_getR (ci := 11) (j := 12) C dX11_count_141 lkF_X11_94 rfl h (fun c27 h => ?_)
    refine x_nn h (fun r28 h => ?_)
    refine x_getI (ci := 7) (j := 3) C dX11_count_144 lkF_X11_391 rfl h (fun v29 h => ?_)
    exact q_iret (res := (r, M)) C dX11_count_147 rfl (by decide) (by decide) (congrArg (fun z => (z, M)) (Option.some.inj h))
  rw [if_neg hs1_10] at h
  by_cases hs1_11 : l1 = (11 : Int32)
  · rw [if_pos hs1_11] at h
    refine q_tsIn (tgt := 148) C dX11_count_1 hs1_11 (by decide) (by decide) rfl (by decide) ?_
    refine q_aload_n C dX11_count_148 rfl ?_
    refine x_getR (ci := 11) (j := 6) C dX11_count_149 lkF_X11_50 rfl h (fun c30 h => ?_)
    refine x_nn h (fun r31 h => ?_)
    refine x_getR (ci := 8) (j := 0) C dX11_count_152 lkF_X11_156 rfl h (fun c32 h => ?_)
    refine x_nn h (fun r33 h => ?_)
    refine x_iconst (v := (0 : Int32)) C dX11_count_155 (by decide) ?_
    refine x_iald C dX11_count_156 h (fun v34 h => ?_)
    obtain ⟨u35, e1, h⟩ := q_bind h
    refine x_callS0 C dX11_count_157 lkM_X11_228 mS_X6_logLength (c_X6_logLength _ _ _ _ e1) rfl rfl (Nat.le_of_ble_eq_true rfl) (by decide) (by decide) ?_
    exact q_iret (res := (r, M)) C dX11_count_160 rfl (by decide) (by decide) (congrArg (fun z => (z, M)) (Option.some.inj h))
  rw [if_neg hs1_11] at h
  by_cases hs1_12 : l1 = (12 : Int32)
  · rw [if_pos hs1_12] at h
    refine q_tsIn (tgt := 161) C dX11_count_1 hs1_12 (by decide) (by decide) rfl (by decide) ?_
    refine q_aload_n C dX11_count_161 rfl ?_
    refine x_getR (ci := 11) (j := 8) C dX11_count_162 lkF_X11_60 rfl h (fun c36 h => ?_)
    refine x_nn h (fun r37 h => ?_)
    refine x_getI (ci := 6) (j := 6) C dX11_count_165 lkF_X11_225 rfl h (fun v38 h => ?_)
    exact q_iret (res := (r, M)) C dX11_count_168 rfl (by decide) (by decide) (congrArg (fun z => (z, M)) (Option.some.inj h))
  rw [if_neg hs1_12] at h
  have ho1 : (l1 : Int32).toInt < 0 ∨ 12 < (l1 : Int32).toInt := by
    have z0 := lv_neT (a := 0) hs1_0 (by decide)
    have z1 := lv_neT (a := 1) hs1_1 (by decide)
    have z2 := lv_neT (a := 2) hs1_2 (by decide)
    have z3 := lv_neT (a := 3) hs1_3 (by decide)
    have z4 := lv_neT (a := 4) hs1_4 (by decide)
    have z5 := lv_neT (a := 5) hs1_5 (by decide)
    have z6 := lv_neT (a := 6) hs1_6 (by decide)
    have z7 := lv_neT (a := 7) hs1_7 (by decide)
    have z8 := lv_neT (a := 8) hs1_8 (by decide)
    have z9 := lv_neT (a := 9) hs1_9 (by decide)
    have z10 := lv_neT (a := 10) hs1_10 (by decide)
    have z11 := lv_neT (a := 11) hs1_11 (by decide)
    have z12 := lv_neT (a := 12) hs1_12 (by decide)
    omega
  refine q_tsOut (tgt := 169) C dX11_count_1 ho1 (by decide) ?_
  refine q_ldc (v := (-1000000 : Int32)) C dX11_count_169 wd_866 ?_
  exact q_iret (res := (r, M)) C dX11_count_171 rfl (by decide) (by decide) (congrArg (fun z => (z, M)) (Option.some.inj h))
noncomputable def F_X12_init (l0 : Nat) (M : q_Mem) : Option (Unit × q_Mem) := (q_nA M 1 (240 : Int32) 240 (fun k1 M2 => (q_pR M2 l0 12 1 (k1 + 1) (fun M3 => (q_nA M3 1 (960 : Int32) 960 (fun k4 M5 => (q_pR M5 l0 12 2 (k4 + 1) (fun M6 => (q_nA M6 0 (4 : Int32) 4 (fun k7 M8 => (q_pR M8 l0 12 3 (k7 + 1) (fun M9 => (q_nA M9 0 (128 : Int32) 128 (fun k10 M11 => (q_pR M11 l0 12 4 (k10 + 1) (fun M12 => (q_gR M12 l0 12 1 (fun c13 => q_nn c13 (fun r14 => (q_pR M12 l0 12 5 (r14 + 1) (fun M15 => (q_pR M15 l0 12 15 (30 + 1) (fun M16 => (q_pR M16 l0 12 16 (32 + 1) (fun M17 => (q_nA M17 0 (3 : Int32) 3 (fun k18 M19 => (q_pR M19 l0 12 18 (k18 + 1) (fun M20 => (q_nA M20 0 (3 : Int32) 3 (fun k21 M22 => (q_pR M22 l0 12 19 (k21 + 1) (fun M23 => (q_nA M23 0 (15 : Int32) 15 (fun k24 M25 => (q_pR M25 l0 12 20 (k24 + 1) (fun M26 => (q_nA M26 0 (15 : Int32) 15 (fun k27 M28 => (q_pR M28 l0 12 21 (k27 + 1) (fun M29 => (q_nA M29 0 (24 : Int32) 24 (fun k30 M31 => (q_pR M31 l0 12 22 (k30 + 1) (fun M32 => (q_nA M32 0 (24 : Int32) 24 (fun k33 M34 => (q_pR M34 l0 12 23 (k33 + 1) (fun M35 => (q_nA M35 0 (240 : Int32) 240 (fun k36 M37 => (q_pR M37 l0 12 24 (k36 + 1) (fun M38 => (q_nA M38 0 (5 : Int32) 5 (fun k39 M40 => (q_pR M40 l0 12 25 (k39 + 1) (fun M41 => (q_nA M41 0 (217 : Int32) 217 (fun k42 M43 => (q_pR M43 l0 12 32 (k42 + 1) (fun M44 => (q_nA M44 0 (217 : Int32) 217 (fun k45 M46 => (q_pR M46 l0 12 33 (k45 + 1) (fun M47 => (q_pI M47 l0 12 34 (-1 : Int32) (fun M48 => (q_pI M48 l0 12 35 (1 : Int32) (fun M49 => (q_nA M49 0 (6 : Int32) 6 (fun k50 M51 => (q_pR M51 l0 12 36 (k50 + 1) (fun M52 => (q_nA M52 0 (8680 : Int32) 8680 (fun k53 M54 => (q_pR M54 l0 12 41 (k53 + 1) (fun M55 => (q_nA M55 0 (50 : Int32) 50 (fun k56 M57 => (q_pR M57 l0 12 44 (k56 + 1) (fun M58 => (q_nA M58 0 (32 : Int32) 32 (fun k59 M60 => (q_pR M60 l0 12 46 (k59 + 1) (fun M61 => (q_nA M61 0 (185 : Int32) 185 (fun k62 M63 => (q_pR M63 l0 12 47 (k62 + 1) (fun M64 => (q_nA M64 0 (217 : Int32) 217 (fun k65 M66 => (q_pR M66 l0 12 48 (k65 + 1) (fun M67 => some ((), M67))))))))))))))))))))))))))))))))))))))))))))))))))))))))))))))))))))))))))))))))))))))))))))))
set_option maxRecDepth 100000 in
set_option maxHeartbeats 4000000 in
theorem c_X12_init (l : Launch) (G : q_G) (l0 : Nat) (M : q_Mem) {r : Unit} {M' : q_Mem} (h : F_X12_init l0 M = some (r, M')) : q_Met l G yX12_init cX12_init 1 (Option.none : Option Jvm.ClassFile.FieldType) 2 20 11265 [.ref l0] M none M' := by
  unfold F_X12_init at h
  refine q_enter [some (.ref l0)] (by decide) (Nat.le_of_ble_eq_true rfl) rfl (fun K C => ?_)
  refine q_aload_n C dX12_init_0 rfl ?_
  refine q_objI C dX12_init_1 wd_1196 wd_33 wd_34 (by decide) (Nat.le_of_ble_eq_true rfl) ?_
  refine q_aload_n C dX12_init_4 rfl ?_
  refine x_sipush (v := (240 : Int32)) C dX12_init_5 (by decide) ?_
  refine x_newa C dX12_init_8 (by simp) wd_62 (by decide) h (by decide) (fun k1 M2 h => ?_)
  refine x_putR (ci := 12) (j := 1) (k1 + 1) C dX12_init_10 lkF_X12_9 (fun r hr => by cases hr; exact Or.inr ⟨rfl, rfl, wd_1200⟩) (Or.inr ⟨_, rfl⟩) rfl h (fun M3 h => ?_)
  refine q_aload_n C dX12_init_13 rfl ?_
  refine x_sipush (v := (960 : Int32)) C dX12_init_14 (by decide) ?_
  refine x_newa C dX12_init_17 (by simp) wd_62 (by decide) h (by decide) (fun k4 M5 h => ?_)
  refine x_putR (ci := 12) (j := 2) (k4 + 1) C dX12_init_19 lkF_X12_13 (fun r hr => by cases hr; exact Or.inr ⟨rfl, rfl, wd_1201⟩) (Or.inr ⟨_, rfl⟩) rfl h (fun M6 h => ?_)
  refine q_aload_n C dX12_init_22 rfl ?_
  refine x_iconst (v := (4 : Int32)) C dX12_init_23 (by decide) ?_
  refine x_newa C dX12_init_24 (by simp) wd_103 (by decide) h (by decide) (fun k7 M8 h => ?_)
  refine x_putR (ci := 12) (j := 3) (k7 + 1) C dX12_init_26 lkF_X12_16 (fun r hr => by cases hr; exact Or.inr ⟨rfl, rfl, wd_1202⟩) (Or.inr ⟨_, rfl⟩) rfl h (fun M9 h => ?_)
  refine q_aload_n C dX12_init_29 rfl ?_
  refine x_sipush (v := (128 : Int32)) C dX12_init_30 (by decide) ?_
  refine x_newa C dX12_init_33 (by simp) wd_103 (by decide) h (by decide) (fun k10 M11 h => ?_)
  refine x_putR (ci := 12) (j := 4) (k10 + 1) C dX12_init_35 lkF_X12_20 (fun r hr => by cases hr; exact Or.inr ⟨rfl, rfl, wd_1203⟩) (Or.inr ⟨_, rfl⟩) rfl h (fun M12 h => ?_)
  refine q_aload_n C dX12_init_38 rfl ?_
  refine q_aload_n C dX12_init_39 rfl ?_
  refine x_getR (ci := 12) (j := 1) C dX12_init_40 lkF_X12_9 rfl h (fun c13 h => ?_)
  refine x_nn h (fun r14 h => ?_)
  refine x_putR (ci := 12) (j := 5) (r14 + 1) C dX12_init_43 lkF_X12_23 (fun r hr => by cases hr; exact Or.inl rfl) (Or.inr ⟨_, rfl⟩) rfl h (fun M15 h => ?_)
  refine q_aload_n C dX12_init_46 rfl ?_
  refine q_ldcS (i := 13) C dX12_init_47 rfl ?_
  refine x_putR (ci := 12) (j := 15) (30 + 1) C dX12_init_49 lkF_X12_28 (fun r hr => by cases hr; exact Or.inr ⟨rfl, rfl, wd_1214⟩) (Or.inl ⟨_, rfl⟩) rfl h (fun M16 h => ?_)
  refine q_aload_n C dX12_init_52 rfl ?_
  refine q_ldcS (i := 14) C dX12_init_53 rfl ?_
  refine x_putR (ci := 12) (j := 16) (32 + 1) C dX12_init_55 lkF_X12_34 (fun r hr => by cases hr; exact Or.inr ⟨rfl, rfl, wd_1215⟩) (Or.inl ⟨_, rfl⟩) rfl h (fun M17 h => ?_)
  refine q_aload_n C dX12_init_58 rfl ?_
  refine x_iconst (v := (3 : Int32)) C dX12_init_59 (by decide) ?_
  refine x_newa C dX12_init_60 (by simp) wd_103 (by decide) h (by decide) (fun k18 M19 h => ?_)
  refine x_putR (ci := 12) (j := 18) (k18 + 1) C dX12_init_62 lkF_X12_37 (fun r hr => by cases hr; exact Or.inr ⟨rfl, rfl, wd_1217⟩) (Or.inr ⟨_, rfl⟩) rfl h (fun M20 h => ?_)
  refine q_aload_n C dX12_init_65 rfl ?_
  refine x_iconst (v := (3 : Int32)) C dX12_init_66 (by decide) ?_
  refine x_newa C dX12_init_67 (by simp) wd_103 (by decide) h (by decide) (fun k21 M22 h => ?_)
  refine x_putR (ci := 12) (j := 19) (k21 + 1) C dX12_init_69 lkF_X12_40 (fun r hr => by cases hr; exact Or.inr ⟨rfl, rfl, wd_1218⟩) (Or.inr ⟨_, rfl⟩) rfl h (fun M23 h => ?_)
  refine q_aload_n C dX12_init_72 rfl ?_
  refine x_bipush (v := (15 : Int32)) C dX12_init_73 (by decide) ?_
  refine x_newa C dX12_init_75 (by simp) wd_103 (by decide) h (by decide) (fun k24 M25 h => ?_)
  refine x_putR (ci := 12) (j := 20) (k24 + 1) C dX12_init_77 lkF_X12_43 (fun r hr => by cases hr; exact Or.inr ⟨rfl, rfl, wd_1219⟩) (Or.inr ⟨_, rfl⟩) rfl h (fun M26 h => ?_)
  refine q_aload_n C dX12_init_80 rfl ?_
  refine x_bipush (v := (15 : Int32)) C dX12_init_81 (by decide) ?_
  refine x_newa C dX12_init_83 (by simp) wd_103 (by decide) h (by decide) (fun k27 M28 h => ?_)
  refine x_putR (ci := 12) (j := 21) (k27 + 1) C dX12_init_85 lkF_X12_46 (fun r hr => by cases hr; exact Or.inr ⟨rfl, rfl, wd_1220⟩) (Or.inr ⟨_, rfl⟩) rfl h (fun M29 h => ?_)
  refine q_aload_n C dX12_init_88 rfl ?_
  refine x_bipush (v := (24 : Int32)) C dX12_init_89 (by decide) ?_
  refine x_newa C dX12_init_91 (by simp) wd_103 (by decide) h (by decide) (fun k30 M31 h => ?_)
  refine x_putR (ci := 12) (j := 22) (k30 + 1) C dX12_init_93 lkF_X12_49 (fun r hr => by cases hr; exact Or.inr ⟨rfl, rfl, wd_1221⟩) (Or.inr ⟨_, rfl⟩) rfl h (fun M32 h => ?_)
  refine q_aload_n C dX12_init_96 rfl ?_
  refine x_bipush (v := (24 : Int32)) C dX12_init_97 (by decide) ?_
  refine x_newa C dX12_init_99 (by simp) wd_103 (by decide) h (by decide) (fun k33 M34 h => ?_)
  refine x_putR (ci := 12) (j := 23) (k33 + 1) C dX12_init_101 lkF_X12_52 (fun r hr => by cases hr; exact Or.inr ⟨rfl, rfl, wd_1222⟩) (Or.inr ⟨_, rfl⟩) rfl h (fun M35 h => ?_)
  refine q_aload_n C dX12_init_104 rfl ?_
  refine x_sipush (v := (240 : Int32)) C dX12_init_105 (by decide) ?_
  refine x_newa C dX12_init_108 (by simp) wd_103 (by decide) h (by decide) (fun k36 M37 h => ?_)
  refine x_putR (ci := 12) (j := 24) (k36 + 1) C dX12_init_110 lkF_X12_55 (fun r hr => by cases hr; exact Or.inr ⟨rfl, rfl, wd_1223⟩) (Or.inr ⟨_, rfl⟩) rfl h (fun M38 h => ?_)
  refine q_aload_n C dX12_init_113 rfl ?_
  refine x_iconst (v := (5 : Int32)) C dX12_init_114 (by decide) ?_
  refine x_newa C dX12_init_115 (by simp) wd_103 (by decide) h (by decide) (fun k39 M40 h => ?_)
  refine x_putR (ci := 12) (j := 25) (k39 + 1) C dX12_init_117 lkF_X12_58 (fun r hr => by cases hr; exact Or.inr ⟨rfl, rfl, wd_1224⟩) (Or.inr ⟨_, rfl⟩) rfl h (fun M41 h => ?_)
  refine q_aload_n C dX12_init_120 rfl ?_
  refine x_sipush (v := (217 : Int32)) C dX12_init_121 (by decide) ?_
  refine x_newa C dX12_init_124 (by simp) wd_103 (by decide) h (by decide) (fun k42 M43 h => ?_)
  refine x_putR (ci := 12) (j := 32) (k42 + 1) C dX12_init_126 lkF_X12_61 (fun r hr => by cases hr; exact Or.inr ⟨rfl, rfl, wd_1231⟩) (Or.inr ⟨_, rfl⟩) rfl h (fun M44 h => ?_)
  refine q_aload_n C dX12_init_129 rfl ?_
  refine x_sipush (v := (217 : Int32)) C dX12_init_130 (by decide) ?_
  refine x_newa C dX12_init_133 (by simp) wd_103 (by decide) h (by decide) (fun k45 M46 h => ?_)
  refine x_putR (ci := 12) (j := 33) (k45 + 1) C dX12_init_135 lkF_X12_64 (fun r hr => by cases hr; exact Or.inr ⟨rfl, rfl, wd_1232⟩) (Or.inr ⟨_, rfl⟩) rfl h (fun M47 h => ?_)
  refine q_aload_n C dX12_init_138 rfl ?_
  refine x_iconst (v := (-1 : Int32)) C dX12_init_139 (by decide) ?_
  refine x_putI (ci := 12) (j := 34) C dX12_init_140 lkF_X12_67 (fun r hr => by cases hr; rfl) rfl h (fun M48 h => ?_)
  refine q_aload_n C dX12_init_143 rfl ?_
  refine x_iconst (v := (1 : Int32)) C dX12_init_144 (by decide) ?_
  refine x_putI (ci := 12) (j := 35) C dX12_init_145 lkF_X12_71 (fun r hr => by cases hr; rfl) rfl h (fun M49 h => ?_)
  refine q_aload_n C dX12_init_148 rfl ?_
  refine x_bipush (v := (6 : Int32)) C dX12_init_149 (by decide) ?_
  refine x_newa C dX12_init_151 (by simp) wd_103 (by decide) h (by decide) (fun k50 M51 h => ?_)
  refine x_putR (ci := 12) (j := 36) (k50 + 1) C dX12_init_153 lkF_X12_74 (fun r hr => by cases hr; exact Or.inr ⟨rfl, rfl, wd_1235⟩) (Or.inr ⟨_, rfl⟩) rfl h (fun M52 h => ?_)
  refine q_aload_n C dX12_init_156 rfl ?_
  refine x_sipush (v := (8680 : Int32)) C dX12_init_157 (by decide) ?_
  refine x_newa C dX12_init_160 (by simp) wd_103 (by decide) h (by decide) (fun k53 M54 h => ?_)
  refine x_putR (ci := 12) (j := 41) (k53 + 1) C dX12_init_162 lkF_X12_77 (fun r hr => by cases hr; exact Or.inr ⟨rfl, rfl, wd_1240⟩) (Or.inr ⟨_, rfl⟩) rfl h (fun M55 h => ?_)
  refine q_aload_n C dX12_init_165 rfl ?_
  refine x_bipush (v := (50 : Int32)) C dX12_init_166 (by decide) ?_
  refine x_newa C dX12_init_168 (by simp) wd_103 (by decide) h (by decide) (fun k56 M57 h => ?_)
  refine x_putR (ci := 12) (j := 44) (k56 + 1) C dX12_init_170 lkF_X12_80 (fun r hr => by cases hr; exact Or.inr ⟨rfl, rfl, wd_1243⟩) (Or.inr ⟨_, rfl⟩) rfl h (fun M58 h => ?_)
  refine q_aload_n C dX12_init_173 rfl ?_
  refine x_bipush (v := (32 : Int32)) C dX12_init_174 (by decide) ?_
  refine x_newa C dX12_init_176 (by simp) wd_103 (by decide) h (by decide) (fun k59 M60 h => ?_)
  refine x_putR (ci := 12) (j := 46) (k59 + 1) C dX12_init_178 lkF_X12_83 (fun r hr => by cases hr; exact Or.inr ⟨rfl, rfl, wd_1245⟩) (Or.inr ⟨_, rfl⟩) rfl h (fun M61 h => ?_)
  refine q_aload_n C dX12_init_181 rfl ?_
  refine x_sipush (v := (185 : Int32)) C dX12_init_182 (by decide) ?_
  refine x_newa C dX12_init_185 (by simp) wd_103 (by decide) h (by decide) (fun k62 M63 h => ?_)
  refine x_putR (ci := 12) (j := 47) (k62 + 1) C dX12_init_187 lkF_X12_86 (fun r hr => by cases hr; exact Or.inr ⟨rfl, rfl, wd_1246⟩) (Or.inr ⟨_, rfl⟩) rfl h (fun M64 h => ?_)
  refine q_aload_n C dX12_init_190 rfl ?_
  refine x_sipush (v := (217 : Int32)) C dX12_init_191 (by decide) ?_
  refine x_newa C dX12_init_194 (by simp) wd_103 (by decide) h (by decide) (fun k65 M66 h => ?_)
  refine x_putR (ci := 12) (j := 48) (k65 + 1) C dX12_init_196 lkF_X12_89 (fun r hr => by cases hr; exact Or.inr ⟨rfl, rfl, wd_1247⟩) (Or.inr ⟨_, rfl⟩) rfl h (fun M67 h => ?_)
  exact q_vret C dX12_init_199 rfl (by decide) (by decide) (Option.some.inj h)
noncomputable def J_X12_bytesIn_25_5 (l0 : Int32) (l2 : Int32) (s0 : Int32) (s1 : Int32) (M : q_Mem) : Option ((Int32 × Int32) ⊕ (Int32)) := some (.inl ((s0 + s1), (l2 + (-8 : Int32))))
set_option maxRecDepth 100000 in
set_option maxHeartbeats 4000000 in
theorem jW_X12_bytesIn_25_5 {K : q_K} {Q : State → Prop} (C : q_C K yX12_bytesIn cX12_bytesIn 3 (Option.some Jvm.ClassFile.FieldType.int) 1 0 0) (l0 : Int32) (l2 : Int32) (s0 : Int32) (s1 : Int32) (M : q_Mem) {stp : (Int32 × Int32) ⊕ (Int32)} (h : J_X12_bytesIn_25_5 l0 l2 s0 s1 M = some stp) (kC : ∀ (l1 : Int32) (l2 : Int32), stp = .inl (l1, l2) → q_W K 3 Q 0 0 M 5 [some (.int l0), some (.int l1), some (.int l2)] []) (kE0 : ∀ (l1 : Int32), stp = .inr l1 → q_W K 3 Q 0 0 M 33 [none, some (.int l1), none] []) : q_W K 3 Q 0 0 M 25 [some (.int l0), none, some (.int l2)] [.int s1, .int s0] := by
  unfold J_X12_bytesIn_25_5 at h
  refine q_iadd C dX12_bytesIn_25 ?_
  refine q_istore_n (L' := [some (.int l0), some (.int (s0 + s1)), some (.int l2)]) C dX12_bytesIn_26 (by decide) rfl rfl ?_
  refine x_iinc (w := (-8 : Int32)) (L' := [some (.int l0), some (.int (s0 + s1)), some (.int (l2 + (-8 : Int32)))]) C dX12_bytesIn_27 rfl (by decide) (by decide) rfl rfl ?_
  refine q_goto (tgt := 5) C dX12_bytesIn_30 (by decide) ?_
  exact q_msk [true, true, true] (kC _ _ (Option.some.inj h).symm)
noncomputable def B_X12_bytesIn_5 (l0 : Int32) (l1 : Int32) (l2 : Int32) (M : q_Mem) : Option ((Int32 × Int32) ⊕ (Int32)) := (if l2 < 0 then some (.inr l1) else (if ((l0 >>> (l2 &&& 31)) &&& (255 : Int32)) = 0 then J_X12_bytesIn_25_5 l0 l2 l1 (0 : Int32) M else J_X12_bytesIn_25_5 l0 l2 l1 (1 : Int32) M))
set_option maxRecDepth 100000 in
set_option maxHeartbeats 4000000 in
theorem bW_X12_bytesIn_5 {K : q_K} {Q : State → Prop} (C : q_C K yX12_bytesIn cX12_bytesIn 3 (Option.some Jvm.ClassFile.FieldType.int) 1 0 0) (l0 : Int32) (l1 : Int32) (l2 : Int32) (M : q_Mem) {stp : (Int32 × Int32) ⊕ (Int32)} (h : B_X12_bytesIn_5 l0 l1 l2 M = some stp) (kC : ∀ (l1 : Int32) (l2 : Int32), stp = .inl (l1, l2) → q_W K 3 Q 0 0 M 5 [some (.int l0), some (.int l1), some (.int l2)] []) (kE0 : ∀ (l1 : Int32), stp = .inr l1 → q_W K 3 Q 0 0 M 33 [none, some (.int l1), none] []) : q_W K 3 Q 0 0 M 5 [some (.int l0), some (.int l1), some (.int l2)] [] := by
  unfold B_X12_bytesIn_5 at h
  refine q_iload_n C dX12_bytesIn_5 rfl ?_
  refine q_if_lt (tgt := 33) C dX12_bytesIn_6 (by decide) h (fun _ h => ?_) (fun _ h => ?_)
  · exact q_msk [false, true, false] (kE0 _ (Option.some.inj h).symm)
  · refine q_iload_n C dX12_bytesIn_9 rfl ?_
    refine q_iload_n C dX12_bytesIn_10 rfl ?_
    refine q_iload_n C dX12_bytesIn_11 rfl ?_
    refine q_ishr C dX12_bytesIn_12 ?_
    refine x_sipush (v := (255 : Int32)) C dX12_bytesIn_13 (by decide) ?_
    refine q_iand C dX12_bytesIn_16 ?_
    refine q_if_eq (tgt := 24) C dX12_bytesIn_17 (by decide) h (fun _ h => ?_) (fun _ h => ?_)
    · refine x_iconst (v := (0 : Int32)) C dX12_bytesIn_24 (by decide) ?_
      exact q_msk [true, false, true] (jW_X12_bytesIn_25_5 C l0 l2 l1 (0 : Int32) M h kC kE0)
    · refine x_iconst (v := (1 : Int32)) C dX12_bytesIn_20 (by decide) ?_
      refine q_goto (tgt := 25) C dX12_bytesIn_21 (by decide) ?_
      exact q_msk [true, false, true] (jW_X12_bytesIn_25_5 C l0 l2 l1 (1 : Int32) M h kC kE0)
set_option maxRecDepth 100000 in
set_option maxHeartbeats 4000000 in
theorem lW_X12_bytesIn_5 {K : q_K} {Q : State → Prop} (C : q_C K yX12_bytesIn cX12_bytesIn 3 (Option.some Jvm.ClassFile.FieldType.int) 1 0 0) (l0 : Int32) (M : q_Mem) (n : Nat) : ∀ (l1 : Int32) (l2 : Int32) (e : (Int32)), q_lp (fun s => B_X12_bytesIn_5 l0 s.1 s.2 M) n (l1, l2) = some e → (∀ (l1 : Int32), e = l1 → q_W K 3 Q 0 0 M 33 [none, some (.int l1), none] []) → q_W K 3 Q 0 0 M 5 [some (.int l0), some (.int l1), some (.int l2)] [] := by
  induction n with
  | zero => intro l1 l2 e h; cases h
  | succ n ih =>
    intro l1 l2 e h kE0
    obtain ⟨stp, e1, e2⟩ := q_bind h
    refine bW_X12_bytesIn_5 C l0 l1 l2 M e1 (fun a0 a1 hs => ?_) (fun b0 hs => ?_)
    · subst hs; exact ih _ _ _ e2 kE0
    · subst hs; exact kE0 _ (Option.some.inj e2).symm
noncomputable def F_X12_bytesIn (l0 : Int32) (M : q_Mem) : Option (Int32) := (q_lp (fun s => B_X12_bytesIn_5 l0 s.1 s.2 M) q_fu ((0 : Int32), (24 : Int32))).bind (fun e1 => match e1 with | w2 => some w2)
set_option maxRecDepth 100000 in
set_option maxHeartbeats 4000000 in
theorem c_X12_bytesIn (l : Launch) (G : q_G) (l0 : Int32) (M : q_Mem) {r : Int32} (h : F_X12_bytesIn l0 M = some r) : q_Met l G yX12_bytesIn cX12_bytesIn 3 (Option.some Jvm.ClassFile.FieldType.int) 1 0 0 [.int l0] M (some (.int r)) M := by
  unfold F_X12_bytesIn at h
  refine q_enter [some (.int l0), none, none] (by decide) (Nat.le_of_ble_eq_true rfl) rfl (fun K C => ?_)
  refine x_iconst (v := (0 : Int32)) C dX12_bytesIn_0 (by decide) ?_
  refine q_istore_n (L' := [some (.int l0), some (.int (0 : Int32)), none]) C dX12_bytesIn_1 (by decide) rfl rfl ?_
  refine x_bipush (v := (24 : Int32)) C dX12_bytesIn_2 (by decide) ?_
  refine q_istore_n (L' := [some (.int l0), some (.int (0 : Int32)), some (.int (24 : Int32))]) C dX12_bytesIn_4 (by decide) rfl rfl ?_
  obtain ⟨e1, he, h⟩ := q_bind h
  refine q_msk [true, true, true] (lW_X12_bytesIn_5 C l0 M q_fu _ _ _ he (fun w2 hs => ?_))
  · have hs := hs.symm
    subst hs
    refine q_iload_n C dX12_bytesIn_33 rfl ?_
    exact q_iret (res := (r, M)) C dX12_bytesIn_34 rfl (by decide) (by decide) (congrArg (fun z => (z, M)) (Option.some.inj h))
noncomputable def J_X12_put_43_3 (l0 : Nat) (l1 : Int32) (l2 : Int32) (M : q_Mem) : Option ((Int32 × q_Mem) ⊕ (q_Mem)) := some (.inl ((l2 + (-8 : Int32)), M))
set_option maxRecDepth 100000 in
set_option maxHeartbeats 4000000 in
theorem jW_X12_put_43_3 {K : q_K} {Q : State → Prop} (C : q_C K yX12_put cX12_put 3 (Option.none : Option Jvm.ClassFile.FieldType) 1 0 0) (l0 : Nat) (l1 : Int32) (l2 : Int32) (M : q_Mem) {stp : (Int32 × q_Mem) ⊕ (q_Mem)} (h : J_X12_put_43_3 l0 l1 l2 M = some stp) (kC : ∀ (l2 : Int32) (M : q_Mem), stp = .inl (l2, M) → q_W K 3 Q 0 0 M 3 [some (.ref l0), some (.int l1), some (.int l2)] []) (kE0 : ∀ (M : q_Mem), stp = .inr M → q_W K 3 Q 0 0 M 49 [none, none, none] []) : q_W K 3 Q 0 0 M 43 [some (.ref l0), some (.int l1), some (.int l2)] [] := by
  unfold J_X12_put_43_3 at h
  refine x_iinc (w := (-8 : Int32)) (L' := [some (.ref l0), some (.int l1), some (.int (l2 + (-8 : Int32)))]) C dX12_put_43 rfl (by decide) (by decide) rfl rfl ?_
  refine q_goto (tgt := 3) C dX12_put_46 (by decide) ?_
  exact q_msk [true, true, true] (kC _ _ (Option.some.inj h).symm)
noncomputable def B_X12_put_3 (l0 : Nat) (l1 : Int32) (l2 : Int32) (M : q_Mem) : Option ((Int32 × q_Mem) ⊕ (q_Mem)) := (if l2 < 0 then some (.inr M) else (if ((l1 >>> (l2 &&& 31)) &&& (255 : Int32)) = 0 then J_X12_put_43_3 l0 l1 l2 M else (q_gR M l0 12 1 (fun c1 => q_nn c1 (fun r2 => (q_gI M l0 12 6 (fun v3 => (q_tB M r2 v3 ((l1 >>> (l2 &&& 31)).toInt8.toInt32) (fun M4 => (q_gI M4 l0 12 6 (fun v5 => (q_pI M4 l0 12 6 (v5 + (1 : Int32)) (fun M6 => J_X12_put_43_3 l0 l1 l2 M6)))))))))))))
set_option maxRecDepth 100000 in
set_option maxHeartbeats 4000000 in
theorem bW_X12_put_3 {K : q_K} {Q : State → Prop} (C : q_C K yX12_put cX12_put 3 (Option.none : Option Jvm.ClassFile.FieldType) 1 0 0) (l0 : Nat) (l1 : Int32) (l2 : Int32) (M : q_Mem) {stp : (Int32 × q_Mem) ⊕ (q_Mem)} (h : B_X12_put_3 l0 l1 l2 M = some stp) (kC : ∀ (l2 : Int32) (M : q_Mem), stp = .inl (l2, M) → q_W K 3 Q 0 0 M 3 [some (.ref l0), some (.int l1), some (.int l2)] []) (kE0 : ∀ (M : q_Mem), stp = .inr M → q_W K 3 Q 0 0 M 49 [none, none, none] []) : q_W K 3 Q 0 0 M 3 [some (.ref l0), some (.int l1), some (.int l2)] [] := by
  unfold B_X12_put_3 at h
  refine q_iload_n C dX12_put_3 rfl ?_
  refine q_if_lt (tgt := 49) C dX12_put_4 (by decide) h (fun _ h => ?_) (fun _ h => ?_)
  · exact q_msk [false, false, false] (kE0 _ (Option.some.inj h).symm)
  · refine q_iload_n C dX12_put_7 rfl ?_
    refine q_iload_n C dX12_put_8 rfl ?_
    refine q_ishr C dX12_put_9 ?_
    refine x_sipush (v := (255 : Int32)) C dX12_put_10 (by decide) ?_
    refine q_iand C dX12_put_13 ?_
    refine q_if_ne (tgt := 20) C dX12_put_14 (by decide) h (fun _ h => ?_) (fun _ h => ?_)
    · refine q_goto (tgt := 43) C dX12_put_17 (by decide) ?_
      exact q_msk [true, true, true] (jW_X12_put_43_3 C l0 l1 l2 M h kC kE0)
    · refine q_aload_n C dX12_put_20 rfl ?_
      refine x_getR (ci := 12) (j := 1) C dX12_put_21 lkF_X12_9 rfl h (fun c1 h => ?_)
      refine x_nn h (fun r2 h => ?_)
      refine q_aload_n C dX12_put_24 rfl ?_
      refine x_getI (ci := 12) (j := 6) C dX12_put_25 lkF_X12_105 rfl h (fun v3 h => ?_)
      refine q_iload_n C dX12_put_28 rfl ?_
      refine q_iload_n C dX12_put_29 rfl ?_
      refine q_ishr C dX12_put_30 ?_
      refine q_i2b C dX12_put_31 ?_
      refine x_bast C dX12_put_32 h (fun M4 h => ?_)
      refine q_aload_n C dX12_put_33 rfl ?_
      refine q_dup C dX12_put_34 rfl ?_
      refine x_getI (ci := 12) (j := 6) C dX12_put_35 lkF_X12_105 rfl h (fun v5 h => ?_)
      refine x_iconst (v := (1 : Int32)) C dX12_put_38 (by decide) ?_
      refine q_iadd C dX12_put_39 ?_
      refine x_putI (ci := 12) (j := 6) C dX12_put_40 lkF_X12_105 (fun r hr => by cases hr; rfl) rfl h (fun M6 h => ?_)
      exact q_msk [true, true, true] (jW_X12_put_43_3 C l0 l1 l2 M6 h kC kE0)
set_option maxRecDepth 100000 in
set_option maxHeartbeats 4000000 in
theorem lW_X12_put_3 {K : q_K} {Q : State → Prop} (C : q_C K yX12_put cX12_put 3 (Option.none : Option Jvm.ClassFile.FieldType) 1 0 0) (l0 : Nat) (l1 : Int32) (n : Nat) : ∀ (l2 : Int32) (M : q_Mem) (e : (q_Mem)), q_lp (fun s => B_X12_put_3 l0 l1 s.1 s.2) n (l2, M) = some e → (∀ (M : q_Mem), e = M → q_W K 3 Q 0 0 M 49 [none, none, none] []) → q_W K 3 Q 0 0 M 3 [some (.ref l0), some (.int l1), some (.int l2)] [] := by
  induction n with
  | zero => intro l2 M e h; cases h
  | succ n ih =>
    intro l2 M e h kE0
    obtain ⟨stp, e1, e2⟩ := q_bind h
    refine bW_X12_put_3 C l0 l1 l2 M e1 (fun a0 a1 hs => ?_) (fun b0 hs => ?_)
    · subst hs; exact ih _ _ _ e2 kE0
    · subst hs; exact kE0 _ (Option.some.inj e2).symm
noncomputable def F_X12_put (l0 : Nat) (l1 : Int32) (M : q_Mem) : Option (Unit × q_Mem) := (q_lp (fun s => B_X12_put_3 l0 l1 s.1 s.2) q_fu ((24 : Int32), M)).bind (fun e7 => match e7 with | M8 => some ((), M8))
set_option maxRecDepth 100000 in
set_option maxHeartbeats 4000000 in
theorem c_X12_put (l : Launch) (G : q_G) (l0 : Nat) (l1 : Int32) (M : q_Mem) {r : Unit} {M' : q_Mem} (h : F_X12_put l0 l1 M = some (r, M')) : q_Met l G yX12_put cX12_put 3 (Option.none : Option Jvm.ClassFile.FieldType) 1 0 0 [.ref l0, .int l1] M none M' := by
  unfold F_X12_put at h
  refine q_enter [some (.ref l0), some (.int l1), none] (by decide) (Nat.le_of_ble_eq_true rfl) rfl (fun K C => ?_)
  refine x_bipush (v := (24 : Int32)) C dX12_put_0 (by decide) ?_
  refine q_istore_n (L' := [some (.ref l0), some (.int l1), some (.int (24 : Int32))]) C dX12_put_2 (by decide) rfl rfl ?_
  obtain ⟨e7, he, h⟩ := q_bind h
  refine q_msk [true, true, true] (lW_X12_put_3 C l0 l1 q_fu _ _ _ he (fun M8 hs => ?_))
  · have hs := hs.symm
    subst hs
    exact q_vret C dX12_put_49 rfl (by decide) (by decide) (Option.some.inj h)
noncomputable def F_X12_feed (l0 : Nat) (l1 : Int32) (l2 : Int32) (l3 : Int32) (l4 : Int32) (l5 : Int32) (M : q_Mem) : Option (Int32 × q_Mem) := (q_pI M l0 12 0 (0 : Int32) (fun M1 => (q_gI M1 l0 12 6 (fun v2 => ((F_X12_bytesIn l1 M1).bind (fun u3 => ((F_X12_bytesIn l2 M1).bind (fun u4 => ((F_X12_bytesIn l3 M1).bind (fun u5 => ((F_X12_bytesIn l4 M1).bind (fun u6 => ((F_X12_bytesIn l5 M1).bind (fun u7 => (if (240 : Int32) < (((((v2 + u3) + u4) + u5) + u6) + u7) then some ((-1 : Int32), M1) else (q_ob M1 l0 12 ((F_X12_put l0 l1 M1).bind (fun x => match x with | (_, M9) => (q_ob M9 l0 12 ((F_X12_put l0 l2 M9).bind (fun x => match x with | (_, M11) => (q_ob M11 l0 12 ((F_X12_put l0 l3 M11).bind (fun x => match x with | (_, M13) => (q_ob M13 l0 12 ((F_X12_put l0 l4 M13).bind (fun x => match x with | (_, M15) => (q_ob M15 l0 12 ((F_X12_put l0 l5 M15).bind (fun x => match x with | (_, M17) => (q_gI M17 l0 12 6 (fun v18 => some (v18, M17)))))))))))))))))))))))))))))))))
set_option maxRecDepth 100000 in
set_option maxHeartbeats 4000000 in
theorem c_X12_feed (l : Launch) (G : q_G) (l0 : Nat) (l1 : Int32) (l2 : Int32) (l3 : Int32) (l4 : Int32) (l5 : Int32) (M : q_Mem) {r : Int32} {M' : q_Mem} (h : F_X12_feed l0 l1 l2 l3 l4 l5 M = some (r, M')) : q_Met l G yX12_feed cX12_feed 6 (Option.some Jvm.ClassFile.FieldType.int) 2 0 0 [.ref l0, .int l1, .int l2, .int l3, .int l4, .int l5] M (some (.int r)) M' := by
  unfold F_X12_feed at h
  refine q_enter [some (.ref l0), some (.int l1), some (.int l2), some (.int l3), some (.int l4), some (.int l5)] (by decide) (Nat.le_of_ble_eq_true rfl) rfl (fun K C => ?_)
  refine q_aload_n C dX12_feed_0 rfl ?_
  refine x_iconst (v := (0 : Int32)) C dX12_feed_1 (by decide) ?_
  refine x_putI (ci := 12) (j := 0) C dX12_feed_2 lkF_X12_92 (fun r hr => by cases hr; rfl) rfl h (fun M1 h => ?_)
  refine q_aload_n C dX12_feed_5 rfl ?_
  refine x_getI (ci := 12) (j := 6) C dX12_feed_6 lkF_X12_105 rfl h (fun v2 h => ?_)
  refine q_iload_n C dX12_feed_9 rfl ?_
  obtain ⟨u3, e1, h⟩ := q_bind h
  refine x_callS0 C dX12_feed_10 lkM_X12_107 mS_X12_bytesIn (c_X12_bytesIn _ _ _ _ e1) rfl rfl (Nat.le_of_ble_eq_true rfl) (by decide) (by decide) ?_
  refine q_iadd C dX12_feed_13 ?_
  refine q_iload_n C dX12_feed_14 rfl ?_
  obtain ⟨u4, e1, h⟩ := q_bind h
  refine x_callS0 C dX12_feed_15 lkM_X12_107 mS_X12_bytesIn (c_X12_bytesIn _ _ _ _ e1) rfl rfl (Nat.le_of_ble_eq_true rfl) (by decide) (by decide) ?_
  refine q_iadd C dX12_feed_18 ?_
  refine q_iload_n C dX12_feed_19 rfl ?_
  obtain ⟨u5, e1, h⟩ := q_bind h
  refine x_callS0 C dX12_feed_20 lkM_X12_107 mS_X12_bytesIn (c_X12_bytesIn _ _ _ _ e1) rfl rfl (Nat.le_of_ble_eq_true rfl) (by decide) (by decide) ?_
  refine q_iadd C dX12_feed_23 ?_
  refine q_iload C dX12_feed_24 rfl ?_
  obtain ⟨u6, e1, h⟩ := q_bind h
  refine x_callS0 C dX12_feed_26 lkM_X12_107 mS_X12_bytesIn (c_X12_bytesIn _ _ _ _ e1) rfl rfl (Nat.le_of_ble_eq_true rfl) (by decide) (by decide) ?_
  refine q_iadd C dX12_feed_29 ?_
  refine q_iload C dX12_feed_30 rfl ?_
  obtain ⟨u7, e1, h⟩ := q_bind h
  refine x_callS0 C dX12_feed_32 lkM_X12_107 mS_X12_bytesIn (c_X12_bytesIn _ _ _ _ e1) rfl rfl (Nat.le_of_ble_eq_true rfl) (by decide) (by decide) ?_
  refine q_iadd C dX12_feed_35 ?_
  refine x_sipush (v := (240 : Int32)) C dX12_feed_36 (by decide) ?_
  refine q_icmp_le (tgt := 44) C dX12_feed_39 (by decide) h (fun _ h => ?_) (fun _ h => ?_)
  · refine x_iconst (v := (-1 : Int32)) C dX12_feed_42 (by decide) ?_
    exact q_iret C dX12_feed_43 rfl (by decide) (by decide) (Option.some.inj h)
  · refine q_aload_n C dX12_feed_44 rfl ?_
    refine q_iload_n C dX12_feed_45 rfl ?_
    obtain ⟨hk, h⟩ := q_obE h
    obtain ⟨⟨_, M9⟩, e1, h⟩ := q_bind h
    refine x_callVv0 C dX12_feed_46 lkM_X12_111 mV_X12_put ⟨_, rfl, rfl⟩ hk (c_X12_put _ _ _ _ _ e1) rfl rfl (Nat.le_of_ble_eq_true rfl) (by decide) (by decide) ?_
    refine q_aload_n C dX12_feed_49 rfl ?_
    refine q_iload_n C dX12_feed_50 rfl ?_
    obtain ⟨hk, h⟩ := q_obE h
    obtain ⟨⟨_, M11⟩, e1, h⟩ := q_bind h
    refine x_callVv0 C dX12_feed_51 lkM_X12_111 mV_X12_put ⟨_, rfl, rfl⟩ hk (c_X12_put _ _ _ _ _ e1) rfl rfl (Nat.le_of_ble_eq_true rfl) (by decide) (by decide) ?_
    refine q_aload_n C dX12_feed_54 rfl ?_
    refine q_iload_n C dX12_feed_55 rfl ?_
    obtain ⟨hk, h⟩ := q_obE h
    obtain ⟨⟨_, M13⟩, e1, h⟩ := q_bind h
    refine x_callVv0 C dX12_feed_56 lkM_X12_111 mV_X12_put ⟨_, rfl, rfl⟩ hk (c_X12_put _ _ _ _ _ e1) rfl rfl (Nat.le_of_ble_eq_true rfl) (by decide) (by decide) ?_
    refine q_aload_n C dX12_feed_59 rfl ?_
    refine q_iload C dX12_feed_60 rfl ?_
    obtain ⟨hk, h⟩ := q_obE h
    obtain ⟨⟨_, M15⟩, e1, h⟩ := q_bind h
    refine x_callVv0 C dX12_feed_62 lkM_X12_111 mV_X12_put ⟨_, rfl, rfl⟩ hk (c_X12_put _ _ _ _ _ e1) rfl rfl (Nat.le_of_ble_eq_true rfl) (by decide) (by decide) ?_
    refine q_aload_n C dX12_feed_65 rfl ?_
    refine q_iload C dX12_feed_66 rfl ?_
    obtain ⟨hk, h⟩ := q_obE h
    obtain ⟨⟨_, M17⟩, e1, h⟩ := q_bind h
    refine x_callVv0 C dX12_feed_68 lkM_X12_111 mV_X12_put ⟨_, rfl, rfl⟩ hk (c_X12_put _ _ _ _ _ e1) rfl rfl (Nat.le_of_ble_eq_true rfl) (by decide) (by decide) ?_
    refine q_aload_n C dX12_feed_71 rfl ?_
    refine x_getI (ci := 12) (j := 6) C dX12_feed_72 lkF_X12_105 rfl h (fun v18 h => ?_)
    exact q_iret C dX12_feed_75 rfl (by decide) (by decide) (Option.some.inj h)
noncomputable def F_X12_end (l0 : Nat) (l1 : Int32) (M : q_Mem) : Option (Int32 × q_Mem) := (q_pI M l0 12 0 (0 : Int32) (fun M1 => (if l1 < 0 then q_rz (0 : Int32) M1 else (q_gI M1 l0 12 6 (fun v2 => (if v2 < l1 then q_rz (0 : Int32) M1 else (q_pI M1 l0 12 6 l1 (fun M3 => q_rz (1 : Int32) M3))))))))
set_option maxRecDepth 100000 in
set_option maxHeartbeats 4000000 in
theorem c_X12_end (l : Launch) (G : q_G) (l0 : Nat) (l1 : Int32) (M : q_Mem) {r : Int32} {M' : q_Mem} (h : F_X12_end l0 l1 M = some (r, M')) : q_Met l G yX12_end cX12_end 2 (Option.some Jvm.ClassFile.FieldType.boolean) 1 0 0 [.ref l0, .int l1] M (some (.int r)) M' := by
  unfold F_X12_end at h
  refine q_enter [some (.ref l0), some (.int l1)] (by decide) (Nat.le_of_ble_eq_true rfl) rfl (fun K C => ?_)
  refine q_aload_n C dX12_end_0 rfl ?_
  refine x_iconst (v := (0 : Int32)) C dX12_end_1 (by decide) ?_
  refine x_putI (ci := 12) (j := 0) C dX12_end_2 lkF_X12_92 (fun r hr => by cases hr; rfl) rfl h (fun M1 h => ?_)
  refine q_iload_n C dX12_end_5 rfl ?_
  refine q_if_lt (tgt := 17) C dX12_end_6 (by decide) h (fun _ h => ?_) (fun _ h => ?_)
  · refine x_iconst (v := (0 : Int32)) C dX12_end_17 (by decide) ?_
    exact q_zret C dX12_end_18 rfl (by decide) (by decide) (q_rzE h).1 (q_rzE h).2
  · refine q_iload_n C dX12_end_9 rfl ?_
    refine q_aload_n C dX12_end_10 rfl ?_
    refine x_getI (ci := 12) (j := 6) C dX12_end_11 lkF_X12_105 rfl h (fun v2 h => ?_)
    refine q_icmp_le (tgt := 19) C dX12_end_14 (by decide) h (fun _ h => ?_) (fun _ h => ?_)
    · refine x_iconst (v := (0 : Int32)) C dX12_end_17 (by decide) ?_
      exact q_zret C dX12_end_18 rfl (by decide) (by decide) (q_rzE h).1 (q_rzE h).2
    · refine q_aload_n C dX12_end_19 rfl ?_
      refine q_iload_n C dX12_end_20 rfl ?_
      refine x_putI (ci := 12) (j := 6) C dX12_end_21 lkF_X12_105 (fun r hr => by cases hr; rfl) rfl h (fun M3 h => ?_)
      refine x_iconst (v := (1 : Int32)) C dX12_end_24 (by decide) ?_
      exact q_zret C dX12_end_25 rfl (by decide) (by decide) (q_rzE h).1 (q_rzE h).2
noncomputable def F_X12_isIn (l0 : Int64) (l2 : Int64) (l4 : Int64) (M : q_Mem) : Option (Int32) := (if (lg_cmp l0 l2) < 0 then q_rq (0 : Int32) else (if 0 < (lg_cmp l0 l4) then q_rq (0 : Int32) else q_rq (1 : Int32)))
set_option maxRecDepth 100000 in
set_option maxHeartbeats 4000000 in
theorem c_X12_isIn (l : Launch) (G : q_G) (l0 : Int64) (l2 : Int64) (l4 : Int64) (M : q_Mem) {r : Int32} (h : F_X12_isIn l0 l2 l4 M = some r) : q_Met l G yX12_isIn cX12_isIn 6 (Option.some Jvm.ClassFile.FieldType.boolean) 1 0 0 [.long l0, .long l2, .long l4] M (some (.int r)) M := by
  unfold F_X12_isIn at h
  refine q_enter [some (.long l0), none, some (.long l2), none, some (.long l4), none] (by decide) (Nat.le_of_ble_eq_true rfl) rfl (fun K C => ?_)
  refine q_lload_n C dX12_isIn_0 rfl ?_
  refine q_lload_n C dX12_isIn_1 rfl ?_
  refine q_lcmp C dX12_isIn_2 ?_
  refine q_if_lt (tgt := 17) C dX12_isIn_3 (by decide) h (fun _ h => ?_) (fun _ h => ?_)
  · refine x_iconst (v := (0 : Int32)) C dX12_isIn_17 (by decide) ?_
    exact q_zret (res := (r, M)) C dX12_isIn_18 rfl (by decide) (by decide) (q_rqE h).1 (congrArg (fun z => (z, M)) (q_rqE h).2)
  · refine q_lload_n C dX12_isIn_6 rfl ?_
    refine q_lload C dX12_isIn_7 rfl ?_
    refine q_lcmp C dX12_isIn_9 ?_
    refine q_if_gt (tgt := 17) C dX12_isIn_10 (by decide) h (fun _ h => ?_) (fun _ h => ?_)
    · refine x_iconst (v := (0 : Int32)) C dX12_isIn_17 (by decide) ?_
      exact q_zret (res := (r, M)) C dX12_isIn_18 rfl (by decide) (by decide) (q_rqE h).1 (congrArg (fun z => (z, M)) (q_rqE h).2)
    · refine x_iconst (v := (1 : Int32)) C dX12_isIn_13 (by decide) ?_
      refine q_goto (tgt := 18) C dX12_isIn_14 (by decide) ?_
      exact q_zret (res := (r, M)) C dX12_isIn_18 rfl (by decide) (by decide) (q_rqE h).1 (congrArg (fun z => (z, M)) (q_rqE h).2)
noncomputable def F_X12_starts (l0 : Nat) (l1 : Nat) (l2 : Int32) (l3 : Int32) (M : q_Mem) : Option (Unit × q_Mem) := (q_pR M l0 12 5 (l1 + 1) (fun M1 => (q_pI M1 l0 12 8 l2 (fun M2 => (q_pI M2 l0 12 9 l3 (fun M3 => (q_pI M3 l0 12 10 (0 : Int32) (fun M4 => (q_pI M4 l0 12 11 (-1 : Int32) (fun M5 => some ((), M5)))))))))))
set_option maxRecDepth 100000 in
set_option maxHeartbeats 4000000 in
theorem c_X12_starts (l : Launch) (G : q_G) (l0 : Nat) (l1 : Nat) (l2 : Int32) (l3 : Int32) (M : q_Mem) {r : Unit} {M' : q_Mem} (h : F_X12_starts l0 l1 l2 l3 M = some (r, M')) : q_Met l G yX12_starts cX12_starts 4 (Option.none : Option Jvm.ClassFile.FieldType) 1 0 0 [.ref l0, .ref l1, .int l2, .int l3] M none M' := by
  unfold F_X12_starts at h
  refine q_enter [some (.ref l0), some (.ref l1), some (.int l2), some (.int l3)] (by decide) (Nat.le_of_ble_eq_true rfl) rfl (fun K C => ?_)
  refine q_aload_n C dX12_starts_0 rfl ?_
  refine q_aload_n C dX12_starts_1 rfl ?_
  refine x_putR (ci := 12) (j := 5) (l1 + 1) C dX12_starts_2 lkF_X12_23 (fun r hr => by cases hr; exact Or.inl rfl) (Or.inr ⟨_, rfl⟩) rfl h (fun M1 h => ?_)
  refine q_aload_n C dX12_starts_5 rfl ?_
  refine q_iload_n C dX12_starts_6 rfl ?_
  refine x_putI (ci := 12) (j := 8) C dX12_starts_7 lkF_X12_121 (fun r hr => by cases hr; rfl) rfl h (fun M2 h => ?_)
  refine q_aload_n C dX12_starts_10 rfl ?_
  refine q_iload_n C dX12_starts_11 rfl ?_
  refine x_putI (ci := 12) (j := 9) C dX12_starts_12 lkF_X12_118 (fun r hr => by cases hr; rfl) rfl h (fun M3 h => ?_)
  refine q_aload_n C dX12_starts_15 rfl ?_
  refine x_iconst (v := (0 : Int32)) C dX12_starts_16 (by decide) ?_
  refine x_putI (ci := 12) (j := 10) C dX12_starts_17 lkF_X12_115 (fun r hr => by cases hr; rfl) rfl h (fun M4 h => ?_)
  refine q_aload_n C dX12_starts_20 rfl ?_
  refine x_iconst (v := (-1 : Int32)) C dX12_starts_21 (by decide) ?_
  refine x_putI (ci := 12) (j := 11) C dX12_starts_22 lkF_X12_124 (fun r hr => by cases hr; rfl) rfl h (fun M5 h => ?_)
  exact q_vret C dX12_starts_25 rfl (by decide) (by decide) (Option.some.inj h)
noncomputable def F_X12_usual (l0 : Int32) (l1 : Int32) (M : q_Mem) : Option (Int32) := (if l0 = (115 : Int32) then (if l1 = 0 then some (1 : Int32) else (if l1 = (1 : Int32) then some (3 : Int32) else some (20 : Int32))) else (if l0 = (100 : Int32) then (if l1 = 0 then some (12 : Int32) else (if l1 = (1 : Int32) then some (2 : Int32) else some (0 : Int32))) else (if l1 = (1 : Int32) then some (7 : Int32) else (if l1 = (3 : Int32) then some (3 : Int32) else some (0 : Int32)))))
set_option maxRecDepth 100000 in
set_option maxHeartbeats 4000000 in
theorem c_X12_usual (l : Launch) (G : q_G) (l0 : Int32) (l1 : Int32) (M : q_Mem) {r : Int32} (h : F_X12_usual l0 l1 M = some r) : q_Met l G yX12_usual cX12_usual 2 (Option.some Jvm.ClassFile.FieldType.int) 1 0 0 [.int l0, .int l1] M (some (.int r)) M := by
  unfold F_X12_usual at h
  refine q_enter [some (.int l0), some (.int l1)] (by decide) (Nat.le_of_ble_eq_true rfl) rfl (fun K C => ?_)
  refine q_iload_n C dX12_usual_0 rfl ?_
  refine x_bipush (v := (115 : Int32)) C dX12_usual_1 (by decide) ?_
  refine q_icmp_ne (tgt := 26) C dX12_usual_3 (by decide) h (fun _ h => ?_) (fun _ h => ?_)
  · refine q_iload_n C dX12_usual_6 rfl ?_
    refine q_if_ne (tgt := 14) C dX12_usual_7 (by decide) h (fun _ h => ?_) (fun _ h => ?_)
    · refine x_iconst (v := (1 : Int32)) C dX12_usual_10 (by decide) ?_
      refine q_goto (tgt := 25) C dX12_usual_11 (by decide) ?_
      exact q_iret (res := (r, M)) C dX12_usual_25 rfl (by decide) (by decide) (congrArg (fun z => (z, M)) (Option.some.inj h))
    · refine q_iload_n C dX12_usual_14 rfl ?_
      refine x_iconst (v := (1 : Int32)) C dX12_usual_15 (by decide) ?_
      refine q_icmp_ne (tgt := 23) C dX12_usual_16 (by decide) h (fun _ h => ?_) (fun _ h => ?_)
      · refine x_iconst (v := (3 : Int32)) C dX12_usual_19 (by decide) ?_
        refine q_goto (tgt := 25) C dX12_usual_20 (by decide) ?_
        exact q_iret (res := (r, M)) C dX12_usual_25 rfl (by decide) (by decide) (congrArg (fun z => (z, M)) (Option.some.inj h))
      · refine x_bipush (v := (20 : Int32)) C dX12_usual_23 (by decide) ?_
        exact q_iret (res := (r, M)) C dX12_usual_25 rfl (by decide) (by decide) (congrArg (fun z => (z, M)) (Option.some.inj h))
  · refine q_iload_n C dX12_usual_26 rfl ?_
    refine x_bipush (v := (100 : Int32)) C dX12_usual_27 (by decide) ?_
    refine q_icmp_ne (tgt := 52) C dX12_usual_29 (by decide) h (fun _ h => ?_) (fun _ h => ?_)
    · refine q_iload_n C dX12_usual_32 rfl ?_
      refine q_if_ne (tgt := 41) C dX12_usual_33 (by decide) h (fun _ h => ?_) (fun _ h => ?_)
      · refine x_bipush (v := (12 : Int32)) C dX12_usual_36 (by decide) ?_
        refine q_goto (tgt := 51) C dX12_usual_38 (by decide) ?_
        exact q_iret (res := (r, M)) C dX12_usual_51 rfl (by decide) (by decide) (congrArg (fun z => (z, M)) (Option.some.inj h))
      · refine q_iload_n C dX12_usual_41 rfl ?_
        refine x_iconst (v := (1 : Int32)) C dX12_usual_42 (by decide) ?_
        refine q_icmp_ne (tgt := 50) C dX12_usual_43 (by decide) h (fun _ h => ?_) (fun _ h => ?_)
        · refine x_iconst (v := (2 : Int32)) C dX12_usual_46 (by decide) ?_
          refine q_goto (tgt := 51) C dX12_usual_47 (by decide) ?_
          exact q_iret (res := (r, M)) C dX12_usual_51 rfl (by decide) (by decide) (congrArg (fun z => (z, M)) (Option.some.inj h))
        · refine x_iconst (v := (0 : Int32)) C dX12_usual_50 (by decide) ?_
          exact q_iret (res := (r, M)) C dX12_usual_51 rfl (by decide) (by decide) (congrArg (fun z => (z, M)) (Option.some.inj h))
    · refine q_iload_n C dX12_usual_52 rfl ?_
      refine x_iconst (v := (1 : Int32)) C dX12_usual_53 (by decide) ?_
      refine q_icmp_ne (tgt := 62) C dX12_usual_54 (by decide) h (fun _ h => ?_) (fun _ h => ?_)
      · refine x_bipush (v := (7 : Int32)) C dX12_usual_57 (by decide) ?_
        refine q_goto (tgt := 72) C dX12_usual_59 (by decide) ?_
        exact q_iret (res := (r, M)) C dX12_usual_72 rfl (by decide) (by decide) (congrArg (fun z => (z, M)) (Option.some.inj h))
      · refine q_iload_n C dX12_usual_62 rfl ?_
        refine x_iconst (v := (3 : Int32)) C dX12_usual_63 (by decide) ?_
        refine q_icmp_ne (tgt := 71) C dX12_usual_64 (by decide) h (fun _ h => ?_) (fun _ h => ?_)
        · refine x_iconst (v := (3 : Int32)) C dX12_usual_67 (by decide) ?_
          refine q_goto (tgt := 72) C dX12_usual_68 (by decide) ?_
          exact q_iret (res := (r, M)) C dX12_usual_72 rfl (by decide) (by decide) (congrArg (fun z => (z, M)) (Option.some.inj h))
        · refine x_iconst (v := (0 : Int32)) C dX12_usual_71 (by decide) ?_
          exact q_iret (res := (r, M)) C dX12_usual_72 rfl (by decide) (by decide) (congrArg (fun z => (z, M)) (Option.some.inj h))
noncomputable def B_X12_look_0 (l0 : Nat) (M : q_Mem) : Option ((q_Mem) ⊕ (q_Mem)) := (q_gI M l0 12 10 (fun v1 => (q_gI M l0 12 9 (fun v2 => (if v1 < v2 then (q_gR M l0 12 5 (fun c3 => q_nn c3 (fun r4 => (q_gI M l0 12 8 (fun v5 => (q_gI M l0 12 10 (fun v6 => (q_lI M 1 r4 (v5 + v6) (fun v7 => (if v7 = (32 : Int32) then (q_gI M l0 12 10 (fun v8 => (q_pI M l0 12 10 (v8 + (1 : Int32)) (fun M9 => some (.inl M9))))) else some (.inr M))))))))))) else some (.inr M))))))
set_option maxRecDepth 100000 in
set_option maxHeartbeats 4000000 in
theorem bW_X12_look_0 {K : q_K} {Q : State → Prop} (C : q_C K yX12_look cX12_look 1 (Option.some Jvm.ClassFile.FieldType.int) 1 0 0) (l0 : Nat) (M : q_Mem) {stp : (q_Mem) ⊕ (q_Mem)} (h : B_X12_look_0 l0 M = some stp) (kC : ∀ (M : q_Mem), stp = .inl M → q_W K 1 Q 0 0 M 0 [some (.ref l0)] []) (kE0 : ∀ (M : q_Mem), stp = .inr M → q_W K 1 Q 0 0 M 43 [some (.ref l0)] []) : q_W K 1 Q 0 0 M 0 [some (.ref l0)] [] := by
  unfold B_X12_look_0 at h
  refine q_aload_n C dX12_look_0 rfl ?_
  refine x_getI (ci := 12) (j := 10) C dX12_look_1 lkF_X12_115 rfl h (fun v1 h => ?_)
  refine q_aload_n C dX12_look_4 rfl ?_
  refine x_getI (ci := 12) (j := 9) C dX12_look_5 lkF_X12_118 rfl h (fun v2 h => ?_)
  refine q_icmp_ge (tgt := 43) C dX12_look_8 (by decide) h (fun _ h => ?_) (fun _ h => ?_)
  · refine q_aload_n C dX12_look_11 rfl ?_
    refine x_getR (ci := 12) (j := 5) C dX12_look_12 lkF_X12_23 rfl h (fun c3 h => ?_)
    refine x_nn h (fun r4 h => ?_)
    refine q_aload_n C dX12_look_15 rfl ?_
    refine x_getI (ci := 12) (j := 8) C dX12_look_16 lkF_X12_121 rfl h (fun v5 h => ?_)
    refine q_aload_n C dX12_look_19 rfl ?_
    refine x_getI (ci := 12) (j := 10) C dX12_look_20 lkF_X12_115 rfl h (fun v6 h => ?_)
    refine q_iadd C dX12_look_23 ?_
    refine x_bald C dX12_look_24 h (fun v7 h => ?_)
    refine x_bipush (v := (32 : Int32)) C dX12_look_25 (by decide) ?_
    refine q_icmp_ne (tgt := 43) C dX12_look_27 (by decide) h (fun _ h => ?_) (fun _ h => ?_)
    · refine q_aload_n C dX12_look_30 rfl ?_
      refine q_dup C dX12_look_31 rfl ?_
      refine x_getI (ci := 12) (j := 10) C dX12_look_32 lkF_X12_115 rfl h (fun v8 h => ?_)
      refine x_iconst (v := (1 : Int32)) C dX12_look_35 (by decide) ?_
      refine q_iadd C dX12_look_36 ?_
      refine x_putI (ci := 12) (j := 10) C dX12_look_37 lkF_X12_115 (fun r hr => by cases hr; rfl) rfl h (fun M9 h => ?_)
      refine q_goto (tgt := 0) C dX12_look_40 (by decide) ?_
      exact q_msk [true] (kC _ (Option.some.inj h).symm)
    · exact q_msk [true] (kE0 _ (Option.some.inj h).symm)
  · exact q_msk [true] (kE0 _ (Option.some.inj h).symm)
set_option maxRecDepth 100000 in
set_option maxHeartbeats 4000000 in
theorem lW_X12_look_0 {K : q_K} {Q : State → Prop} (C : q_C K yX12_look cX12_look 1 (Option.some Jvm.ClassFile.FieldType.int) 1 0 0) (l0 : Nat) (n : Nat) : ∀ (M : q_Mem) (e : (q_Mem)), q_lp (fun s => B_X12_look_0 l0 s) n M = some e → (∀ (M : q_Mem), e = M → q_W K 1 Q 0 0 M 43 [some (.ref l0)] []) → q_W K 1 Q 0 0 M 0 [some (.ref l0)] [] := by
  induction n with
  | zero => intro M e h; cases h
  | succ n ih =>
    intro M e h kE0
    obtain ⟨stp, e1, e2⟩ := q_bind h
    refine bW_X12_look_0 C l0 M e1 (fun a0 hs => ?_) (fun b0 hs => ?_)
    · subst hs; exact ih _ _ e2 kE0
    · subst hs; exact kE0 _ (Option.some.inj e2).symm
noncomputable def F_X12_look (l0 : Nat) (M : q_Mem) : Option (Int32 × q_Mem) := (q_lp (fun s => B_X12_look_0 l0 s) q_fu M).bind (fun e10 => match e10 with | M11 => (q_gI M11 l0 12 10 (fun v12 => (q_gI M11 l0 12 9 (fun v13 => (if v12 < v13 then (q_gR M11 l0 12 5 (fun c14 => q_nn c14 (fun r15 => (q_gI M11 l0 12 8 (fun v16 => (q_gI M11 l0 12 10 (fun v17 => (q_lI M11 1 r15 (v16 + v17) (fun v18 => some ((v18 &&& (255 : Int32)), M11)))))))))) else some ((-1 : Int32), M11)))))))
set_option maxRecDepth 100000 in
set_option maxHeartbeats 4000000 in
theorem c_X12_look (l : Launch) (G : q_G) (l0 : Nat) (M : q_Mem) {r : Int32} {M' : q_Mem} (h : F_X12_look l0 M = some (r, M')) : q_Met l G yX12_look cX12_look 1 (Option.some Jvm.ClassFile.FieldType.int) 1 0 0 [.ref l0] M (some (.int r)) M' := by
  unfold F_X12_look at h
  refine q_enter [some (.ref l0)] (by decide) (Nat.le_of_ble_eq_true rfl) rfl (fun K C => ?_)
  obtain ⟨e10, he, h⟩ := q_bind h
  refine q_msk [true] (lW_X12_look_0 C l0 q_fu _ _ he (fun M11 hs => ?_))
  · have hs := hs.symm
    subst hs
    refine q_aload_n C dX12_look_43 rfl ?_
    refine x_getI (ci := 12) (j := 10) C dX12_look_44 lkF_X12_115 rfl h (fun v12 h => ?_)
    refine q_aload_n C dX12_look_47 rfl ?_
    refine x_getI (ci := 12) (j := 9) C dX12_look_48 lkF_X12_118 rfl h (fun v13 h => ?_)
    refine q_icmp_ge (tgt := 75) C dX12_look_51 (by decide) h (fun _ h => ?_) (fun _ h => ?_)
    · refine q_aload_n C dX12_look_54 rfl ?_
      refine x_getR (ci := 12) (j := 5) C dX12_look_55 lkF_X12_23 rfl h (fun c14 h => ?_)
      refine x_nn h (fun r15 h => ?_)
      refine q_aload_n C dX12_look_58 rfl ?_
      refine x_getI (ci := 12) (j := 8) C dX12_look_59 lkF_X12_121 rfl h (fun v16 h => ?_)
      refine q_aload_n C dX12_look_62 rfl ?_
      refine x_getI (ci := 12) (j := 10) C dX12_look_63 lkF_X12_115 rfl h (fun v17 h => ?_)
      refine q_iadd C dX12_look_66 ?_
      refine x_bald C dX12_look_67 h (fun v18 h => ?_)
      refine x_sipush (v := (255 : Int32)) C dX12_look_68 (by decide) ?_
      refine q_iand C dX12_look_71 ?_
      refine q_goto (tgt := 76) C dX12_look_72 (by decide) ?_
      exact q_iret C dX12_look_76 rfl (by decide) (by decide) (Option.some.inj h)
    · refine x_iconst (v := (-1 : Int32)) C dX12_look_75 (by decide) ?_
      exact q_iret C dX12_look_76 rfl (by decide) (by decide) (Option.some.inj h)
noncomputable def F_X12_fails (l0 : Nat) (M : q_Mem) : Option (Int32 × q_Mem) := (q_gI M l0 12 11 (fun v1 => (if v1 = (-1 : Int32) then (q_gI M l0 12 10 (fun v2 => (q_pI M l0 12 11 v2 (fun M3 => q_rz (0 : Int32) M3)))) else q_rz (0 : Int32) M)))
set_option maxRecDepth 100000 in
set_option maxHeartbeats 4000000 in
theorem c_X12_fails (l : Launch) (G : q_G) (l0 : Nat) (M : q_Mem) {r : Int32} {M' : q_Mem} (h : F_X12_fails l0 M = some (r, M')) : q_Met l G yX12_fails cX12_fails 1 (Option.some Jvm.ClassFile.FieldType.boolean) 1 0 0 [.ref l0] M (some (.int r)) M' := by
  unfold F_X12_fails at h
  refine q_enter [some (.ref l0)] (by decide) (Nat.le_of_ble_eq_true rfl) rfl (fun K C => ?_)
  refine q_aload_n C dX12_fails_0 rfl ?_
  refine x_getI (ci := 12) (j := 11) C dX12_fails_1 lkF_X12_124 rfl h (fun v1 h => ?_)
  refine x_iconst (v := (-1 : Int32)) C dX12_fails_4 (by decide) ?_
  refine q_icmp_ne (tgt := 16) C dX12_fails_5 (by decide) h (fun _ h => ?_) (fun _ h => ?_)
  · refine q_aload_n C dX12_fails_8 rfl ?_
    refine q_aload_n C dX12_fails_9 rfl ?_
    refine x_getI (ci := 12) (j := 10) C dX12_fails_10 lkF_X12_115 rfl h (fun v2 h => ?_)
    refine x_putI (ci := 12) (j := 11) C dX12_fails_13 lkF_X12_124 (fun r hr => by cases hr; rfl) rfl h (fun M3 h => ?_)
    refine x_iconst (v := (0 : Int32)) C dX12_fails_16 (by decide) ?_
    exact q_zret C dX12_fails_17 rfl (by decide) (by decide) (q_rzE h).1 (q_rzE h).2
  · refine x_iconst (v := (0 : Int32)) C dX12_fails_16 (by decide) ?_
    exact q_zret C dX12_fails_17 rfl (by decide) (by decide) (q_rzE h).1 (q_rzE h).2
noncomputable def B_X12_spotOf_2 (l0 : Nat) (l1 : Int32) (l2 : Int32) (M : q_Mem) : Option ((Int32 × q_Mem) ⊕ ((Int32 × q_Mem) ⊕ (q_Mem))) := (q_ob M l0 14 ((F_J0_length_8abf5 l0 M).bind (fun u1 => (if l2 < u1 then (q_ob M l0 14 ((F_J0_charAt_5068e l0 l2 M).bind (fun x => match x with | (u2, M3) => (if u2 = l1 then some (.inr (.inl (l2, M3))) else some (.inl ((l2 + (1 : Int32)), M3)))))) else some (.inr (.inr M))))))
set_option maxRecDepth 100000 in
set_option maxHeartbeats 4000000 in
theorem bW_X12_spotOf_2 {K : q_K} {Q : State → Prop} (C : q_C K yX12_spotOf cX12_spotOf 3 (Option.some Jvm.ClassFile.FieldType.int) 7 1 0) (l0 : Nat) (l1 : Int32) (l2 : Int32) (M : q_Mem) {stp : (Int32 × q_Mem) ⊕ ((Int32 × q_Mem) ⊕ (q_Mem))} (h : B_X12_spotOf_2 l0 l1 l2 M = some stp) (kC : ∀ (l2 : Int32) (M : q_Mem), stp = .inl (l2, M) → q_W K 3 Q 0 0 M 2 [some (.ref l0), some (.int l1), some (.int l2)] []) (kE0 : ∀ (l2 : Int32) (M : q_Mem), stp = .inr (.inl (l2, M)) → q_W K 3 Q 0 0 M 19 [none, none, some (.int l2)] []) (kE1 : ∀ (M : q_Mem), stp = .inr (.inr M) → q_W K 3 Q 0 0 M 27 [none, none, none] []) : q_W K 3 Q 0 0 M 2 [some (.ref l0), some (.int l1), some (.int l2)] [] := by
  unfold B_X12_spotOf_2 at h
  refine q_iload_n C dX12_spotOf_2 rfl ?_
  refine q_aload_n C dX12_spotOf_3 rfl ?_
  obtain ⟨hk, h⟩ := q_obE h
  obtain ⟨u1, e1, h⟩ := q_bind h
  refine x_callT C dX12_spotOf_4 wd_1405 mV_J0_length_8abf5 rfl hk (c_J0_length_8abf5 _ _ _ _ e1) rfl rfl (Nat.le_of_ble_eq_true rfl) (by decide) (by decide) ?_
  refine q_icmp_ge (tgt := 27) C dX12_spotOf_7 (by decide) h (fun _ h => ?_) (fun _ h => ?_)
  · refine q_aload_n C dX12_spotOf_10 rfl ?_
    refine q_iload_n C dX12_spotOf_11 rfl ?_
    obtain ⟨hk, h⟩ := q_obE h
    obtain ⟨⟨u2, M3⟩, e1, h⟩ := q_bind h
    refine x_callT C dX12_spotOf_12 wd_1409 mV_J0_charAt_5068e rfl hk (c_J0_charAt_5068e _ _ _ _ _ e1) rfl rfl (Nat.le_of_ble_eq_true rfl) (by decide) (by decide) ?_
    refine q_iload_n C dX12_spotOf_15 rfl ?_
    refine q_icmp_ne (tgt := 21) C dX12_spotOf_16 (by decide) h (fun _ h => ?_) (fun _ h => ?_)
    · exact q_msk [false, false, true] (kE0 _ _ (Option.some.inj h).symm)
    · refine x_iinc (w := (1 : Int32)) (L' := [some (.ref l0), some (.int l1), some (.int (l2 + (1 : Int32)))]) C dX12_spotOf_21 rfl (by decide) (by decide) rfl rfl ?_
      refine q_goto (tgt := 2) C dX12_spotOf_24 (by decide) ?_
      exact q_msk [true, true, true] (kC _ _ (Option.some.inj h).symm)
  · exact q_msk [false, false, false] (kE1 _ (Option.some.inj h).symm)
set_option maxRecDepth 100000 in
set_option maxHeartbeats 4000000 in
theorem lW_X12_spotOf_2 {K : q_K} {Q : State → Prop} (C : q_C K yX12_spotOf cX12_spotOf 3 (Option.some Jvm.ClassFile.FieldType.int) 7 1 0) (l0 : Nat) (l1 : Int32) (n : Nat) : ∀ (l2 : Int32) (M : q_Mem) (e : ((Int32 × q_Mem) ⊕ (q_Mem))), q_lp (fun s => B_X12_spotOf_2 l0 l1 s.1 s.2) n (l2, M) = some e → (∀ (l2 : Int32) (M : q_Mem), e = (.inl (l2, M)) → q_W K 3 Q 0 0 M 19 [none, none, some (.int l2)] []) → (∀ (M : q_Mem), e = (.inr M) → q_W K 3 Q 0 0 M 27 [none, none, none] []) → q_W K 3 Q 0 0 M 2 [some (.ref l0), some (.int l1), some (.int l2)] [] := by
  induction n with
  | zero => intro l2 M e h; cases h
  | succ n ih =>
    intro l2 M e h kE0 kE1
    obtain ⟨stp, e1, e2⟩ := q_bind h
    refine bW_X12_spotOf_2 C l0 l1 l2 M e1 (fun a0 a1 hs => ?_) (fun b0 b1 hs => ?_) (fun b0 hs => ?_)
    · subst hs; exact ih _ _ _ e2 kE0 kE1
    · subst hs; exact kE0 _ _ (Option.some.inj e2).symm
    · subst hs; exact kE1 _ (Option.some.inj e2).symm
noncomputable def F_X12_spotOf (l0 : Nat) (l1 : Int32) (M : q_Mem) : Option (Int32 × q_Mem) := (q_lp (fun s => B_X12_spotOf_2 l0 l1 s.1 s.2) q_fu ((0 : Int32), M)).bind (fun e4 => match e4 with | .inl (w5, M6) => some (w5, M6) | .inr M7 => some ((-1 : Int32), M7))
set_option maxRecDepth 100000 in
set_option maxHeartbeats 4000000 in
theorem c_X12_spotOf (l : Launch) (G : q_G) (l0 : Nat) (l1 : Int32) (M : q_Mem) {r : Int32} {M' : q_Mem} (h : F_X12_spotOf l0 l1 M = some (r, M')) : q_Met l G yX12_spotOf cX12_spotOf 3 (Option.some Jvm.ClassFile.FieldType.int) 7 1 0 [.ref l0, .int l1] M (some (.int r)) M' := by
  unfold F_X12_spotOf at h
  refine q_enter [some (.ref l0), some (.int l1), none] (by decide) (Nat.le_of_ble_eq_true rfl) rfl (fun K C => ?_)
  refine x_iconst (v := (0 : Int32)) C dX12_spotOf_0 (by decide) ?_
  refine q_istore_n (L' := [some (.ref l0), some (.int l1), some (.int (0 : Int32))]) C dX12_spotOf_1 (by decide) rfl rfl ?_
  obtain ⟨e4, he, h⟩ := q_bind h
  refine q_msk [true, true, true] (lW_X12_spotOf_2 C l0 l1 q_fu _ _ _ he (fun w5 M6 hs => ?_) (fun M7 hs => ?_))
  · have hs := hs.symm
    subst hs
    refine q_iload_n C dX12_spotOf_19 rfl ?_
    exact q_iret C dX12_spotOf_20 rfl (by decide) (by decide) (Option.some.inj h)
  · have hs := hs.symm
    subst hs
    refine x_iconst (v := (-1 : Int32)) C dX12_spotOf_27 (by decide) ?_
    exact q_iret C dX12_spotOf_28 rfl (by decide) (by decide) (Option.some.inj h)
noncomputable def F_X12_has (l0 : Int32) (l1 : Int32) (M : q_Mem) : Option (Int32) := (if ((l0 >>> (l1 &&& 31)) &&& (1 : Int32)) = (1 : Int32) then q_rq (1 : Int32) else q_rq (0 : Int32))
set_option maxRecDepth 100000 in
set_option maxHeartbeats 4000000 in
theorem c_X12_has (l : Launch) (G : q_G) (l0 : Int32) (l1 : Int32) (M : q_Mem) {r : Int32} (h : F_X12_has l0 l1 M = some r) : q_Met l G yX12_has cX12_has 2 (Option.some Jvm.ClassFile.FieldType.boolean) 1 0 0 [.int l0, .int l1] M (some (.int r)) M := by
  unfold F_X12_has at h
  refine q_enter [some (.int l0), some (.int l1)] (by decide) (Nat.le_of_ble_eq_true rfl) rfl (fun K C => ?_)
  refine q_iload_n C dX12_has_0 rfl ?_
  refine q_iload_n C dX12_has_1 rfl ?_
  refine q_ishr C dX12_has_2 ?_
  refine x_iconst (v := (1 : Int32)) C dX12_has_3 (by decide) ?_
  refine q_iand C dX12_has_4 ?_
  refine x_iconst (v := (1 : Int32)) C dX12_has_5 (by decide) ?_
  refine q_icmp_ne (tgt := 13) C dX12_has_6 (by decide) h (fun _ h => ?_) (fun _ h => ?_)
  · refine x_iconst (v := (1 : Int32)) C dX12_has_9 (by decide) ?_
    refine q_goto (tgt := 14) C dX12_has_10 (by decide) ?_
    exact q_zret (res := (r, M)) C dX12_has_14 rfl (by decide) (by decide) (q_rqE h).1 (congrArg (fun z => (z, M)) (q_rqE h).2)
  · refine x_iconst (v := (0 : Int32)) C dX12_has_13 (by decide) ?_
    exact q_zret (res := (r, M)) C dX12_has_14 rfl (by decide) (by decide) (q_rqE h).1 (congrArg (fun z => (z, M)) (q_rqE h).2)
noncomputable def F_X12_mostOf (l0 : Int32) (l1 : Int32) (M : q_Mem) : Option (Int32) := (if l0 = (115 : Int32) then (if l1 = 0 then some (3 : Int32) else (if l1 = (1 : Int32) then some (9 : Int32) else some (99 : Int32))) else (if l0 = (100 : Int32) then (if l1 = 0 then some (20 : Int32) else (if l1 = (1 : Int32) then some (9 : Int32) else some (3 : Int32))) else (if l1 < (2 : Int32) then some (20 : Int32) else (if l1 = (2 : Int32) then some (3 : Int32) else some (9 : Int32)))))
set_option maxRecDepth 100000 in
set_option maxHeartbeats 4000000 in
theorem c_X12_mostOf (l : Launch) (G : q_G) (l0 : Int32) (l1 : Int32) (M : q_Mem) {r : Int32} (h : F_X12_mostOf l0 l1 M = some r) : q_Met l G yX12_mostOf cX12_mostOf 2 (Option.some Jvm.ClassFile.FieldType.int) 1 0 0 [.int l0, .int l1] M (some (.int r)) M := by
  unfold F_X12_mostOf at h
  refine q_enter [some (.int l0), some (.int l1)] (by decide) (Nat.le_of_ble_eq_true rfl) rfl (fun K C => ?_)
  refine q_iload_n C dX12_mostOf_0 rfl ?_
  refine x_bipush (v := (115 : Int32)) C dX12_mostOf_1 (by decide) ?_
  refine q_icmp_ne (tgt := 27) C dX12_mostOf_3 (by decide) h (fun _ h => ?_) (fun _ h => ?_)
  · refine q_iload_n C dX12_mostOf_6 rfl ?_
    refine q_if_ne (tgt := 14) C dX12_mostOf_7 (by decide) h (fun _ h => ?_) (fun _ h => ?_)
    · refine x_iconst (v := (3 : Int32)) C dX12_mostOf_10 (by decide) ?_
      refine q_goto (tgt := 26) C dX12_mostOf_11 (by decide) ?_
      exact q_iret (res := (r, M)) C dX12_mostOf_26 rfl (by decide) (by decide) (congrArg (fun z => (z, M)) (Option.some.inj h))
    · refine q_iload_n C dX12_mostOf_14 rfl ?_
      refine x_iconst (v := (1 : Int32)) C dX12_mostOf_15 (by decide) ?_
      refine q_icmp_ne (tgt := 24) C dX12_mostOf_16 (by decide) h (fun _ h => ?_) (fun _ h => ?_)
      · refine x_bipush (v := (9 : Int32)) C dX12_mostOf_19 (by decide) ?_
        refine q_goto (tgt := 26) C dX12_mostOf_21 (by decide) ?_
        exact q_iret (res := (r, M)) C dX12_mostOf_26 rfl (by decide) (by decide) (congrArg (fun z => (z, M)) (Option.some.inj h))
      · refine x_bipush (v := (99 : Int32)) C dX12_mostOf_24 (by decide) ?_
        exact q_iret (res := (r, M)) C dX12_mostOf_26 rfl (by decide) (by decide) (congrArg (fun z => (z, M)) (Option.some.inj h))
  · refine q_iload_n C dX12_mostOf_27 rfl ?_
    refine x_bipush (v := (100 : Int32)) C dX12_mostOf_28 (by decide) ?_
    refine q_icmp_ne (tgt := 54) C dX12_mostOf_30 (by decide) h (fun _ h => ?_) (fun _ h => ?_)
    · refine q_iload_n C dX12_mostOf_33 rfl ?_
      refine q_if_ne (tgt := 42) C dX12_mostOf_34 (by decide) h (fun _ h => ?_) (fun _ h => ?_)
      · refine x_bipush (v := (20 : Int32)) C dX12_mostOf_37 (by decide) ?_
        refine q_goto (tgt := 53) C dX12_mostOf_39 (by decide) ?_
        exact q_iret (res := (r, M)) C dX12_mostOf_53 rfl (by decide) (by decide) (congrArg (fun z => (z, M)) (Option.some.inj h))
      · refine q_iload_n C dX12_mostOf_42 rfl ?_
        refine x_iconst (v := (1 : Int32)) C dX12_mostOf_43 (by decide) ?_
        refine q_icmp_ne (tgt := 52) C dX12_mostOf_44 (by decide) h (fun _ h => ?_) (fun _ h => ?_)
        · refine x_bipush (v := (9 : Int32)) C dX12_mostOf_47 (by decide) ?_
          refine q_goto (tgt := 53) C dX12_mostOf_49 (by decide) ?_
          exact q_iret (res := (r, M)) C dX12_mostOf_53 rfl (by decide) (by decide) (congrArg (fun z => (z, M)) (Option.some.inj h))
        · refine x_iconst (v := (3 : Int32)) C dX12_mostOf_52 (by decide) ?_
          exact q_iret (res := (r, M)) C dX12_mostOf_53 rfl (by decide) (by decide) (congrArg (fun z => (z, M)) (Option.some.inj h))
    · refine q_iload_n C dX12_mostOf_54 rfl ?_
      refine x_iconst (v := (2 : Int32)) C dX12_mostOf_55 (by decide) ?_
      refine q_icmp_ge (tgt := 64) C dX12_mostOf_56 (by decide) h (fun _ h => ?_) (fun _ h => ?_)
      · refine x_bipush (v := (20 : Int32)) C dX12_mostOf_59 (by decide) ?_
        refine q_goto (tgt := 75) C dX12_mostOf_61 (by decide) ?_
        exact q_iret (res := (r, M)) C dX12_mostOf_75 rfl (by decide) (by decide) (congrArg (fun z => (z, M)) (Option.some.inj h))
      · refine q_iload_n C dX12_mostOf_64 rfl ?_
        refine x_iconst (v := (2 : Int32)) C dX12_mostOf_65 (by decide) ?_
        refine q_icmp_ne (tgt := 73) C dX12_mostOf_66 (by decide) h (fun _ h => ?_) (fun _ h => ?_)
        · refine x_iconst (v := (3 : Int32)) C dX12_mostOf_69 (by decide) ?_
          refine q_goto (tgt := 75) C dX12_mostOf_70 (by decide) ?_
          exact q_iret (res := (r, M)) C dX12_mostOf_75 rfl (by decide) (by decide) (congrArg (fun z => (z, M)) (Option.some.inj h))
        · refine x_bipush (v := (9 : Int32)) C dX12_mostOf_73 (by decide) ?_
          exact q_iret (res := (r, M)) C dX12_mostOf_75 rfl (by decide) (by decide) (congrArg (fun z => (z, M)) (Option.some.inj h))
noncomputable def F_X12_isDigit (l0 : Nat) (M : q_Mem) : Option (Int32) := (q_gI M l0 12 10 (fun v1 => (q_gI M l0 12 9 (fun v2 => (if v1 < v2 then (q_gR M l0 12 5 (fun c3 => q_nn c3 (fun r4 => (q_gI M l0 12 8 (fun v5 => (q_gI M l0 12 10 (fun v6 => (q_lI M 1 r4 (v5 + v6) (fun v7 => (if v7 < (48 : Int32) then q_rq (0 : Int32) else (q_gR M l0 12 5 (fun c8 => q_nn c8 (fun r9 => (q_gI M l0 12 8 (fun v10 => (q_gI M l0 12 10 (fun v11 => (q_lI M 1 r9 (v10 + v11) (fun v12 => (if (57 : Int32) < v12 then q_rq (0 : Int32) else q_rq (1 : Int32))))))))))))))))))))) else q_rq (0 : Int32))))))
set_option maxRecDepth 100000 in
set_option maxHeartbeats 4000000 in
theorem c_X12_isDigit (l : Launch) (G : q_G) (l0 : Nat) (M : q_Mem) {r : Int32} (h : F_X12_isDigit l0 M = some r) : q_Met l G yX12_isDigit cX12_isDigit 1 (Option.some Jvm.ClassFile.FieldType.boolean) 1 0 0 [.ref l0] M (some (.int r)) M := by
  unfold F_X12_isDigit at h
  refine q_enter [some (.ref l0)] (by decide) (Nat.le_of_ble_eq_true rfl) rfl (fun K C => ?_)
  refine q_aload_n C dX12_isDigit_0 rfl ?_
  refine x_getI (ci := 12) (j := 10) C dX12_isDigit_1 lkF_X12_115 rfl h (fun v1 h => ?_)
  refine q_aload_n C dX12_isDigit_4 rfl ?_
  refine x_getI (ci := 12) (j := 9) C dX12_isDigit_5 lkF_X12_118 rfl h (fun v2 h => ?_)
  refine q_icmp_ge (tgt := 53) C dX12_isDigit_8 (by decide) h (fun _ h => ?_) (fun _ h => ?_)
  · refine q_aload_n C dX12_isDigit_11 rfl ?_
    refine x_getR (ci := 12) (j := 5) C dX12_isDigit_12 lkF_X12_23 rfl h (fun c3 h => ?_)
    refine x_nn h (fun r4 h => ?_)
    refine q_aload_n C dX12_isDigit_15 rfl ?_
    refine x_getI (ci := 12) (j := 8) C dX12_isDigit_16 lkF_X12_121 rfl h (fun v5 h => ?_)
    refine q_aload_n C dX12_isDigit_19 rfl ?_
    refine x_getI (ci := 12) (j := 10) C dX12_isDigit_20 lkF_X12_115 rfl h (fun v6 h => ?_)
    refine q_iadd C dX12_isDigit_23 ?_
    refine x_bald C dX12_isDigit_24 h (fun v7 h => ?_)
    refine x_bipush (v := (48 : Int32)) C dX12_isDigit_25 (by decide) ?_
    refine q_icmp_lt (tgt := 53) C dX12_isDigit_27 (by decide) h (fun _ h => ?_) (fun _ h => ?_)
    · refine x_iconst (v := (0 : Int32)) C dX12_isDigit_53 (by decide) ?_
      exact q_zret (res := (r, M)) C dX12_isDigit_54 rfl (by decide) (by decide) (q_rqE h).1 (congrArg (fun z => (z, M)) (q_rqE h).2)
    · refine q_aload_n C dX12_isDigit_30 rfl ?_
      refine x_getR (ci := 12) (j := 5) C dX12_isDigit_31 lkF_X12_23 rfl h (fun c8 h => ?_)
      refine x_nn h (fun r9 h => ?_)
      refine q_aload_n C dX12_isDigit_34 rfl ?_
      refine x_getI (ci := 12) (j := 8) C dX12_isDigit_35 lkF_X12_121 rfl h (fun v10 h => ?_)
      refine q_aload_n C dX12_isDigit_38 rfl ?_
      refine x_getI (ci := 12) (j := 10) C dX12_isDigit_39 lkF_X12_115 rfl h (fun v11 h => ?_)
      refine q_iadd C dX12_isDigit_42 ?_
      refine x_bald C dX12_isDigit_43 h (fun v12 h => ?_)
      refine x_bipush (v := (57 : Int32)) C dX12_isDigit_44 (by decide) ?_
      refine q_icmp_gt (tgt := 53) C dX12_isDigit_46 (by decide) h (fun _ h => ?_) (fun _ h => ?_)
      · refine x_iconst (v := (0 : Int32)) C dX12_isDigit_53 (by decide) ?_
        exact q_zret (res := (r, M)) C dX12_isDigit_54 rfl (by decide) (by decide) (q_rqE h).1 (congrArg (fun z => (z, M)) (q_rqE h).2)
      · refine x_iconst (v := (1 : Int32)) C dX12_isDigit_49 (by decide) ?_
        refine q_goto (tgt := 54) C dX12_isDigit_50 (by decide) ?_
        exact q_zret (res := (r, M)) C dX12_isDigit_54 rfl (by decide) (by decide) (q_rqE h).1 (congrArg (fun z => (z, M)) (q_rqE h).2)
  · refine x_iconst (v := (0 : Int32)) C dX12_isDigit_53 (by decide) ?_
    exact q_zret (res := (r, M)) C dX12_isDigit_54 rfl (by decide) (by decide) (q_rqE h).1 (congrArg (fun z => (z, M)) (q_rqE h).2)
noncomputable def F_X12_here (l0 : Nat) (M : q_Mem) : Option (Int32) := (q_gI M l0 12 10 (fun v1 => (q_gI M l0 12 9 (fun v2 => (if v1 < v2 then (q_gR M l0 12 5 (fun c3 => q_nn c3 (fun r4 => (q_gI M l0 12 8 (fun v5 => (q_gI M l0 12 10 (fun v6 => (q_lI M 1 r4 (v5 + v6) (fun v7 => some (v7 &&& (255 : Int32))))))))))) else some (-1 : Int32))))))
set_option maxRecDepth 100000 in
set_option maxHeartbeats 4000000 in
theorem c_X12_here (l : Launch) (G : q_G) (l0 : Nat) (M : q_Mem) {r : Int32} (h : F_X12_here l0 M = some r) : q_Met l G yX12_here cX12_here 1 (Option.some Jvm.ClassFile.FieldType.int) 1 0 0 [.ref l0] M (some (.int r)) M := by
  unfold F_X12_here at h
  refine q_enter [some (.ref l0)] (by decide) (Nat.le_of_ble_eq_true rfl) rfl (fun K C => ?_)
  refine q_aload_n C dX12_here_0 rfl ?_
  refine x_getI (ci := 12) (j := 10) C dX12_here_1 lkF_X12_115 rfl h (fun v1 h => ?_)
  refine q_aload_n C dX12_here_4 rfl ?_
  refine x_getI (ci := 12) (j := 9) C dX12_here_5 lkF_X12_118 rfl h (fun v2 h => ?_)
  refine q_icmp_ge (tgt := 32) C dX12_here_8 (by decide) h (fun _ h => ?_) (fun _ h => ?_)
  · refine q_aload_n C dX12_here_11 rfl ?_
    refine x_getR (ci := 12) (j := 5) C dX12_here_12 lkF_X12_23 rfl h (fun c3 h => ?_)
    refine x_nn h (fun r4 h => ?_)
    refine q_aload_n C dX12_here_15 rfl ?_
    refine x_getI (ci := 12) (j := 8) C dX12_here_16 lkF_X12_121 rfl h (fun v5 h => ?_)
    refine q_aload_n C dX12_here_19 rfl ?_
    refine x_getI (ci := 12) (j := 10) C dX12_here_20 lkF_X12_115 rfl h (fun v6 h => ?_)
    refine q_iadd C dX12_here_23 ?_
    refine x_bald C dX12_here_24 h (fun v7 h => ?_)
    refine x_sipush (v := (255 : Int32)) C dX12_here_25 (by decide) ?_
    refine q_iand C dX12_here_28 ?_
    refine q_goto (tgt := 33) C dX12_here_29 (by decide) ?_
    exact q_iret (res := (r, M)) C dX12_here_33 rfl (by decide) (by decide) (congrArg (fun z => (z, M)) (Option.some.inj h))
  · refine x_iconst (v := (-1 : Int32)) C dX12_here_32 (by decide) ?_
    exact q_iret (res := (r, M)) C dX12_here_33 rfl (by decide) (by decide) (congrArg (fun z => (z, M)) (Option.some.inj h))
noncomputable def J_X12_number_67 (l0 : Nat) (l1 : Int32) (l2 : Int32) (l4 : Int32) (M : q_Mem) : Option (Int32 × q_Mem) := (q_ob M l0 12 ((F_X12_isDigit l0 M).bind (fun u9 => (if u9 = 0 then ((F_X12_isIn l4.toInt64 l1.toInt64 l2.toInt64 M).bind (fun u10 => (if u10 = 0 then (q_gI M l0 12 10 (fun v11 => (q_pI M l0 12 10 (v11 - (1 : Int32)) (fun M12 => (q_ob M12 l0 12 ((F_X12_fails l0 M12).bind (fun x => match x with | (u13, M14) => some (l4, M14)))))))) else some (l4, M)))) else (q_ob M l0 12 ((F_X12_fails l0 M).bind (fun x => match x with | (u15, M16) => some ((0 : Int32), M16))))))))
set_option maxRecDepth 100000 in
set_option maxHeartbeats 4000000 in
theorem jW_X12_number_67 {K : q_K} (C : q_C K yX12_number cX12_number 5 (Option.some Jvm.ClassFile.FieldType.int) 2 0 0) (l0 : Nat) (l1 : Int32) (l2 : Int32) (l4 : Int32) (M : q_Mem) {r : Int32} {M' : q_Mem} (h : J_X12_number_67 l0 l1 l2 l4 M = some (r, M')) : q_W K 5 (q_Q K (some (.int r)) M' 0 0) 0 0 M 67 [some (.ref l0), some (.int l1), some (.int l2), none, some (.int l4)] [] := by
  unfold J_X12_number_67 at h
  refine q_aload_n C dX12_number_67 rfl ?_
  obtain ⟨hk, h⟩ := q_obE h
  obtain ⟨u9, e1, h⟩ := q_bind h
  refine x_callV0 C dX12_number_68 lkM_X12_164 mV_X12_isDigit ⟨_, rfl, rfl⟩ hk (c_X12_isDigit _ _ _ _ e1) rfl rfl (Nat.le_of_ble_eq_true rfl) (by decide) (by decide) ?_
  refine q_if_eq (tgt := 81) C dX12_number_71 (by decide) h (fun _ h => ?_) (fun _ h => ?_)
  · refine q_iload C dX12_number_81 rfl ?_
    refine q_i2l C dX12_number_83 ?_
    refine q_iload_n C dX12_number_84 rfl ?_
    refine q_i2l C dX12_number_85 ?_
    refine q_iload_n C dX12_number_86 rfl ?_
    refine q_i2l C dX12_number_87 ?_
    obtain ⟨u10, e1, h⟩ := q_bind h
    refine x_callS0 C dX12_number_88 lkM_X12_213 mS_X12_isIn (c_X12_isIn _ _ _ _ _ _ e1) rfl rfl (Nat.le_of_ble_eq_true rfl) (by decide) (by decide) ?_
    refine q_if_ne (tgt := 109) C dX12_number_91 (by decide) h (fun _ h => ?_) (fun _ h => ?_)
    · refine q_aload_n C dX12_number_94 rfl ?_
      refine q_dup C dX12_number_95 rfl ?_
      refine x_getI (ci := 12) (j := 10) C dX12_number_96 lkF_X12_115 rfl h (fun v11 h => ?_)
      refine x_iconst (v := (1 : Int32)) C dX12_number_99 (by decide) ?_
      refine q_isub C dX12_number_100 ?_
      refine x_putI (ci := 12) (j := 10) C dX12_number_101 lkF_X12_115 (fun r hr => by cases hr; rfl) rfl h (fun M12 h => ?_)
      refine q_aload_n C dX12_number_104 rfl ?_
      obtain ⟨hk, h⟩ := q_obE h
      obtain ⟨⟨u13, M14⟩, e1, h⟩ := q_bind h
      refine x_callV0 C dX12_number_105 lkM_X12_130 mV_X12_fails ⟨_, rfl, rfl⟩ hk (c_X12_fails _ _ _ _ e1) rfl rfl (Nat.le_of_ble_eq_true rfl) (by decide) (by decide) ?_
      refine q_pop C dX12_number_108 rfl ?_
      refine q_iload C dX12_number_109 rfl ?_
      exact q_iret C dX12_number_111 rfl (by decide) (by decide) (Option.some.inj h)
    · refine q_iload C dX12_number_109 rfl ?_
      exact q_iret C dX12_number_111 rfl (by decide) (by decide) (Option.some.inj h)
  · refine q_aload_n C dX12_number_74 rfl ?_
    obtain ⟨hk, h⟩ := q_obE h
    obtain ⟨⟨u15, M16⟩, e1, h⟩ := q_bind h
    refine x_callV0 C dX12_number_75 lkM_X12_130 mV_X12_fails ⟨_, rfl, rfl⟩ hk (c_X12_fails _ _ _ _ e1) rfl rfl (Nat.le_of_ble_eq_true rfl) (by decide) (by decide) ?_
    refine q_pop C dX12_number_78 rfl ?_
    refine x_iconst (v := (0 : Int32)) C dX12_number_79 (by decide) ?_
    exact q_iret C dX12_number_80 rfl (by decide) (by decide) (Option.some.inj h)
noncomputable def F_X12_number (l0 : Nat) (l1 : Int32) (l2 : Int32) (M : q_Mem) : Option (Int32 × q_Mem) := (q_ob M l0 12 ((F_X12_look l0 M).bind (fun x => match x with | (u1, M2) => (q_ob M2 l0 12 ((F_X12_isDigit l0 M2).bind (fun u3 => (if u3 = 0 then (q_ob M2 l0 12 ((F_X12_fails l0 M2).bind (fun x => match x with | (u4, M5) => some ((0 : Int32), M5)))) else (q_gI M2 l0 12 10 (fun v6 => (q_pI M2 l0 12 10 (v6 + (1 : Int32)) (fun M7 => (q_ob M7 l0 12 ((F_X12_isDigit l0 M7).bind (fun u8 => (if u8 = 0 then J_X12_number_67 l0 l1 l2 (u1 - (48 : Int32)) M7 else (q_ob M7 l0 12 ((F_X12_here l0 M7).bind (fun u17 => (q_gI M7 l0 12 10 (fun v18 => (q_pI M7 l0 12 10 (v18 + (1 : Int32)) (fun M19 => J_X12_number_67 l0 l1 l2 ((((10 : Int32) * (u1 - (48 : Int32))) + u17) - (48 : Int32)) M19))))))))))))))))))))))
set_option maxRecDepth 100000 in
set_option maxHeartbeats 4000000 in
theorem c_X12_number (l : Launch) (G : q_G) (l0 : Nat) (l1 : Int32) (l2 : Int32) (M : q_Mem) {r : Int32} {M' : q_Mem} (h : F_X12_number l0 l1 l2 M = some (r, M')) : q_Met l G yX12_number cX12_number 5 (Option.some Jvm.ClassFile.FieldType.int) 2 0 0 [.ref l0, .int l1, .int l2] M (some (.int r)) M' := by
  unfold F_X12_number at h
  refine q_enter [some (.ref l0), some (.int l1), some (.int l2), none, none] (by decide) (Nat.le_of_ble_eq_true rfl) rfl (fun K C => ?_)
  refine q_aload_n C dX12_number_0 rfl ?_
  obtain ⟨hk, h⟩ := q_obE h
  obtain ⟨⟨u1, M2⟩, e1, h⟩ := q_bind h
  refine x_callV0 C dX12_number_1 lkM_X12_134 mV_X12_look ⟨_, rfl, rfl⟩ hk (c_X12_look _ _ _ _ e1) rfl rfl (Nat.le_of_ble_eq_true rfl) (by decide) (by decide) ?_
  refine q_istore_n (L' := [some (.ref l0), some (.int l1), some (.int l2), some (.int u1), none]) C dX12_number_4 (by decide) rfl rfl ?_
  refine q_aload_n C dX12_number_5 rfl ?_
  obtain ⟨hk, h⟩ := q_obE h
  obtain ⟨u3, e1, h⟩ := q_bind h
  refine x_callV0 C dX12_number_6 lkM_X12_164 mV_X12_isDigit ⟨_, rfl, rfl⟩ hk (c_X12_isDigit _ _ _ _ e1) rfl rfl (Nat.le_of_ble_eq_true rfl) (by decide) (by decide) ?_
  refine q_if_ne (tgt := 19) C dX12_number_9 (by decide) h (fun _ h => ?_) (fun _ h => ?_)
  · refine q_aload_n C dX12_number_12 rfl ?_
    obtain ⟨hk, h⟩ := q_obE h
    obtain ⟨⟨u4, M5⟩, e1, h⟩ := q_bind h
    refine x_callV0 C dX12_number_13 lkM_X12_130 mV_X12_fails ⟨_, rfl, rfl⟩ hk (c_X12_fails _ _ _ _ e1) rfl rfl (Nat.le_of_ble_eq_true rfl) (by decide) (by decide) ?_
    refine q_pop C dX12_number_16 rfl ?_
    refine x_iconst (v := (0 : Int32)) C dX12_number_17 (by decide) ?_
    exact q_iret C dX12_number_18 rfl (by decide) (by decide) (Option.some.inj h)
  · refine q_iload_n C dX12_number_19 rfl ?_
    refine x_bipush (v := (48 : Int32)) C dX12_number_20 (by decide) ?_
    refine q_isub C dX12_number_22 ?_
    refine q_istore (L' := [some (.ref l0), some (.int l1), some (.int l2), some (.int u1), some (.int (u1 - (48 : Int32)))]) C dX12_number_23 (by decide) rfl rfl ?_
    refine q_aload_n C dX12_number_25 rfl ?_
    refine q_dup C dX12_number_26 rfl ?_
    refine x_getI (ci := 12) (j := 10) C dX12_number_27 lkF_X12_115 rfl h (fun v6 h => ?_)
    refine x_iconst (v := (1 : Int32)) C dX12_number_30 (by decide) ?_
    refine q_iadd C dX12_number_31 ?_
    refine x_putI (ci := 12) (j := 10) C dX12_number_32 lkF_X12_115 (fun r hr => by cases hr; rfl) rfl h (fun M7 h => ?_)
    refine q_aload_n C dX12_number_35 rfl ?_
    obtain ⟨hk, h⟩ := q_obE h
    obtain ⟨u8, e1, h⟩ := q_bind h
    refine x_callV0 C dX12_number_36 lkM_X12_164 mV_X12_isDigit ⟨_, rfl, rfl⟩ hk (c_X12_isDigit _ _ _ _ e1) rfl rfl (Nat.le_of_ble_eq_true rfl) (by decide) (by decide) ?_
    refine q_if_eq (tgt := 67) C dX12_number_39 (by decide) h (fun _ h => ?_) (fun _ h => ?_)
    · exact q_msk [true, true, true, false, true] (jW_X12_number_67 C l0 l1 l2 (u1 - (48 : Int32)) M7 h)
    · refine x_bipush (v := (10 : Int32)) C dX12_number_42 (by decide) ?_
      refine q_iload C dX12_number_44 rfl ?_
      refine q_imul C dX12_number_46 ?_
      refine q_aload_n C dX12_number_47 rfl ?_
      obtain ⟨hk, h⟩ := q_obE h
      obtain ⟨u17, e1, h⟩ := q_bind h
      refine x_callV0 C dX12_number_48 lkM_X12_210 mV_X12_here ⟨_, rfl, rfl⟩ hk (c_X12_here _ _ _ _ e1) rfl rfl (Nat.le_of_ble_eq_true rfl) (by decide) (by decide) ?_
      refine q_iadd C dX12_number_51 ?_
      refine x_bipush (v := (48 : Int32)) C dX12_number_52 (by decide) ?_
      refine q_isub C dX12_number_54 ?_
      refine q_istore (L' := [some (.ref l0), some (.int l1), some (.int l2), some (.int u1), some (.int ((((10 : Int32) * (u1 - (48 : Int32))) + u17) - (48 : Int32)))]) C dX12_number_55 (by decide) rfl rfl ?_
      refine q_aload_n C dX12_number_57 rfl ?_
      refine q_dup C dX12_number_58 rfl ?_
      refine x_getI (ci := 12) (j := 10) C dX12_number_59 lkF_X12_115 rfl h (fun v18 h => ?_)
      refine x_iconst (v := (1 : Int32)) C dX12_number_62 (by decide) ?_
      refine q_iadd C dX12_number_63 ?_
      refine x_putI (ci := 12) (j := 10) C dX12_number_64 lkF_X12_115 (fun r hr => by cases hr; rfl) rfl h (fun M19 h => ?_)
      exact q_msk [true, true, true, false, true] (jW_X12_number_67 C l0 l1 l2 ((((10 : Int32) * (u1 - (48 : Int32))) + u17) - (48 : Int32)) M19 h)
noncomputable def B_X12_readItems_3 (l0 : Nat) (l1 : Int32) (l2 : Nat) (l3 : Int32) (l4 : Nat) (l5 : Int32) (M : q_Mem) : Option ((Int32 × q_Mem) ⊕ (q_Mem)) := (q_ob M l4 14 ((F_J0_length_8abf5 l4 M).bind (fun u1 => (if l5 < u1 then ((F_X12_usual l1 l5 M).bind (fun u2 => (q_tI M l2 (l3 + l5) u2 (fun M3 => some (.inl ((l5 + (1 : Int32)), M3)))))) else some (.inr M)))))
set_option maxRecDepth 100000 in
set_option maxHeartbeats 4000000 in
theorem bW_X12_readItems_3 {K : q_K} {Q : State → Prop} (C : q_C K yX12_readItems cX12_readItems 7 (Option.none : Option Jvm.ClassFile.FieldType) 8 2 0) (l0 : Nat) (l1 : Int32) (l2 : Nat) (l3 : Int32) (l4 : Nat) (l5 : Int32) (M : q_Mem) {stp : (Int32 × q_Mem) ⊕ (q_Mem)} (h : B_X12_readItems_3 l0 l1 l2 l3 l4 l5 M = some stp) (kC : ∀ (l5 : Int32) (M : q_Mem), stp = .inl (l5, M) → q_W K 7 Q 0 0 M 3 [some (.ref l0), some (.int l1), some (.ref l2), some (.int l3), some (.ref l4), some (.int l5), none] []) (kE0 : ∀ (M : q_Mem), stp = .inr M → q_W K 7 Q 0 0 M 31 [some (.ref l0), some (.int l1), some (.ref l2), some (.int l3), some (.ref l4), none, none] []) : q_W K 7 Q 0 0 M 3 [some (.ref l0), some (.int l1), some (.ref l2), some (.int l3), some (.ref l4), some (.int l5), none] [] := by
  unfold B_X12_readItems_3 at h
  refine q_iload C dX12_readItems_3 rfl ?_
  refine q_aload C dX12_readItems_5 rfl ?_
  obtain ⟨hk, h⟩ := q_obE h
  obtain ⟨u1, e1, h⟩ := q_bind h
  refine x_callT C dX12_readItems_7 wd_1405 mV_J0_length_8abf5 rfl hk (c_J0_length_8abf5 _ _ _ _ e1) rfl rfl (Nat.le_of_ble_eq_true rfl) (by decide) (by decide) ?_
  refine q_icmp_ge (tgt := 31) C dX12_readItems_10 (by decide) h (fun _ h => ?_) (fun _ h => ?_)
  · refine q_aload_n C dX12_readItems_13 rfl ?_
    refine q_iload_n C dX12_readItems_14 rfl ?_
    refine q_iload C dX12_readItems_15 rfl ?_
    refine q_iadd C dX12_readItems_17 ?_
    refine q_iload_n C dX12_readItems_18 rfl ?_
    refine q_iload C dX12_readItems_19 rfl ?_
    obtain ⟨u2, e1, h⟩ := q_bind h
    refine x_callS0 C dX12_readItems_21 lkM_X12_217 mS_X12_usual (c_X12_usual _ _ _ _ _ e1) rfl rfl (Nat.le_of_ble_eq_true rfl) (by decide) (by decide) ?_
    refine x_iast C dX12_readItems_24 h (fun M3 h => ?_)
    refine x_iinc (w := (1 : Int32)) (L' := [some (.ref l0), some (.int l1), some (.ref l2), some (.int l3), some (.ref l4), some (.int (l5 + (1 : Int32))), none]) C dX12_readItems_25 rfl (by decide) (by decide) rfl rfl ?_
    refine q_goto (tgt := 3) C dX12_readItems_28 (by decide) ?_
    exact q_msk [true, true, true, true, true, true, false] (kC _ _ (Option.some.inj h).symm)
  · exact q_msk [true, true, true, true, true, false, false] (kE0 _ (Option.some.inj h).symm)
set_option maxRecDepth 100000 in
set_option maxHeartbeats 4000000 in
theorem lW_X12_readItems_3 {K : q_K} {Q : State → Prop} (C : q_C K yX12_readItems cX12_readItems 7 (Option.none : Option Jvm.ClassFile.FieldType) 8 2 0) (l0 : Nat) (l1 : Int32) (l2 : Nat) (l3 : Int32) (l4 : Nat) (n : Nat) : ∀ (l5 : Int32) (M : q_Mem) (e : (q_Mem)), q_lp (fun s => B_X12_readItems_3 l0 l1 l2 l3 l4 s.1 s.2) n (l5, M) = some e → (∀ (M : q_Mem), e = M → q_W K 7 Q 0 0 M 31 [some (.ref l0), some (.int l1), some (.ref l2), some (.int l3), some (.ref l4), none, none] []) → q_W K 7 Q 0 0 M 3 [some (.ref l0), some (.int l1), some (.ref l2), some (.int l3), some (.ref l4), some (.int l5), none] [] := by
  induction n with
  | zero => intro l5 M e h; cases h
  | succ n ih =>
    intro l5 M e h kE0
    obtain ⟨stp, e1, e2⟩ := q_bind h
    refine bW_X12_readItems_3 C l0 l1 l2 l3 l4 l5 M e1 (fun a0 a1 hs => ?_) (fun b0 hs => ?_)
    · subst hs; exact ih _ _ _ e2 kE0
    · subst hs; exact kE0 _ (Option.some.inj e2).symm
noncomputable def J_X12_readItems_117_45 (l0 : Nat) (l1 : Int32) (l2 : Nat) (l3 : Int32) (l4 : Nat) (l5 : Int32) (l6 : Int32) (s0 : Nat) (s1 : Int32) (s2 : Nat) (s3 : Int32) (M : q_Mem) : Option ((Int32 × Int32 × q_Mem) ⊕ ((q_Mem) ⊕ (q_Mem))) := ((F_X12_mostOf l1 l6 M).bind (fun u14 => (q_ob M s2 12 ((F_X12_number s2 s3 u14 M).bind (fun x => match x with | (u15, M16) => (q_tI M16 s0 s1 u15 (fun M17 => (q_gI M17 l0 12 11 (fun v18 => (if v18 = (-1 : Int32) then (q_ob M17 l0 12 ((F_X12_look l0 M17).bind (fun x => match x with | (u19, M20) => ((F_X12_spotOf l4 u19 M20).bind (fun x => match x with | (u21, M22) => some (.inl (l5, u21, M22))))))) else some (.inl (l5, l6, M17))))))))))))
set_option maxRecDepth 100000 in
set_option maxHeartbeats 4000000 in
theorem jW_X12_readItems_117_45 {K : q_K} {Q : State → Prop} (C : q_C K yX12_readItems cX12_readItems 7 (Option.none : Option Jvm.ClassFile.FieldType) 8 2 0) (l0 : Nat) (l1 : Int32) (l2 : Nat) (l3 : Int32) (l4 : Nat) (l5 : Int32) (l6 : Int32) (s0 : Nat) (s1 : Int32) (s2 : Nat) (s3 : Int32) (M : q_Mem) {stp : (Int32 × Int32 × q_Mem) ⊕ ((q_Mem) ⊕ (q_Mem))} (h : J_X12_readItems_117_45 l0 l1 l2 l3 l4 l5 l6 s0 s1 s2 s3 M = some stp) (kC : ∀ (l5 : Int32) (l6 : Int32) (M : q_Mem), stp = .inl (l5, l6, M) → q_W K 7 Q 0 0 M 45 [some (.ref l0), some (.int l1), some (.ref l2), some (.int l3), some (.ref l4), some (.int l5), some (.int l6)] []) (kE0 : ∀ (M : q_Mem), stp = .inr (.inl M) → q_W K 7 Q 0 0 M 69 [some (.ref l0), none, none, none, none, none, none] []) (kE1 : ∀ (M : q_Mem), stp = .inr (.inr M) → q_W K 7 Q 0 0 M 149 [none, none, none, none, none, none, none] []) : q_W K 7 Q 0 0 M 117 [some (.ref l0), some (.int l1), some (.ref l2), some (.int l3), some (.ref l4), some (.int l5), some (.int l6)] [.int s3, .ref s2, .int s1, .ref s0] := by
  unfold J_X12_readItems_117_45 at h
  refine q_iload_n C dX12_readItems_117 rfl ?_
  refine q_iload C dX12_readItems_118 rfl ?_
  obtain ⟨u14, e1, h⟩ := q_bind h
  refine x_callS0 C dX12_readItems_120 lkM_X12_229 mS_X12_mostOf (c_X12_mostOf _ _ _ _ _ e1) rfl rfl (Nat.le_of_ble_eq_true rfl) (by decide) (by decide) ?_
  obtain ⟨hk, h⟩ := q_obE h
  obtain ⟨⟨u15, M16⟩, e1, h⟩ := q_bind h
  refine x_callV0 C dX12_readItems_123 lkM_X12_232 mV_X12_number ⟨_, rfl, rfl⟩ hk (c_X12_number _ _ _ _ _ _ e1) rfl rfl (Nat.le_of_ble_eq_true rfl) (by decide) (by decide) ?_
  refine x_iast C dX12_readItems_126 h (fun M17 h => ?_)
  refine q_aload_n C dX12_readItems_127 rfl ?_
  refine x_getI (ci := 12) (j := 11) C dX12_readItems_128 lkF_X12_124 rfl h (fun v18 h => ?_)
  refine x_iconst (v := (-1 : Int32)) C dX12_readItems_131 (by decide) ?_
  refine q_icmp_ne (tgt := 45) C dX12_readItems_132 (by decide) h (fun _ h => ?_) (fun _ h => ?_)
  · refine q_aload C dX12_readItems_135 rfl ?_
    refine q_aload_n C dX12_readItems_137 rfl ?_
    obtain ⟨hk, h⟩ := q_obE h
    obtain ⟨⟨u19, M20⟩, e1, h⟩ := q_bind h
    refine x_callV0 C dX12_readItems_138 lkM_X12_134 mV_X12_look ⟨_, rfl, rfl⟩ hk (c_X12_look _ _ _ _ e1) rfl rfl (Nat.le_of_ble_eq_true rfl) (by decide) (by decide) ?_
    obtain ⟨⟨u21, M22⟩, e1, h⟩ := q_bind h
    refine x_callS C dX12_readItems_141 lkM_X12_221 mS_X12_spotOf (c_X12_spotOf _ _ _ _ _ e1) rfl rfl (Nat.le_of_ble_eq_true rfl) (by decide) (by decide) ?_
    refine q_istore (L' := [some (.ref l0), some (.int l1), some (.ref l2), some (.int l3), some (.ref l4), some (.int l5), some (.int u21)]) C dX12_readItems_144 (by decide) rfl rfl ?_
    refine q_goto (tgt := 45) C dX12_readItems_146 (by decide) ?_
    exact q_msk [true, true, true, true, true, true, true] (kC _ _ _ (Option.some.inj h).symm)
  · exact q_msk [true, true, true, true, true, true, true] (kC _ _ _ (Option.some.inj h).symm)
noncomputable def J_X12_readItems_116_45 (l0 : Nat) (l1 : Int32) (l2 : Nat) (l3 : Int32) (l4 : Nat) (l5 : Int32) (l6 : Int32) (s0 : Nat) (s1 : Int32) (s2 : Nat) (M : q_Mem) : Option ((Int32 × Int32 × q_Mem) ⊕ ((q_Mem) ⊕ (q_Mem))) := J_X12_readItems_117_45 l0 l1 l2 l3 l4 l5 l6 s0 s1 s2 (0 : Int32) M
set_option maxRecDepth 100000 in
set_option maxHeartbeats 4000000 in
theorem jW_X12_readItems_116_45 {K : q_K} {Q : State → Prop} (C : q_C K yX12_readItems cX12_readItems 7 (Option.none : Option Jvm.ClassFile.FieldType) 8 2 0) (l0 : Nat) (l1 : Int32) (l2 : Nat) (l3 : Int32) (l4 : Nat) (l5 : Int32) (l6 : Int32) (s0 : Nat) (s1 : Int32) (s2 : Nat) (M : q_Mem) {stp : (Int32 × Int32 × q_Mem) ⊕ ((q_Mem) ⊕ (q_Mem))} (h : J_X12_readItems_116_45 l0 l1 l2 l3 l4 l5 l6 s0 s1 s2 M = some stp) (kC : ∀ (l5 : Int32) (l6 : Int32) (M : q_Mem), stp = .inl (l5, l6, M) → q_W K 7 Q 0 0 M 45 [some (.ref l0), some (.int l1), some (.ref l2), some (.int l3), some (.ref l4), some (.int l5), some (.int l6)] []) (kE0 : ∀ (M : q_Mem), stp = .inr (.inl M) → q_W K 7 Q 0 0 M 69 [some (.ref l0), none, none, none, none, none, none] []) (kE1 : ∀ (M : q_Mem), stp = .inr (.inr M) → q_W K 7 Q 0 0 M 149 [none, none, none, none, none, none, none] []) : q_W K 7 Q 0 0 M 116 [some (.ref l0), some (.int l1), some (.ref l2), some (.int l3), some (.ref l4), some (.int l5), some (.int l6)] [.ref s2, .int s1, .ref s0] := by
  unfold J_X12_readItems_116_45 at h
  refine x_iconst (v := (0 : Int32)) C dX12_readItems_116 (by decide) ?_
  exact q_msk [true, true, true, true, true, true, true] (jW_X12_readItems_117_45 C l0 l1 l2 l3 l4 l5 l6 s0 s1 s2 (0 : Int32) M h kC kE0 kE1)
noncomputable def B_X12_readItems_45 (l0 : Nat) (l1 : Int32) (l2 : Nat) (l3 : Int32) (l4 : Nat) (l5 : Int32) (l6 : Int32) (M : q_Mem) : Option ((Int32 × Int32 × q_Mem) ⊕ ((q_Mem) ⊕ (q_Mem))) := (if l6 = (-1 : Int32) then some (.inr (.inr M)) else (q_gI M l0 12 11 (fun v10 => (if v10 = (-1 : Int32) then ((F_X12_has l5 l6 M).bind (fun u11 => (if u11 = 0 then (q_gI M l0 12 10 (fun v12 => (q_pI M l0 12 10 (v12 + (1 : Int32)) (fun M13 => (if l1 = (103 : Int32) then (if l6 = (1 : Int32) then J_X12_readItems_117_45 l0 l1 l2 l3 l4 (l5 ||| ((1 : Int32) <<< (l6 &&& 31))) l6 l2 (l3 + l6) l0 (1 : Int32) M13 else J_X12_readItems_116_45 l0 l1 l2 l3 l4 (l5 ||| ((1 : Int32) <<< (l6 &&& 31))) l6 l2 (l3 + l6) l0 M13) else J_X12_readItems_116_45 l0 l1 l2 l3 l4 (l5 ||| ((1 : Int32) <<< (l6 &&& 31))) l6 l2 (l3 + l6) l0 M13))))) else some (.inr (.inl M))))) else some (.inr (.inr M))))))
set_option maxRecDepth 100000 in
set_option maxHeartbeats 4000000 in
theorem bW_X12_readItems_45 {K : q_K} {Q : State → Prop} (C : q_C K yX12_readItems cX12_readItems 7 (Option.none : Option Jvm.ClassFile.FieldType) 8 2 0) (l0 : Nat) (l1 : Int32) (l2 : Nat) (l3 : Int32) (l4 : Nat) (l5 : Int32) (l6 : Int32) (M : q_Mem) {stp : (Int32 × Int32 × q_Mem) ⊕ ((q_Mem) ⊕ (q_Mem))} (h : B_X12_readItems_45 l0 l1 l2 l3 l4 l5 l6 M = some stp) (kC : ∀ (l5 : Int32) (l6 : Int32) (M : q_Mem), stp = .inl (l5, l6, M) → q_W K 7 Q 0 0 M 45 [some (.ref l0), some (.int l1), some (.ref l2), some (.int l3), some (.ref l4), some (.int l5), some (.int l6)] []) (kE0 : ∀ (M : q_Mem), stp = .inr (.inl M) → q_W K 7 Q 0 0 M 69 [some (.ref l0), none, none, none, none, none, none] []) (kE1 : ∀ (M : q_Mem), stp = .inr (.inr M) → q_W K 7 Q 0 0 M 149 [none, none, none, none, none, none, none] []) : q_W K 7 Q 0 0 M 45 [some (.ref l0), some (.int l1), some (.ref l2), some (.int l3), some (.ref l4), some (.int l5), some (.int l6)] [] := by
  unfold B_X12_readItems_45 at h
  refine q_iload C dX12_readItems_45 rfl ?_
  refine x_iconst (v := (-1 : Int32)) C dX12_readItems_47 (by decide) ?_
  refine q_icmp_eq (tgt := 149) C dX12_readItems_48 (by decide) h (fun _ h => ?_) (fun _ h => ?_)
  · exact q_msk [false, false, false, false, false, false, false] (kE1 _ (Option.some.inj h).symm)
  · refine q_aload_n C dX12_readItems_51 rfl ?_
    refine x_getI (ci := 12) (j := 11) C dX12_readItems_52 lkF_X12_124 rfl h (fun v10 h => ?_)
    refine x_iconst (v := (-1 : Int32)) C dX12_readItems_55 (by decide) ?_
    refine q_icmp_ne (tgt := 149) C dX12_readItems_56 (by decide) h (fun _ h => ?_) (fun _ h => ?_)
    · refine q_iload C dX12_readItems_59 rfl ?_
      refine q_iload C dX12_readItems_61 rfl ?_
      obtain ⟨u11, e1, h⟩ := q_bind h
      refine x_callS0 C dX12_readItems_63 lkM_X12_225 mS_X12_has (c_X12_has _ _ _ _ _ e1) rfl rfl (Nat.le_of_ble_eq_true rfl) (by decide) (by decide) ?_
      refine q_if_eq (tgt := 75) C dX12_readItems_66 (by decide) h (fun _ h => ?_) (fun _ h => ?_)
      · refine q_iload C dX12_readItems_75 rfl ?_
        refine x_iconst (v := (1 : Int32)) C dX12_readItems_77 (by decide) ?_
        refine q_iload C dX12_readItems_78 rfl ?_
        refine q_ishl C dX12_readItems_80 ?_
        refine q_ior C dX12_readItems_81 ?_
        refine q_istore (L' := [some (.ref l0), some (.int l1), some (.ref l2), some (.int l3), some (.ref l4), some (.int (l5 ||| ((1 : Int32) <<< (l6 &&& 31)))), some (.int l6)]) C dX12_readItems_82 (by decide) rfl rfl ?_
        refine q_aload_n C dX12_readItems_84 rfl ?_
        refine q_dup C dX12_readItems_85 rfl ?_
        refine x_getI (ci := 12) (j := 10) C dX12_readItems_86 lkF_X12_115 rfl h (fun v12 h => ?_)
        refine x_iconst (v := (1 : Int32)) C dX12_readItems_89 (by decide) ?_
        refine q_iadd C dX12_readItems_90 ?_
        refine x_putI (ci := 12) (j := 10) C dX12_readItems_91 lkF_X12_115 (fun r hr => by cases hr; rfl) rfl h (fun M13 h => ?_)
        refine q_aload_n C dX12_readItems_94 rfl ?_
        refine q_iload_n C dX12_readItems_95 rfl ?_
        refine q_iload C dX12_readItems_96 rfl ?_
        refine q_iadd C dX12_readItems_98 ?_
        refine q_aload_n C dX12_readItems_99 rfl ?_
        refine q_iload_n C dX12_readItems_100 rfl ?_
        refine x_bipush (v := (103 : Int32)) C dX12_readItems_101 (by decide) ?_
        refine q_icmp_ne (tgt := 116) C dX12_readItems_103 (by decide) h (fun _ h => ?_) (fun _ h => ?_)
        · refine q_iload C dX12_readItems_106 rfl ?_
          refine x_iconst (v := (1 : Int32)) C dX12_readItems_108 (by decide) ?_
          refine q_icmp_ne (tgt := 116) C dX12_readItems_109 (by decide) h (fun _ h => ?_) (fun _ h => ?_)
          · refine x_iconst (v := (1 : Int32)) C dX12_readItems_112 (by decide) ?_
            refine q_goto (tgt := 117) C dX12_readItems_113 (by decide) ?_
            exact q_msk [true, true, true, true, true, true, true] (jW_X12_readItems_117_45 C l0 l1 l2 l3 l4 (l5 ||| ((1 : Int32) <<< (l6 &&& 31))) l6 l2 (l3 + l6) l0 (1 : Int32) M13 h kC kE0 kE1)
          · exact q_msk [true, true, true, true, true, true, true] (jW_X12_readItems_116_45 C l0 l1 l2 l3 l4 (l5 ||| ((1 : Int32) <<< (l6 &&& 31))) l6 l2 (l3 + l6) l0 M13 h kC kE0 kE1)
        · exact q_msk [true, true, true, true, true, true, true] (jW_X12_readItems_116_45 C l0 l1 l2 l3 l4 (l5 ||| ((1 : Int32) <<< (l6 &&& 31))) l6 l2 (l3 + l6) l0 M13 h kC kE0 kE1)
      · exact q_msk [true, false, false, false, false, false, false] (kE0 _ (Option.some.inj h).symm)
    · exact q_msk [false, false, false, false, false, false, false] (kE1 _ (Option.some.inj h).symm)
set_option maxRecDepth 100000 in
set_option maxHeartbeats 4000000 in
theorem lW_X12_readItems_45 {K : q_K} {Q : State → Prop} (C : q_C K yX12_readItems cX12_readItems 7 (Option.none : Option Jvm.ClassFile.FieldType) 8 2 0) (l0 : Nat) (l1 : Int32) (l2 : Nat) (l3 : Int32) (l4 : Nat) (n : Nat) : ∀ (l5 : Int32) (l6 : Int32) (M : q_Mem) (e : ((q_Mem) ⊕ (q_Mem))), q_lp (fun s => B_X12_readItems_45 l0 l1 l2 l3 l4 s.1 s.2.1 s.2.2) n (l5, l6, M) = some e → (∀ (M : q_Mem), e = (.inl M) → q_W K 7 Q 0 0 M 69 [some (.ref l0), none, none, none, none, none, none] []) → (∀ (M : q_Mem), e = (.inr M) → q_W K 7 Q 0 0 M 149 [none, none, none, none, none, none, none] []) → q_W K 7 Q 0 0 M 45 [some (.ref l0), some (.int l1), some (.ref l2), some (.int l3), some (.ref l4), some (.int l5), some (.int l6)] [] := by
  induction n with
  | zero => intro l5 l6 M e h; cases h
  | succ n ih =>
    intro l5 l6 M e h kE0 kE1
    obtain ⟨stp, e1, e2⟩ := q_bind h
    refine bW_X12_readItems_45 C l0 l1 l2 l3 l4 l5 l6 M e1 (fun a0 a1 a2 hs => ?_) (fun b0 hs => ?_) (fun b0 hs => ?_)
    · subst hs; exact ih _ _ _ _ e2 kE0 kE1
    · subst hs; exact kE0 _ (Option.some.inj e2).symm
    · subst hs; exact kE1 _ (Option.some.inj e2).symm
noncomputable def F_X12_readItems (l0 : Nat) (l1 : Int32) (l2 : Nat) (l3 : Int32) (l4 : Nat) (M : q_Mem) : Option (Unit × q_Mem) := (q_lp (fun s => B_X12_readItems_3 l0 l1 l2 l3 l4 s.1 s.2) q_fu ((0 : Int32), M)).bind (fun e4 => match e4 with | M5 => (q_ob M5 l0 12 ((F_X12_look l0 M5).bind (fun x => match x with | (u6, M7) => ((F_X12_spotOf l4 u6 M7).bind (fun x => match x with | (u8, M9) => (q_lp (fun s => B_X12_readItems_45 l0 l1 l2 l3 l4 s.1 s.2.1 s.2.2) q_fu ((0 : Int32), u8, M9)).bind (fun e23 => match e23 with | .inl M24 => (q_ob M24 l0 12 ((F_X12_fails l0 M24).bind (fun x => match x with | (u25, M26) => some ((), M26)))) | .inr M27 => some ((), M27))))))))
set_option maxRecDepth 100000 in
set_option maxHeartbeats 4000000 in
theorem c_X12_readItems (l : Launch) (G : q_G) (l0 : Nat) (l1 : Int32) (l2 : Nat) (l3 : Int32) (l4 : Nat) (M : q_Mem) {r : Unit} {M' : q_Mem} (h : F_X12_readItems l0 l1 l2 l3 l4 M = some (r, M')) : q_Met l G yX12_readItems cX12_readItems 7 (Option.none : Option Jvm.ClassFile.FieldType) 8 2 0 [.ref l0, .int l1, .ref l2, .int l3, .ref l4] M none M' := by
  unfold F_X12_readItems at h
  refine q_enter [some (.ref l0), some (.int l1), some (.ref l2), some (.int l3), some (.ref l4), none, none] (by decide) (Nat.le_of_ble_eq_true rfl) rfl (fun K C => ?_)
  refine x_iconst (v := (0 : Int32)) C dX12_readItems_0 (by decide) ?_
  refine q_istore (L' := [some (.ref l0), some (.int l1), some (.ref l2), some (.int l3), some (.ref l4), some (.int (0 : Int32)), none]) C dX12_readItems_1 (by decide) rfl rfl ?_
  obtain ⟨e4, he, h⟩ := q_bind h
  refine q_msk [true, true, true, true, true, true, false] (lW_X12_readItems_3 C l0 l1 l2 l3 l4 q_fu _ _ _ he (fun M5 hs => ?_))
  · have hs := hs.symm
    subst hs
    refine x_iconst (v := (0 : Int32)) C dX12_readItems_31 (by decide) ?_
    refine q_istore (L' := [some (.ref l0), some (.int l1), some (.ref l2), some (.int l3), some (.ref l4), some (.int (0 : Int32)), none]) C dX12_readItems_32 (by decide) rfl rfl ?_
    refine q_aload C dX12_readItems_34 rfl ?_
    refine q_aload_n C dX12_readItems_36 rfl ?_
    obtain ⟨hk, h⟩ := q_obE h
    obtain ⟨⟨u6, M7⟩, e1, h⟩ := q_bind h
    refine x_callV0 C dX12_readItems_37 lkM_X12_134 mV_X12_look ⟨_, rfl, rfl⟩ hk (c_X12_look _ _ _ _ e1) rfl rfl (Nat.le_of_ble_eq_true rfl) (by decide) (by decide) ?_
    obtain ⟨⟨u8, M9⟩, e1, h⟩ := q_bind h
    refine x_callS C dX12_readItems_40 lkM_X12_221 mS_X12_spotOf (c_X12_spotOf _ _ _ _ _ e1) rfl rfl (Nat.le_of_ble_eq_true rfl) (by decide) (by decide) ?_
    refine q_istore (L' := [some (.ref l0), some (.int l1), some (.ref l2), some (.int l3), some (.ref l4), some (.int (0 : Int32)), some (.int u8)]) C dX12_readItems_43 (by decide) rfl rfl ?_
    obtain ⟨e23, he, h⟩ := q_bind h
    refine q_msk [true, true, true, true, true, true, true] (lW_X12_readItems_45 C l0 l1 l2 l3 l4 q_fu _ _ _ _ he (fun M24 hs => ?_) (fun M27 hs => ?_))
    · have hs := hs.symm
      subst hs
      refine q_aload_n C dX12_readItems_69 rfl ?_
      obtain ⟨hk, h⟩ := q_obE h
      obtain ⟨⟨u25, M26⟩, e1, h⟩ := q_bind h
      refine x_callV0 C dX12_readItems_70 lkM_X12_130 mV_X12_fails ⟨_, rfl, rfl⟩ hk (c_X12_fails _ _ _ _ e1) rfl rfl (Nat.le_of_ble_eq_true rfl) (by decide) (by decide) ?_
      refine q_pop C dX12_readItems_73 rfl ?_
      exact q_vret C dX12_readItems_74 rfl (by decide) (by decide) (Option.some.inj h)
    · have hs := hs.symm
      subst hs
      exact q_vret C dX12_readItems_149 rfl (by decide) (by decide) (Option.some.inj h)
