noncomputable def F_X12_has (l0 : Int32) (l1 : Int32) (M : q_Mem) : Option (Int32) := (if ((l0 >>> (l1 &&& 31)) &&& (1 : Int32)) = (1 : Int32) then q_rq (1 : Int32) else q_rq (0 : Int32))
set_option maxRecDepth 100000 in
set_option maxHeartbeats 4000000 in
theorem c_X12_has (l : Launch) (G : q_G) (l0 : Int32) (l1 : Int32) (M : q_Mem) {r : Int32} (h : F_X12_has l0 l1 M = some r) : q_Met l G yX12_has cX12_has 2 (Option.some Jvm.ClassFile.FieldType.boolean) 1 0 0 [.int l0, .int l1] M (some (.int r)) M := by
  unfold F_X12_has at h
  refine q_enter [some (.int l0), some (.int l1)] (by decide) (Nat.le_of_ble_eq_true rfl) rfl (fun K C => ?_)
  refine q_iload_n C dX12_has_0 rfl ?_
  refine q_iload_n C dX12_has_1 rfl ?_
  refine q_ishr C dX12_has_2 ?_
  refine x_iconst (v := (1 : Int32)) C dX12_has_3 (by decide) ?_
  refine q_iand C dX12_has_4 ?_
  refine x_iconst (v := (1 : Int32)) C dX12_has_5 (by decide) ?_
  refine q_icmp_ne (tgt := 13) C dX12_has_6 (by decide) h (fun _ h => ?_) (fun _ h => ?_)
  · refine x_iconst (v := (1 : Int32)) C dX12_has_9 (by decide) ?_
    refine q_goto (tgt := 14) C dX12_has_10 (by decide) ?_
    exact q_zret (res := (r, M)) C dX12_has_14 rfl (by decide) (by decide) (q_rqE h).1 (congrArg (fun z => (z, M)) (q_rqE h).2)
  · refine x_iconst (v := (0 : Int32)) C dX12_has_13 (by decide) ?_
    exact q_zret (res := (r, M)) C dX12_has_14 rfl (by decide) (by decide) (q_rqE h).1 (congrArg (fun z => (z, M)) (q_rqE h).2)
noncomputable def F_X12_mostOf (l0 : Int32) (l1 : Int32) (M : q_Mem) : Option (Int32) := (if l0 = (115 : Int32) then (if l1 = 0 then some (3 : Int32) else (if l1 = (1 : Int32) then some (9 : Int32) else some (99 : Int32))) else (if l0 = (100 : Int32) then (if l1 = 0 then some (20 : Int32) else (if l1 = (1 : Int32) then some (9 : Int32) else some (3 : Int32))) else (if l1 < (2 : Int32) then some (20 : Int32) else (if l1 = (2 : Int32) then some (3 : Int32) else some (9 : Int32)))))
set_option maxRecDepth 100000 in
set_option maxHeartbeats 4000000 in
theorem c_X12_mostOf (l : Launch) (G : q_G) (l0 : Int32) (l1 : Int32) (M : q_Mem) {r : Int32} (h : F_X12_mostOf l0 l1 M = some r) : q_Met l G yX12_mostOf cX12_mostOf 2 (Option.some Jvm.ClassFile.FieldType.int) 1 0 0 [.int l0, .int l1] M (some (.int r)) M := by
  unfold F_X12_mostOf at h
  refine q_enter [some (.int l0), some (.int l1)] (by decide) (Nat.le_of_ble_eq_true rfl) rfl (fun K C => ?_)
  refine q_iload_n C dX12_mostOf_0 rfl ?_
  refine x_bipush (v := (115 : Int32)) C dX12_mostOf_1 (by decide) ?_
  refine q_icmp_ne (tgt := 27) C dX12_mostOf_3 (by decide) h (fun _ h => ?_) (fun _ h => ?_)
  · refine q_iload_n C dX12_mostOf_6 rfl ?_
    refine q_if_ne (tgt := 14) C dX12_mostOf_7 (by decide) h (fun _ h => ?_) (fun _ h => ?_)
    · refine x_iconst (v := (3 : Int32)) C dX12_mostOf_10 (by decide) ?_
      refine q_goto (tgt := 26) C dX12_mostOf_11 (by decide) ?_
      exact q_iret (res := (r, M)) C dX12_mostOf_26 rfl (by decide) (by decide) (congrArg (fun z => (z, M)) (Option.some.inj h))
    · refine q_iload_n C dX12_mostOf_14 rfl ?_
      refine x_iconst (v := (1 : Int32)) C dX12_mostOf_15 (by decide) ?_
      refine q_icmp_ne (tgt := 24) C dX12_mostOf_16 (by decide) h (fun _ h => ?_) (fun _ h => ?_)
      · refine x_bipush (v := (9 : Int32)) C dX12_mostOf_19 (by decide) ?_
        refine q_goto (tgt := 26) C dX12_mostOf_21 (by decide) ?_
        exact q_iret (res := (r, M)) C dX12_mostOf_26 rfl (by decide) (by decide) (congrArg (fun z => (z, M)) (Option.some.inj h))
      · refine x_bipush (v := (99 : Int32)) C dX12_mostOf_24 (by decide) ?_
        exact q_iret (res := (r, M)) C dX12_mostOf_26 rfl (by decide) (by decide) (congrArg (fun z => (z, M)) (Option.some.inj h))
  · refine q_iload_n C dX12_mostOf_27 rfl ?_
    refine x_bipush (v := (100 : Int32)) C dX12_mostOf_28 (by decide) ?_
    refine q_icmp_ne (tgt := 54) C dX12_mostOf_30 (by decide) h (fun _ h => ?_) (fun _ h => ?_)
    · refine q_iload_n C dX12_mostOf_33 rfl ?_
      refine q_if_ne (tgt := 42) C dX12_mostOf_34 (by decide) h (fun _ h => ?_) (fun _ h => ?_)
      · refine x_bipush (v := (20 : Int32)) C dX12_mostOf_37 (by decide) ?_
        refine q_goto (tgt := 53) C dX12_mostOf_39 (by decide) ?_
        exact q_iret (res := (r, M)) C dX12_mostOf_53 rfl (by decide) (by decide) (congrArg (fun z => (z, M)) (Option.some.inj h))
      · refine q_iload_n C dX12_mostOf_42 rfl ?_
        refine x_iconst (v := (1 : Int32)) C dX12_mostOf_43 (by decide) ?_
        refine q_icmp_ne (tgt := 52) C dX12_mostOf_44 (by decide) h (fun _ h => ?_) (fun _ h => ?_)
        · refine x_bipush (v := (9 : Int32)) C dX12_mostOf_47 (by decide) ?_
          refine q_goto (tgt := 53) C dX12_mostOf_49 (by decide) ?_
          exact q_iret (res := (r, M)) C dX12_mostOf_53 rfl (by decide) (by decide) (congrArg (fun z => (z, M)) (Option.some.inj h))
        · refine x_iconst (v := (3 : Int32)) C dX12_mostOf_52 (by decide) ?_
          exact q_iret (res := (r, M)) C dX12_mostOf_53 rfl (by decide) (by decide) (congrArg (fun z => (z, M)) (Option.some.inj h))
    · refine q_iload_n C dX12_mostOf_54 rfl ?_
      refine x_iconst (v := (2 : Int32)) C dX12_mostOf_55 (by decide) ?_
      refine q_icmp_ge (tgt := 64) C dX12_mostOf_56 (by decide) h (fun _ h => ?_) (fun _ h => ?_)
      · refine x_bipush (v := (20 : Int32)) C dX12_mostOf_59 (by decide) ?_
        refine q_goto (tgt := 75) C dX12_mostOf_61 (by decide) ?_
        exact q_iret (res := (r, M)) C dX12_mostOf_75 rfl (by decide) (by decide) (congrArg (fun z => (z, M)) (Option.some.inj h))
      · refine q_iload_n C dX12_mostOf_64 rfl ?_
        refine x_iconst (v := (2 : Int32)) C dX12_mostOf_65 (by decide) ?_
        refine q_icmp_ne (tgt := 73) C dX12_mostOf_66 (by decide) h (fun _ h => ?_) (fun _ h => ?_)
        · refine x_iconst (v := (3 : Int32)) C dX12_mostOf_69 (by decide) ?_
          refine q_goto (tgt := 75) C dX12_mostOf_70 (by decide) ?_
          exact q_iret (res := (r, M)) C dX12_mostOf_75 rfl (by decide) (by decide) (congrArg (fun z => (z, M)) (Option.some.inj h))
        · refine x_bipush (v := (9 : Int32)) C dX12_mostOf_73 (by decide) ?_
          exact q_iret (res := (r, M)) C dX12_mostOf_75 rfl (by decide) (by decide) (congrArg (fun z => (z, M)) (Option.some.inj h))
noncomputable def F_X12_isDigit (l0 : Nat) (M : q_Mem) : Option (Int32) := (q_gI M l0 12 10 (fun v1 => (q_gI M l0 12 9 (fun v2 => (if v1 < v2 then (q_gR M l0 12 5 (fun c3 => q_nn c3 (fun r4 => (q_gI M l0 12 8 (fun v5 => (q_gI M l0 12 10 (fun v6 => (q_lI M 1 r4 (v5 + v6) (fun v7 => (if v7 < (48 : Int32) then q_rq (0 : Int32) else (q_gR M l0 12 5 (fun c8 => q_nn c8 (fun r9 => (q_gI M l0 12 8 (fun v10 => (q_gI M l0 12 10 (fun v11 => (q_lI M 1 r9 (v10 + v11) (fun v12 => (if (57 : Int32) < v12 then q_rq (0 : Int32) else q_rq (1 : Int32))))))))))))))))))))) else q_rq (0 : Int32))))))
set_option maxRecDepth 100000 in
set_option maxHeartbeats 4000000 in
theorem c_X12_isDigit (l : Launch) (G : q_G) (l0 : Nat) (M : q_Mem) {r : Int32} (h : F_X12_isDigit l0 M = some r) : q_Met l G yX12_isDigit cX12_isDigit 1 (Option.some Jvm.ClassFile.FieldType.boolean) 1 0 0 [.ref l0] M (some (.int r)) M := by
  unfold F_X12_isDigit at h
  refine q_enter [some (.ref l0)] (by decide) (Nat.le_of_ble_eq_true rfl) rfl (fun K C => ?_)
  refine q_aload_n C dX12_isDigit_0 rfl ?_
  refine x_getI (ci := 12) (j := 10) C dX12_isDigit_1 lkF_X12_115 rfl h (fun v1 h => ?_)
  refine q_aload_n C dX12_isDigit_4 rfl ?_
  refine x_getI (ci := 12) (j := 9) C dX12_isDigit_5 lkF_X12_118 rfl h (fun v2 h => ?_)
  refine q_icmp_ge (tgt := 53) C dX12_isDigit_8 (by decide) h (fun _ h => ?_) (fun _ h => ?_)
  · refine q_aload_n C dX12_isDigit_11 rfl ?_
    refine x_getR (ci := 12) (j := 5) C dX12_isDigit_12 lkF_X12_23 rfl h (fun c3 h => ?_)
    refine x_nn h (fun r4 h => ?_)
    refine q_aload_n C dX12_isDigit_15 rfl ?_
    refine x_getI (ci := 12) (j := 8) C dX12_isDigit_16 lkF_X12_121 rfl h (fun v5 h => ?_)
    refine q_aload_n C dX12_isDigit_19 rfl ?_
    refine x_getI (ci := 12) (j := 10) C dX12_isDigit_20 lkF_X12_115 rfl h (fun v6 h => ?_)
    refine q_iadd C dX12_isDigit_23 ?_
    refine x_bald C dX12_isDigit_24 h (fun v7 h => ?_)
    refine x_bipush (v := (48 : Int32)) C dX12_isDigit_25 (by decide) ?_
    refine q_icmp_lt (tgt := 53) C dX12_isDigit_27 (by decide) h (fun _ h => ?_) (fun _ h => ?_)
    · refine x_iconst (v := (0 : Int32)) C dX12_isDigit_53 (by decide) ?_
      exact q_zret (res := (r, M)) C dX12_isDigit_54 rfl (by decide) (by decide) (q_rqE h).1 (congrArg (fun z => (z, M)) (q_rqE h).2)
    · refine q_aload_n C dX12_isDigit_30 rfl ?_
      refine x_getR (ci := 12) (j := 5) C dX12_isDigit_31 lkF_X12_23 rfl h (fun c8 h => ?_)
      refine x_nn h (fun r9 h => ?_)
      refine q_aload_n C dX12_isDigit_34 rfl ?_
      refine x_getI (ci := 12) (j := 8) C dX12_isDigit_35 lkF_X12_121 rfl h (fun v10 h => ?_)
      refine q_aload_n C dX12_isDigit_38 rfl ?_
      refine x_getI (ci := 12) (j := 10) C dX12_isDigit_39 lkF_X12_115 rfl h (fun v11 h => ?_)
      refine q_iadd C dX12_isDigit_42 ?_
      refine x_bald C dX12_isDigit_43 h (fun v12 h => ?_)
      refine x_bipush (v := (57 : Int32)) C dX12_isDigit_44 (by decide) ?_
      refine q_icmp_gt (tgt := 53) C dX12_isDigit_46 (by decide) h (fun _ h => ?_) (fun _ h => ?_)
      · refine x_iconst (v := (0 : Int32)) C dX12_isDigit_53 (by decide) ?_
        exact q_zret (res := (r, M)) C dX12_isDigit_54 rfl (by decide) (by decide) (q_rqE h).1 (congrArg (fun z => (z, M)) (q_rqE h).2)
      · refine x_iconst (v := (1 : Int32)) C dX12_isDigit_49 (by decide) ?_
        refine q_goto (tgt := 54) C dX12_isDigit_50 (by decide) ?_
        exact q_zret (res := (r, M)) C dX12_isDigit_54 rfl (by decide) (by decide) (q_rqE h).1 (congrArg (fun z => (z, M)) (q_rqE h).2)
  · refine x_iconst (v := (0 : Int32)) C dX12_isDigit_53 (by decide) ?_
    exact q_zret (res := (r, M)) C dX12_isDigit_54 rfl (by decide) (by decide) (q_rqE h).1 (congrArg (fun z => (z, M)) (q_rqE h).2)
noncomputable def F_X12_here (l0 : Nat) (M : q_Mem) : Option (Int32) := (q_gI M l0 12 10 (fun v1 => (q_gI M l0 12 9 (fun v2 => (if v1 < v2 then (q_gR M l0 12 5 (fun c3 => q_nn c3 (fun r4 => (q_gI M l0 12 8 (fun v5 => (q_gI M l0 12 10 (fun v6 => (q_lI M 1 r4 (v5 + v6) (fun v7 => some (v7 &&& (255 : Int32))))))))))) else some (-1 : Int32))))))
set_option maxRecDepth 100000 in
set_option maxHeartbeats 4000000 in
theorem c_X12_here (l : Launch) (G : q_G) (l0 : Nat) (M : q_Mem) {r : Int32} (h : F_X12_here l0 M = some r) : q_Met l G yX12_here cX12_here 1 (Option.some Jvm.ClassFile.FieldType.int) 1 0 0 [.ref l0] M (some (.int r)) M := by
  unfold F_X12_here at h
  refine q_enter [some (.ref l0)] (by decide) (Nat.le_of_ble_eq_true rfl) rfl (fun K C => ?_)
  refine q_aload_n C dX12_here_0 rfl ?_
  refine x_getI (ci := 12) (j := 10) C dX12_here_1 lkF_X12_115 rfl h (fun v1 h => ?_)
  refine q_aload_n C dX12_here_4 rfl ?_
  refine x_getI (ci := 12) (j := 9) C dX12_here_5 lkF_X12_118 rfl h (fun v2 h => ?_)
  refine q_icmp_ge (tgt := 32) C dX12_here_8 (by decide) h (fun _ h => ?_) (fun _ h => ?_)
  · refine q_aload_n C dX12_here_11 rfl ?_
    refine x_getR (ci := 12) (j := 5) C dX12_here_12 lkF_X12_23 rfl h (fun c3 h => ?_)
    refine x_nn h (fun r4 h => ?_)
    refine q_aload_n C dX12_here_15 rfl ?_
    refine x_getI (ci := 12) (j := 8) C dX12_here_16 lkF_X12_121 rfl h (fun v5 h => ?_)
    refine q_aload_n C dX12_here_19 rfl ?_
    refine x_getI (ci := 12) (j := 10) C dX12_here_20 lkF_X12_115 rfl h (fun v6 h => ?_)
    refine q_iadd C dX12_here_23 ?_
    refine x_bald C dX12_here_24 h (fun v7 h => ?_)
    refine x_sipush (v := (255 : Int32)) C dX12_here_25 (by decide) ?_
    refine q_iand C dX12_here_28 ?_
    refine q_goto (tgt := 33) C dX12_here_29 (by decide) ?_
    exact q_iret (res := (r, M)) C dX12_here_33 rfl (by decide) (by decide) (congrArg (fun z => (z, M)) (Option.some.inj h))
  · refine x_iconst (v := (-1 : Int32)) C dX12_here_32 (by decide) ?_
    exact q_iret (res := (r, M)) C dX12_here_33 rfl (by decide) (by decide) (congrArg (fun z => (z, M)) (Option.some.inj h))
noncomputable def J_X12_number_67 (l0 : Nat) (l1 : Int32) (l2 : Int32) (l4 : Int32) (M : q_Mem) : Option (Int32 × q_Mem) := (q_ob M l0 12 ((F_X12_isDigit l0 M).bind (fun u9 => (if u9 = 0 then ((F_X12_isIn l4.toInt64 l1.toInt64 l2.toInt64 M).bind (fun u10 => (if u10 = 0 then (q_gI M l0 12 10 (fun v11 => (q_pI M l0 12 10 (v11 - (1 : Int32)) (fun M12 => (q_ob M12 l0 12 ((F_X12_fails l0 M12).bind (fun x => match x with | (u13, M14) => some (l4, M14)))))))) else some (l4, M)))) else (q_ob M l0 12 ((F_X12_fails l0 M).bind (fun x => match x with | (u15, M16) => some ((0 : Int32), M16))))))))
set_option maxRecDepth 100000 in
set_option maxHeartbeats 4000000 in
theorem jW_X12_number_67 {K : q_K} (C : q_C K yX12_number cX12_number 5 (Option.some Jvm.ClassFile.FieldType.int) 2 0 0) (l0 : Nat) (l1 : Int32) (l2 : Int32) (l4 : Int32) (M : q_Mem) {r : Int32} {M' : q_Mem} (h : J_X12_number_67 l0 l1 l2 l4 M = some (r, M')) : q_W K 5 (q_Q K (some (.int r)) M' 0 0) 0 0 M 67 [some (.ref l0), some (.int l1), some (.int l2), none, some (.int l4)] [] := by
  unfold J_X12_number_67 at h
  refine q_aload_n C dX12_number_67 rfl ?_
  obtain ⟨hk, h⟩ := q_obE h
  obtain ⟨u9, e1, h⟩ := q_bind h
  refine x_callV0 C dX12_number_68 lkM_X12_164 mV_X12_isDigit ⟨_, rfl, rfl⟩ hk (c_X12_isDigit _ _ _ _ e1) rfl rfl (Nat.le_of_ble_eq_true rfl) (by decide) (by decide) ?_
  refine q_if_eq (tgt := 81) C dX12_number_71 (by decide) h (fun _ h => ?_) (fun _ h => ?_)
  · refine q_iload C dX12_number_81 rfl ?_
    refine q_i2l C dX12_number_83 ?_
    refine q_iload_n C dX12_number_84 rfl ?_
    refine q_i2l C dX12_number_85 ?_
    refine q_iload_n C dX12_number_86 rfl ?_
    refine q_i2l C dX12_number_87 ?_
    obtain ⟨u10, e1, h⟩ := q_bind h
    refine x_callS0 C dX12_number_88 lkM_X12_213 mS_X12_isIn (c_X12_isIn _ _ _ _ _ _ e1) rfl rfl (Nat.le_of_ble_eq_true rfl) (by decide) (by decide) ?_
    refine q_if_ne (tgt := 109) C dX12_number_91 (by decide) h (fun _ h => ?_) (fun _ h => ?_)
    · refine q_aload_n C dX12_number_94 rfl ?_
      refine q_dup C dX12_number_95 rfl ?_
      refine x_getI (ci := 12) (j := 10) C dX12_number_96 lkF_X12_115 rfl h (fun v11 h => ?_)
      refine x_iconst (v := (1 : Int32)) C dX12_number_99 (by decide) ?_
      refine q_isub C dX12_number_100 ?_
      refine x_putI (ci := 12) (j := 10) C dX12_number_101 lkF_X12_115 (fun r hr => by cases hr; rfl) rfl h (fun M12 h => ?_)
      refine q_aload_n C dX12_number_104 rfl ?_
      obtain ⟨hk, h⟩ := q_obE h
      obtain ⟨⟨u13, M14⟩, e1, h⟩ := q_bind h
      refine x_callV0 C dX12_number_105 lkM_X12_130 mV_X12_fails ⟨_, rfl, rfl⟩ hk (c_X12_fails _ _ _ _ e1) rfl rfl (Nat.le_of_ble_eq_true rfl) (by decide) (by decide) ?_
      refine q_pop C dX12_number_108 rfl ?_
      refine q_iload C dX12_number_109 rfl ?_
      exact q_iret C dX12_number_111 rfl (by decide) (by decide) (Option.some.inj h)
    · refine q_iload C dX12_number_109 rfl ?_
      exact q_iret C dX12_number_111 rfl (by decide) (by decide) (Option.some.inj h)
  · refine q_aload_n C dX12_number_74 rfl ?_
    obtain ⟨hk, h⟩ := q_obE h
    obtain ⟨⟨u15, M16⟩, e1, h⟩ := q_bind h
    refine x_callV0 C dX12_number_75 lkM_X12_130 mV_X12_fails ⟨_, rfl, rfl⟩ hk (c_X12_fails _ _ _ _ e1) rfl rfl (Nat.le_of_ble_eq_true rfl) (by decide) (by decide) ?_
    refine q_pop C dX12_number_78 rfl ?_
    refine x_iconst (v := (0 : Int32)) C dX12_number_79 (by decide) ?_
    exact q_iret C dX12_number_80 rfl (by decide) (by decide) (Option.some.inj h)
noncomputable def F_X12_number (l0 : Nat) (l1 : Int32) (l2 : Int32) (M : q_Mem) : Option (Int32 × q_Mem) := (q_ob M l0 12 ((F_X12_look l0 M).bind (fun x => match x with | (u1, M2) => (q_ob M2 l0 12 ((F_X12_isDigit l0 M2).bind (fun u3 => (if u3 = 0 then (q_ob M2 l0 12 ((F_X12_fails l0 M2).bind (fun x => match x with | (u4, M5) => some ((0 : Int32), M5)))) else (q_gI M2 l0 12 10 (fun v6 => (q_pI M2 l0 12 10 (v6 + (1 : Int32)) (fun M7 => (q_ob M7 l0 12 ((F_X12_isDigit l0 M7).bind (fun u8 => (if u8 = 0 then J_X12_number_67 l0 l1 l2 (u1 - (48 : Int32)) M7 else (q_ob M7 l0 12 ((F_X12_here l0 M7).bind (fun u17 => (q_gI M7 l0 12 10 (fun v18 => (q_pI M7 l0 12 10 (v18 + (1 : Int32)) (fun M19 => J_X12_number_67 l0 l1 l2 ((((10 : Int32) * (u1 - (48 : Int32))) + u17) - (48 : Int32)) M19))))))))))))))))))))))
set_option maxRecDepth 100000 in
set_option maxHeartbeats 4000000 in
theorem c_X12_number (l : Launch) (G : q_G) (l0 : Nat) (l1 : Int32) (l2 : Int32) (M : q_Mem) {r : Int32} {M' : q_Mem} (h : F_X12_number l0 l1 l2 M = some (r, M')) : q_Met l G yX12_number cX12_number 5 (Option.some Jvm.ClassFile.FieldType.int) 2 0 0 [.ref l0, .int l1, .int l2] M (some (.int r)) M' := by
  unfold F_X12_number at h
  refine q_enter [some (.ref l0), some (.int l1), some (.int l2), none, none] (by decide) (Nat.le_of_ble_eq_true rfl) rfl (fun K C => ?_)
  refine q_aload_n C dX12_number_0 rfl ?_
  obtain ⟨hk, h⟩ := q_obE h
  obtain ⟨⟨u1, M2⟩, e1, h⟩ := q_bind h
  refine x_callV0 C dX12_number_1 lkM_X12_134 mV_X12_look ⟨_, rfl, rfl⟩ hk (c_X12_look _ _ _ _ e1) rfl rfl (Nat.le_of_ble_eq_true rfl) (by decide) (by decide) ?_
  refine q_istore_n (L' := [some (.ref l0), some (.int l1), some (.int l2), some (.int u1), none]) C dX12_number_4 (by decide) rfl rfl ?_
  refine q_aload_n C dX12_number_5 rfl ?_
  obtain ⟨hk, h⟩ := q_obE h
  obtain ⟨u3, e1, h⟩ := q_bind h
  refine x_callV0 C dX12_number_6 lkM_X12_164 mV_X12_isDigit ⟨_, rfl, rfl⟩ hk (c_X12_isDigit _ _ _ _ e1) rfl rfl (Nat.le_of_ble_eq_true rfl) (by decide) (by decide) ?_
  refine q_if_ne (tgt := 19) C dX12_number_9 (by decide) h (fun _ h => ?_) (fun _ h => ?_)
  · refine q_aload_n C dX12_number_12 rfl ?_
    obtain ⟨hk, h⟩ := q_obE h
    obtain ⟨⟨u4, M5⟩, e1, h⟩ := q_bind h
    refine x_callV0 C dX12_number_13 lkM_X12_130 mV_X12_fails ⟨_, rfl, rfl⟩ hk (c_X12_fails _ _ _ _ e1) rfl rfl (Nat.le_of_ble_eq_true rfl) (by decide) (by decide) ?_
    refine q_pop C dX12_number_16 rfl ?_
    refine x_iconst (v := (0 : Int32)) C dX12_number_17 (by decide) ?_
    exact q_iret C dX12_number_18 rfl (by decide) (by decide) (Option.some.inj h)
  · refine q_iload_n C dX12_number_19 rfl ?_
    refine x_bipush (v := (48 : Int32)) C dX12_number_20 (by decide) ?_
    refine q_isub C dX12_number_22 ?_
    refine q_istore (L' := [some (.ref l0), some (.int l1), some (.int l2), some (.int u1), some (.int (u1 - (48 : Int32)))]) C dX12_number_23 (by decide) rfl rfl ?_
    refine q_aload_n C dX12_number_25 rfl ?_
    refine q_dup C dX12_number_26 rfl ?_
    refine x_getI (ci := 12) (j := 10) C dX12_number_27 lkF_X12_115 rfl h (fun v6 h => ?_)
    refine x_iconst (v := (1 : Int32)) C dX12_number_30 (by decide) ?_
    refine q_iadd C dX12_number_31 ?_
    refine x_putI (ci := 12) (j := 10) C dX12_number_32 lkF_X12_115 (fun r hr => by cases hr; rfl) rfl h (fun M7 h => ?_)
    refine q_aload_n C dX12_number_35 rfl ?_
    obtain ⟨hk, h⟩ := q_obE h
    obtain ⟨u8, e1, h⟩ := q_bind h
    refine x_callV0 C dX12_number_36 lkM_X12_164 mV_X12_isDigit ⟨_, rfl, rfl⟩ hk (c_X12_isDigit _ _ _ _ e1) rfl rfl (Nat.le_of_ble_eq_true rfl) (by decide) (by decide) ?_
    refine q_if_eq (tgt := 67) C dX12_number_39 (by decide) h (fun _ h => ?_) (fun _ h => ?_)
    · exact q_msk [true, true, true, false, true] (jW_X12_number_67 C l0 l1 l2 (u1 - (48 : Int32)) M7 h)
    · refine x_bipush (v := (10 : Int32)) C dX12_number_42 (by decide) ?_
      refine q_iload C dX12_number_44 rfl ?_
      refine q_imul C dX12_number_46 ?_
      refine q_aload_n C dX12_number_47 rfl ?_
      obtain ⟨hk, h⟩ := q_obE h
      obtain ⟨u17, e1, h⟩ := q_bind h
      refine x_callV0 C dX12_number_48 lkM_X12_210 mV_X12_here ⟨_, rfl, rfl⟩ hk (c_X12_here _ _ _ _ e1) rfl rfl (Nat.le_of_ble_eq_true rfl) (by decide) (by decide) ?_
      refine q_iadd C dX12_number_51 ?_
      refine x_bipush (v := (48 : Int32)) C dX12_number_52 (by decide) ?_
      refine q_isub C dX12_number_54 ?_
      refine q_istore (L' := [some (.ref l0), some (.int l1), some (.int l2), some (.int u1), some (.int ((((10 : Int32) * (u1 - (48 : Int32))) + u17) - (48 : Int32)))]) C dX12_number_55 (by decide) rfl rfl ?_
      refine q_aload_n C dX12_number_57 rfl ?_
      refine q_dup C dX12_number_58 rfl ?_
      refine x_getI (ci := 12) (j := 10) C dX12_number_59 lkF_X12_115 rfl h (fun v18 h => ?_)
      refine x_iconst (v := (1 : Int32)) C dX12_number_62 (by decide) ?_
      refine q_iadd C dX12_number_63 ?_
      refine x_putI (ci := 12) (j := 10) C dX12_number_64 lkF_X12_115 (fun r hr => by cases hr; rfl) rfl h (fun M19 h => ?_)
      exact q_msk [true, true, true, false, true] (jW_X12_number_67 C l0 l1 l2 ((((10 : Int32) * (u1 - (48 : Int32))) + u17) - (48 : Int32)) M19 h)
noncomputable def B_X12_readItems_3 (l0 : Nat) (l1 : Int32) (l2 : Nat) (l3 : Int32) (l4 : Nat) (l5 : Int32) (M : q_Mem) : Option ((Int32 × q_Mem) ⊕ (q_Mem)) := (q_ob M l4 14 ((F_J0_length_8abf5 l4 M).bind (fun u1 => (if l5 < u1 then ((F_X12_usual l1 l5 M).bind (fun u2 => (q_tI M l2 (l3 + l5) u2 (fun M3 => some (.inl ((l5 + (1 : Int32)), M3)))))) else some (.inr M)))))
set_option maxRecDepth 100000 in
set_option maxHeartbeats 4000000 in
theorem bW_X12_readItems_3 {K : q_K} {Q : State → Prop} (C : q_C K yX12_readItems cX12_readItems 7 (Option.none : Option Jvm.ClassFile.FieldType) 6 0 0) (l0 : Nat) (l1 : Int32) (l2 : Nat) (l3 : Int32) (l4 : Nat) (l5 : Int32) (M : q_Mem) {stp : (Int32 × q_Mem) ⊕ (q_Mem)} (h : B_X12_readItems_3 l0 l1 l2 l3 l4 l5 M = some stp) (kC : ∀ (l5 : Int32) (M : q_Mem), stp = .inl (l5, M) → q_W K 7 Q 0 0 M 3 [some (.ref l0), some (.int l1), some (.ref l2), some (.int l3), some (.ref l4), some (.int l5), none] []) (kE0 : ∀ (M : q_Mem), stp = .inr M → q_W K 7 Q 0 0 M 31 [some (.ref l0), some (.int l1), some (.ref l2), some (.int l3), some (.ref l4), none, none] []) : q_W K 7 Q 0 0 M 3 [some (.ref l0), some (.int l1), some (.ref l2), some (.int l3), some (.ref l4), some (.int l5), none] [] := by
  unfold B_X12_readItems_3 at h
  refine q_iload C dX12_readItems_3 rfl ?_
  refine q_aload C dX12_readItems_5 rfl ?_
  obtain ⟨hk, h⟩ := q_obE h
  obtain ⟨u1, e1, h⟩ := q_bind h
  refine x_callT C dX12_readItems_7 wd_1405 mV_J0_length_8abf5 rfl hk (c_J0_length_8abf5 _ _ _ _ e1) rfl rfl (Nat.le_of_ble_eq_true rfl) (by decide) (by decide) ?_
  refine q_icmp_ge (tgt := 31) C dX12_readItems_10 (by decide) h (fun _ h => ?_) (fun _ h => ?_)
  · refine q_aload_n C dX12_readItems_13 rfl ?_
    refine q_iload_n C dX12_readItems_14 rfl ?_
    refine q_iload C dX12_readItems_15 rfl ?_
    refine q_iadd C dX12_readItems_17 ?_
    refine q_iload_n C dX12_readItems_18 rfl ?_
    refine q_iload C dX12_readItems_19 rfl ?_
    obtain ⟨u2, e1, h⟩ := q_bind h
    refine x_callS0 C dX12_readItems_21 lkM_X12_217 mS_X12_usual (c_X12_usual _ _ _ _ _ e1) rfl rfl (Nat.le_of_ble_eq_true rfl) (by decide) (by decide) ?_
    refine x_iast C dX12_readItems_24 h (fun M3 h => ?_)
    refine x_iinc (w := (1 : Int32)) (L' := [some (.ref l0), some (.int l1), some (.ref l2), some (.int l3), some (.ref l4), some (.int (l5 + (1 : Int32))), none]) C dX12_readItems_25 rfl (by decide) (by decide) rfl rfl ?_
    refine q_goto (tgt := 3) C dX12_readItems_28 (by decide) ?_
    exact q_msk [true, true, true, true, true, true, false] (kC _ _ (Option.some.inj h).symm)
  · exact q_msk [true, true, true, true, true, false, false] (kE0 _ (Option.some.inj h).symm)
set_option maxRecDepth 100000 in
set_option maxHeartbeats 4000000 in
theorem lW_X12_readItems_3 {K : q_K} {Q : State → Prop} (C : q_C K yX12_readItems cX12_readItems 7 (Option.none : Option Jvm.ClassFile.FieldType) 6 0 0) (l0 : Nat) (l1 : Int32) (l2 : Nat) (l3 : Int32) (l4 : Nat) (n : Nat) : ∀ (l5 : Int32) (M : q_Mem) (e : (q_Mem)), q_lp (fun s => B_X12_readItems_3 l0 l1 l2 l3 l4 s.1 s.2) n (l5, M) = some e → (∀ (M : q_Mem), e = M → q_W K 7 Q 0 0 M 31 [some (.ref l0), some (.int l1), some (.ref l2), some (.int l3), some (.ref l4), none, none] []) → q_W K 7 Q 0 0 M 3 [some (.ref l0), some (.int l1), some (.ref l2), some (.int l3), some (.ref l4), some (.int l5), none] [] := by
  induction n with
  | zero => intro l5 M e h; cases h
  | succ n ih =>
    intro l5 M e h kE0
    obtain ⟨stp, e1, e2⟩ := q_bind h
    refine bW_X12_readItems_3 C l0 l1 l2 l3 l4 l5 M e1 (fun a0 a1 hs => ?_) (fun b0 hs => ?_)
    · subst hs; exact ih _ _ _ e2 kE0
    · subst hs; exact kE0 _ (Option.some.inj e2).symm
noncomputable def J_X12_readItems_117_45 (l0 : Nat) (l1 : Int32) (l2 : Nat) (l3 : Int32) (l4 : Nat) (l5 : Int32) (l6 : Int32) (s0 : Nat) (s1 : Int32) (s2 : Nat) (s3 : Int32) (M : q_Mem) : Option ((Int32 × Int32 × q_Mem) ⊕ ((q_Mem) ⊕ (q_Mem))) := ((F_X12_mostOf l1 l6 M).bind (fun u14 => (q_ob M s2 12 ((F_X12_number s2 s3 u14 M).bind (fun x => match x with | (u15, M16) => (q_tI M16 s0 s1 u15 (fun M17 => (q_gI M17 l0 12 11 (fun v18 => (if v18 = (-1 : Int32) then (q_ob M17 l0 12 ((F_X12_look l0 M17).bind (fun x => match x with | (u19, M20) => ((F_X12_spotOf l4 u19 M20).bind (fun x => match x with | (u21, M22) => some (.inl (l5, u21, M22))))))) else some (.inl (l5, l6, M17))))))))))))
set_option maxRecDepth 100000 in
set_option maxHeartbeats 4000000 in
theorem jW_X12_readItems_117_45 {K : q_K} {Q : State → Prop} (C : q_C K yX12_readItems cX12_readItems 7 (Option.none : Option Jvm.ClassFile.FieldType) 6 0 0) (l0 : Nat) (l1 : Int32) (l2 : Nat) (l3 : Int32) (l4 : Nat) (l5 : Int32) (l6 : Int32) (s0 : Nat) (s1 : Int32) (s2 : Nat) (s3 : Int32) (M : q_Mem) {stp : (Int32 × Int32 × q_Mem) ⊕ ((q_Mem) ⊕ (q_Mem))} (h : J_X12_readItems_117_45 l0 l1 l2 l3 l4 l5 l6 s0 s1 s2 s3 M = some stp) (kC : ∀ (l5 : Int32) (l6 : Int32) (M : q_Mem), stp = .inl (l5, l6, M) → q_W K 7 Q 0 0 M 45 [some (.ref l0), some (.int l1), some (.ref l2), some (.int l3), some (.ref l4), some (.int l5), some (.int l6)] []) (kE0 : ∀ (M : q_Mem), stp = .inr (.inl M) → q_W K 7 Q 0 0 M 69 [some (.ref l0), none, none, none, none, none, none] []) (kE1 : ∀ (M : q_Mem), stp = .inr (.inr M) → q_W K 7 Q 0 0 M 149 [none, none, none, none, none, none, none] []) : q_W K 7 Q 0 0 M 117 [some (.ref l0), some (.int l1), some (.ref l2), some (.int l3), some (.ref l4), some (.int l5), some (.int l6)] [.int s3, .ref s2, .int s1, .ref s0] := by
  unfold J_X12_readItems_117_45 at h
  refine q_iload_n C dX12_readItems_117 rfl ?_
  refine q_iload C dX12_readItems_118 rfl ?_
  obtain ⟨u14, e1, h⟩ := q_bind h
  refine x_callS0 C dX12_readItems_120 lkM_X12_229 mS_X12_mostOf (c_X12_mostOf _ _ _ _ _ e1) rfl rfl (Nat.le_of_ble_eq_true rfl) (by decide) (by decide) ?_
  obtain ⟨hk, h⟩ := q_obE h
  obtain ⟨⟨u15, M16⟩, e1, h⟩ := q_bind h
  refine x_callV0 C dX12_readItems_123 lkM_X12_232 mV_X12_number ⟨_, rfl, rfl⟩ hk (c_X12_number _ _ _ _ _ _ e1) rfl rfl (Nat.le_of_ble_eq_true rfl) (by decide) (by decide) ?_
  refine x_iast C dX12_readItems_126 h (fun M17 h => ?_)
  refine q_aload_n C dX12_readItems_127 rfl ?_
  refine x_getI (ci := 12) (j := 11) C dX12_readItems_128 lkF_X12_124 rfl h (fun v18 h => ?_)
  refine x_iconst (v := (-1 : Int32)) C dX12_readItems_131 (by decide) ?_
  refine q_icmp_ne (tgt := 45) C dX12_readItems_132 (by decide) h (fun _ h => ?_) (fun _ h => ?_)
  · refine q_aload C dX12_readItems_135 rfl ?_
    refine q_aload_n C dX12_readItems_137 rfl ?_
    obtain ⟨hk, h⟩ := q_obE h
    obtain ⟨⟨u19, M20⟩, e1, h⟩ := q_bind h
    refine x_callV0 C dX12_readItems_138 lkM_X12_134 mV_X12_look ⟨_, rfl, rfl⟩ hk (c_X12_look _ _ _ _ e1) rfl rfl (Nat.le_of_ble_eq_true rfl) (by decide) (by decide) ?_
    obtain ⟨⟨u21, M22⟩, e1, h⟩ := q_bind h
    refine x_callS0 C dX12_readItems_141 lkM_X12_221 mS_X12_spotOf (c_X12_spotOf _ _ _ _ _ e1) rfl rfl (Nat.le_of_ble_eq_true rfl) (by decide) (by decide) ?_
    refine q_istore (L' := [some (.ref l0), some (.int l1), some (.ref l2), some (.int l3), some (.ref l4), some (.int l5), some (.int u21)]) C dX12_readItems_144 (by decide) rfl rfl ?_
    refine q_goto (tgt := 45) C dX12_readItems_146 (by decide) ?_
    exact q_msk [true, true, true, true, true, true, true] (kC _ _ _ (Option.some.inj h).symm)
  · exact q_msk [true, true, true, true, true, true, true] (kC _ _ _ (Option.some.inj h).symm)
noncomputable def J_X12_readItems_116_45 (l0 : Nat) (l1 : Int32) (l2 : Nat) (l3 : Int32) (l4 : Nat) (l5 : Int32) (l6 : Int32) (s0 : Nat) (s1 : Int32) (s2 : Nat) (M : q_Mem) : Option ((Int32 × Int32 × q_Mem) ⊕ ((q_Mem) ⊕ (q_Mem))) := J_X12_readItems_117_45 l0 l1 l2 l3 l4 l5 l6 s0 s1 s2 (0 : Int32) M
set_option maxRecDepth 100000 in
set_option maxHeartbeats 4000000 in
theorem jW_X12_readItems_116_45 {K : q_K} {Q : State → Prop} (C : q_C K yX12_readItems cX12_readItems 7 (Option.none : Option Jvm.ClassFile.FieldType) 6 0 0) (l0 : Nat) (l1 : Int32) (l2 : Nat) (l3 : Int32) (l4 : Nat) (l5 : Int32) (l6 : Int32) (s0 : Nat) (s1 : Int32) (s2 : Nat) (M : q_Mem) {stp : (Int32 × Int32 × q_Mem) ⊕ ((q_Mem) ⊕ (q_Mem))} (h : J_X12_readItems_116_45 l0 l1 l2 l3 l4 l5 l6 s0 s1 s2 M = some stp) (kC : ∀ (l5 : Int32) (l6 : Int32) (M : q_Mem), stp = .inl (l5, l6, M) → q_W K 7 Q 0 0 M 45 [some (.ref l0), some (.int l1), some (.ref l2), some (.int l3), some (.ref l4), some (.int l5), some (.int l6)] []) (kE0 : ∀ (M : q_Mem), stp = .inr (.inl M) → q_W K 7 Q 0 0 M 69 [some (.ref l0), none, none, none, none, none, none] []) (kE1 : ∀ (M : q_Mem), stp = .inr (.inr M) → q_W K 7 Q 0 0 M 149 [none, none, none, none, none, none, none] []) : q_W K 7 Q 0 0 M 116 [some (.ref l0), some (.int l1), some (.ref l2), some (.int l3), some (.ref l4), some (.int l5), some (.int l6)] [.ref s2, .int s1, .ref s0] := by
  unfold J_X12_readItems_116_45 at h
  refine x_iconst (v := (0 : Int32)) C dX12_readItems_116 (by decide) ?_
  exact q_msk [true, true, true, true, true, true, true] (jW_X12_readItems_117_45 C l0 l1 l2 l3 l4 l5 l6 s0 s1 s2 (0 : Int32) M h kC kE0 kE1)
noncomputable def B_X12_readItems_45 (l0 : Nat) (l1 : Int32) (l2 : Nat) (l3 : Int32) (l4 : Nat) (l5 : Int32) (l6 : Int32) (M : q_Mem) : Option ((Int32 × Int32 × q_Mem) ⊕ ((q_Mem) ⊕ (q_Mem))) := (if l6 = (-1 : Int32) then some (.inr (.inr M)) else (q_gI M l0 12 11 (fun v10 => (if v10 = (-1 : Int32) then ((F_X12_has l5 l6 M).bind (fun u11 => (if u11 = 0 then (q_gI M l0 12 10 (fun v12 => (q_pI M l0 12 10 (v12 + (1 : Int32)) (fun M13 => (if l1 = (103 : Int32) then (if l6 = (1 : Int32) then J_X12_readItems_117_45 l0 l1 l2 l3 l4 (l5 ||| ((1 : Int32) <<< (l6 &&& 31))) l6 l2 (l3 + l6) l0 (1 : Int32) M13 else J_X12_readItems_116_45 l0 l1 l2 l3 l4 (l5 ||| ((1 : Int32) <<< (l6 &&& 31))) l6 l2 (l3 + l6) l0 M13) else J_X12_readItems_116_45 l0 l1 l2 l3 l4 (l5 ||| ((1 : Int32) <<< (l6 &&& 31))) l6 l2 (l3 + l6) l0 M13))))) else some (.inr (.inl M))))) else some (.inr (.inr M))))))
set_option maxRecDepth 100000 in
set_option maxHeartbeats 4000000 in
theorem bW_X12_readItems_45 {K : q_K} {Q : State → Prop} (C : q_C K yX12_readItems cX12_readItems 7 (Option.none : Option Jvm.ClassFile.FieldType) 6 0 0) (l0 : Nat) (l1 : Int32) (l2 : Nat) (l3 : Int32) (l4 : Nat) (l5 : Int32) (l6 : Int32) (M : q_Mem) {stp : (Int32 × Int32 × q_Mem) ⊕ ((q_Mem) ⊕ (q_Mem))} (h : B_X12_readItems_45 l0 l1 l2 l3 l4 l5 l6 M = some stp) (kC : ∀ (l5 : Int32) (l6 : Int32) (M : q_Mem), stp = .inl (l5, l6, M) → q_W K 7 Q 0 0 M 45 [some (.ref l0), some (.int l1), some (.ref l2), some (.int l3), some (.ref l4), some (.int l5), some (.int l6)] []) (kE0 : ∀ (M : q_Mem), stp = .inr (.inl M) → q_W K 7 Q 0 0 M 69 [some (.ref l0), none, none, none, none, none, none] []) (kE1 : ∀ (M : q_Mem), stp = .inr (.inr M) → q_W K 7 Q 0 0 M 149 [none, none, none, none, none, none, none] []) : q_W K 7 Q 0 0 M 45 [some (.ref l0), some (.int l1), some (.ref l2), some (.int l3), some (.ref l4), some (.int l5), some (.int l6)] [] := by
  unfold B_X12_readItems_45 at h
  refine q_iload C dX12_readItems_45 rfl ?_
  refine x_iconst (v := (-1 : Int32)) C dX12_readItems_47 (by decide) ?_
  refine q_icmp_eq (tgt := 149) C dX12_readItems_48 (by decide) h (fun _ h => ?_) (fun _ h => ?_)
  · exact q_msk [false, false, false, false, false, false, false] (kE1 _ (Option.some.inj h).symm)
  · refine q_aload_n C dX12_readItems_51 rfl ?_
    refine x_getI (ci := 12) (j := 11) C dX12_readItems_52 lkF_X12_124 rfl h (fun v10 h => ?_)
    refine x_iconst (v := (-1 : Int32)) C dX12_readItems_55 (by decide) ?_
    refine q_icmp_ne (tgt := 149) C dX12_readItems_56 (by decide) h (fun _ h => ?_) (fun _ h => ?_)
    · refine q_iload C dX12_readItems_59 rfl ?_
      refine q_iload C dX12_readItems_61 rfl ?_
      obtain ⟨u11, e1, h⟩ := q_bind h
      refine x_callS0 C dX12_readItems_63 lkM_X12_225 mS_X12_has (c_X12_has _ _ _ _ _ e1) rfl rfl (Nat.le_of_ble_eq_true rfl) (by decide) (by decide) ?_
      refine q_if_eq (tgt := 75) C dX12_readItems_66 (by decide) h (fun _ h => ?_) (fun _ h => ?_)
      · refine q_iload C dX12_readItems_75 rfl ?_
        refine x_iconst (v := (1 : Int32)) C dX12_readItems_77 (by decide) ?_
        refine q_iload C dX12_readItems_78 rfl ?_
        refine q_ishl C dX12_readItems_80 ?_
        refine q_ior C dX12_readItems_81 ?_
        refine q_istore (L' := [some (.ref l0), some (.int l1), some (.ref l2), some (.int l3), some (.ref l4), some (.int (l5 ||| ((1 : Int32) <<< (l6 &&& 31)))), some (.int l6)]) C dX12_readItems_82 (by decide) rfl rfl ?_
        refine q_aload_n C dX12_readItems_84 rfl ?_
        refine q_dup C dX12_readItems_85 rfl ?_
        refine x_getI (ci := 12) (j := 10) C dX12_readItems_86 lkF_X12_115 rfl h (fun v12 h => ?_)
        refine x_iconst (v := (1 : Int32)) C dX12_readItems_89 (by decide) ?_
        refine q_iadd C dX12_readItems_90 ?_
        refine x_putI (ci := 12) (j := 10) C dX12_readItems_91 lkF_X12_115 (fun r hr => by cases hr; rfl) rfl h (fun M13 h => ?_)
        refine q_aload_n C dX12_readItems_94 rfl ?_
        refine q_iload_n C dX12_readItems_95 rfl ?_
        refine q_iload C dX12_readItems_96 rfl ?_
        refine q_iadd C dX12_readItems_98 ?_
        refine q_aload_n C dX12_readItems_99 rfl ?_
        refine q_iload_n C dX12_readItems_100 rfl ?_
        refine x_bipush (v := (103 : Int32)) C dX12_readItems_101 (by decide) ?_
        refine q_icmp_ne (tgt := 116) C dX12_readItems_103 (by decide) h (fun _ h => ?_) (fun _ h => ?_)
        · refine q_iload C dX12_readItems_106 rfl ?_
          refine x_iconst (v := (1 : Int32)) C dX12_readItems_108 (by decide) ?_
          refine q_icmp_ne (tgt := 116) C dX12_readItems_109 (by decide) h (fun _ h => ?_) (fun _ h => ?_)
          · refine x_iconst (v := (1 : Int32)) C dX12_readItems_112 (by decide) ?_
            refine q_goto (tgt := 117) C dX12_readItems_113 (by decide) ?_
            exact q_msk [true, true, true, true, true, true, true] (jW_X12_readItems_117_45 C l0 l1 l2 l3 l4 (l5 ||| ((1 : Int32) <<< (l6 &&& 31))) l6 l2 (l3 + l6) l0 (1 : Int32) M13 h kC kE0 kE1)
          · exact q_msk [true, true, true, true, true, true, true] (jW_X12_readItems_116_45 C l0 l1 l2 l3 l4 (l5 ||| ((1 : Int32) <<< (l6 &&& 31))) l6 l2 (l3 + l6) l0 M13 h kC kE0 kE1)
        · exact q_msk [true, true, true, true, true, true, true] (jW_X12_readItems_116_45 C l0 l1 l2 l3 l4 (l5 ||| ((1 : Int32) <<< (l6 &&& 31))) l6 l2 (l3 + l6) l0 M13 h kC kE0 kE1)
      · exact q_msk [true, false, false, false, false, false, false] (kE0 _ (Option.some.inj h).symm)
    · exact q_msk [false, false, false, false, false, false, false] (kE1 _ (Option.some.inj h).symm)
set_option maxRecDepth 100000 in
set_option maxHeartbeats 4000000 in
theorem lW_X12_readItems_45 {K : q_K} {Q : State → Prop} (C : q_C K yX12_readItems cX12_readItems 7 (Option.none : Option Jvm.ClassFile.FieldType) 6 0 0) (l0 : Nat) (l1 : Int32) (l2 : Nat) (l3 : Int32) (l4 : Nat) (n : Nat) : ∀ (l5 : Int32) (l6 : Int32) (M : q_Mem) (e : ((q_Mem) ⊕ (q_Mem))), q_lp (fun s => B_X12_readItems_45 l0 l1 l2 l3 l4 s.1 s.2.1 s.2.2) n (l5, l6, M) = some e → (∀ (M : q_Mem), e = (.inl M) → q_W K 7 Q 0 0 M 69 [some (.ref l0), none, none, none, none, none, none] []) → (∀ (M : q_Mem), e = (.inr M) → q_W K 7 Q 0 0 M 149 [none, none, none, none, none, none, none] []) → q_W K 7 Q 0 0 M 45 [some (.ref l0), some (.int l1), some (.ref l2), some (.int l3), some (.ref l4), some (.int l5), some (.int l6)] [] := by
  induction n with
  | zero => intro l5 l6 M e h; cases h
  | succ n ih =>
    intro l5 l6 M e h kE0 kE1
    obtain ⟨stp, e1, e2⟩ := q_bind h
    refine bW_X12_readItems_45 C l0 l1 l2 l3 l4 l5 l6 M e1 (fun a0 a1 a2 hs => ?_) (fun b0 hs => ?_) (fun b0 hs => ?_)
    · subst hs; exact ih _ _ _ _ e2 kE0 kE1
    · subst hs; exact kE0 _ (Option.some.inj e2).symm
    · subst hs; exact kE1 _ (Option.some.inj e2).symm
noncomputable def F_X12_readItems (l0 : Nat) (l1 : Int32) (l2 : Nat) (l3 : Int32) (l4 : Nat) (M : q_Mem) : Option (Unit × q_Mem) := (q_lp (fun s => B_X12_readItems_3 l0 l1 l2 l3 l4 s.1 s.2) q_fu ((0 : Int32), M)).bind (fun e4 => match e4 with | M5 => (q_ob M5 l0 12 ((F_X12_look l0 M5).bind (fun x => match x with | (u6, M7) => ((F_X12_spotOf l4 u6 M7).bind (fun x => match x with | (u8, M9) => (q_lp (fun s => B_X12_readItems_45 l0 l1 l2 l3 l4 s.1 s.2.1 s.2.2) q_fu ((0 : Int32), u8, M9)).bind (fun e23 => match e23 with | .inl M24 => (q_ob M24 l0 12 ((F_X12_fails l0 M24).bind (fun x => match x with | (u25, M26) => some ((), M26)))) | .inr M27 => some ((), M27))))))))
set_option maxRecDepth 100000 in
set_option maxHeartbeats 4000000 in
theorem c_X12_readItems (l : Launch) (G : q_G) (l0 : Nat) (l1 : Int32) (l2 : Nat) (l3 : Int32) (l4 : Nat) (M : q_Mem) {r : Unit} {M' : q_Mem} (h : F_X12_readItems l0 l1 l2 l3 l4 M = some (r, M')) : q_Met l G yX12_readItems cX12_readItems 7 (Option.none : Option Jvm.ClassFile.FieldType) 6 0 0 [.ref l0, .int l1, .ref l2, .int l3, .ref l4] M none M' := by
  unfold F_X12_readItems at h
  refine q_enter [some (.ref l0), some (.int l1), some (.ref l2), some (.int l3), some (.ref l4), none, none] (by decide) (Nat.le_of_ble_eq_true rfl) rfl (fun K C => ?_)
  refine x_iconst (v := (0 : Int32)) C dX12_readItems_0 (by decide) ?_
  refine q_istore (L' := [some (.ref l0), some (.int l1), some (.ref l2), some (.int l3), some (.ref l4), some (.int (0 : Int32)), none]) C dX12_readItems_1 (by decide) rfl rfl ?_
  obtain ⟨e4, he, h⟩ := q_bind h
  refine q_msk [true, true, true, true, true, true, false] (lW_X12_readItems_3 C l0 l1 l2 l3 l4 q_fu _ _ _ he (fun M5 hs => ?_))
  · have hs := hs.symm
    subst hs
    refine x_iconst (v := (0 : Int32)) C dX12_readItems_31 (by decide) ?_
    refine q_istore (L' := [some (.ref l0), some (.int l1), some (.ref l2), some (.int l3), some (.ref l4), some (.int (0 : Int32)), none]) C dX12_readItems_32 (by decide) rfl rfl ?_
    refine q_aload C dX12_readItems_34 rfl ?_
    refine q_aload_n C dX12_readItems_36 rfl ?_
    obtain ⟨hk, h⟩ := q_obE h
    obtain ⟨⟨u6, M7⟩, e1, h⟩ := q_bind h
    refine x_callV0 C dX12_readItems_37 lkM_X12_134 mV_X12_look ⟨_, rfl, rfl⟩ hk (c_X12_look _ _ _ _ e1) rfl rfl (Nat.le_of_ble_eq_true rfl) (by decide) (by decide) ?_
    obtain ⟨⟨u8, M9⟩, e1, h⟩ := q_bind h
    refine x_callS0 C dX12_readItems_40 lkM_X12_221 mS_X12_spotOf (c_X12_spotOf _ _ _ _ _ e1) rfl rfl (Nat.le_of_ble_eq_true rfl) (by decide) (by decide) ?_
    refine q_istore (L' := [some (.ref l0), some (.int l1), some (.ref l2), some (.int l3), some (.ref l4), some (.int (0 : Int32)), some (.int u8)]) C dX12_readItems_43 (by decide) rfl rfl ?_
    obtain ⟨e23, he, h⟩ := q_bind h
    refine q_msk [true, true, true, true, true, true, true] (lW_X12_readItems_45 C l0 l1 l2 l3 l4 q_fu _ _ _ _ he (fun M24 hs => ?_) (fun M27 hs => ?_))
    · have hs := hs.symm
      subst hs
      refine q_aload_n C dX12_readItems_69 rfl ?_
      obtain ⟨hk, h⟩ := q_obE h
      obtain ⟨⟨u25, M26⟩, e1, h⟩ := q_bind h
      refine x_callV0 C dX12_readItems_70 lkM_X12_130 mV_X12_fails ⟨_, rfl, rfl⟩ hk (c_X12_fails _ _ _ _ e1) rfl rfl (Nat.le_of_ble_eq_true rfl) (by decide) (by decide) ?_
      refine q_pop C dX12_readItems_73 rfl ?_
      exact q_vret C dX12_readItems_74 rfl (by decide) (by decide) (Option.some.inj h)
    · have hs := hs.symm
      subst hs
      exact q_vret C dX12_readItems_149 rfl (by decide) (by decide) (Option.some.inj h)
noncomputable def J_X12_readClause_52 (l0 : Nat) (l1 : Int32) (s0 : Int32) (M : q_Mem) : Option (Unit × q_Mem) := (if s0 = 0 then (q_ob M l0 12 ((F_X12_fails l0 M).bind (fun x => match x with | (u4, M5) => some ((), M5)))) else (q_gI M l0 12 10 (fun v6 => (q_pI M l0 12 10 (v6 + (1 : Int32)) (fun M7 => (if l1 = (115 : Int32) then (q_pZ M7 l0 12 31 (1 : Int32) (fun M8 => (q_gR M8 l0 12 19 (fun c9 => q_nn c9 (fun r10 => (q_ob M8 l0 12 ((F_X12_readItems l0 l1 r10 (0 : Int32) 22 M8).bind (fun x => match x with | (_, M12) => some ((), M12))))))))) else (if l1 = (100 : Int32) then (q_gI M7 l0 12 28 (fun v13 => (q_pI M7 l0 12 28 (v13 + (1 : Int32)) (fun M14 => (q_gR M14 l0 12 21 (fun c15 => q_nn c15 (fun r16 => (q_gI M14 l0 12 28 (fun v17 => (q_ob M14 l0 12 ((F_X12_readItems l0 l1 r16 ((3 : Int32) * (v17 - (1 : Int32))) 24 M14).bind (fun x => match x with | (_, M19) => some ((), M19))))))))))))) else (q_gI M7 l0 12 29 (fun v20 => (q_pI M7 l0 12 29 (v20 + (1 : Int32)) (fun M21 => (q_gR M21 l0 12 23 (fun c22 => q_nn c22 (fun r23 => (q_gI M21 l0 12 29 (fun v24 => (q_ob M21 l0 12 ((F_X12_readItems l0 l1 r23 ((4 : Int32) * (v24 - (1 : Int32))) 26 M21).bind (fun x => match x with | (_, M26) => some ((), M26))))))))))))))))))))
set_option maxRecDepth 100000 in
set_option maxHeartbeats 4000000 in
theorem jW_X12_readClause_52 {K : q_K} (C : q_C K yX12_readClause cX12_readClause 3 (Option.none : Option Jvm.ClassFile.FieldType) 7 0 0) (l0 : Nat) (l1 : Int32) (s0 : Int32) (M : q_Mem) {r : Unit} {M' : q_Mem} (h : J_X12_readClause_52 l0 l1 s0 M = some (r, M')) : q_W K 3 (q_Q K none M' 0 0) 0 0 M 52 [some (.ref l0), some (.int l1), none] [.int s0] := by
  unfold J_X12_readClause_52 at h
  refine q_istore_n (L' := [some (.ref l0), some (.int l1), some (.int s0)]) C dX12_readClause_52 (by decide) rfl rfl ?_
  refine q_iload_n C dX12_readClause_53 rfl ?_
  refine q_if_ne (tgt := 63) C dX12_readClause_54 (by decide) h (fun _ h => ?_) (fun _ h => ?_)
  · refine q_aload_n C dX12_readClause_57 rfl ?_
    obtain ⟨hk, h⟩ := q_obE h
    obtain ⟨⟨u4, M5⟩, e1, h⟩ := q_bind h
    refine x_callV0 C dX12_readClause_58 lkM_X12_130 mV_X12_fails ⟨_, rfl, rfl⟩ hk (c_X12_fails _ _ _ _ e1) rfl rfl (Nat.le_of_ble_eq_true rfl) (by decide) (by decide) ?_
    refine q_pop C dX12_readClause_61 rfl ?_
    exact q_vret C dX12_readClause_62 rfl (by decide) (by decide) (Option.some.inj h)
  · refine q_aload_n C dX12_readClause_63 rfl ?_
    refine q_dup C dX12_readClause_64 rfl ?_
    refine x_getI (ci := 12) (j := 10) C dX12_readClause_65 lkF_X12_115 rfl h (fun v6 h => ?_)
    refine x_iconst (v := (1 : Int32)) C dX12_readClause_68 (by decide) ?_
    refine q_iadd C dX12_readClause_69 ?_
    refine x_putI (ci := 12) (j := 10) C dX12_readClause_70 lkF_X12_115 (fun r hr => by cases hr; rfl) rfl h (fun M7 h => ?_)
    refine q_iload_n C dX12_readClause_73 rfl ?_
    refine x_bipush (v := (115 : Int32)) C dX12_readClause_74 (by decide) ?_
    refine q_icmp_ne (tgt := 99) C dX12_readClause_76 (by decide) h (fun _ h => ?_) (fun _ h => ?_)
    · refine q_aload_n C dX12_readClause_79 rfl ?_
      refine x_iconst (v := (1 : Int32)) C dX12_readClause_80 (by decide) ?_
      refine x_putZ (ci := 12) (j := 31) C dX12_readClause_81 lkF_X12_235 (fun r hr => by cases hr; rfl) rfl h (fun M8 h => ?_)
      refine q_aload_n C dX12_readClause_84 rfl ?_
      refine q_iload_n C dX12_readClause_85 rfl ?_
      refine q_aload_n C dX12_readClause_86 rfl ?_
      refine x_getR (ci := 12) (j := 19) C dX12_readClause_87 lkF_X12_40 rfl h (fun c9 h => ?_)
      refine x_nn h (fun r10 h => ?_)
      refine x_iconst (v := (0 : Int32)) C dX12_readClause_90 (by decide) ?_
      refine q_ldcS (i := 9) C dX12_readClause_91 rfl ?_
      obtain ⟨hk, h⟩ := q_obE h
      obtain ⟨⟨_, M12⟩, e1, h⟩ := q_bind h
      refine x_callVv0 C dX12_readClause_93 lkM_X12_246 mV_X12_readItems ⟨_, rfl, rfl⟩ hk (c_X12_readItems _ _ _ _ _ _ _ _ e1) rfl rfl (Nat.le_of_ble_eq_true rfl) (by decide) (by decide) ?_
      refine q_goto (tgt := 166) C dX12_readClause_96 (by decide) ?_
      exact q_vret C dX12_readClause_166 rfl (by decide) (by decide) (Option.some.inj h)
    · refine q_iload_n C dX12_readClause_99 rfl ?_
      refine x_bipush (v := (100 : Int32)) C dX12_readClause_100 (by decide) ?_
      refine q_icmp_ne (tgt := 137) C dX12_readClause_102 (by decide) h (fun _ h => ?_) (fun _ h => ?_)
      · refine q_aload_n C dX12_readClause_105 rfl ?_
        refine q_dup C dX12_readClause_106 rfl ?_
        refine x_getI (ci := 12) (j := 28) C dX12_readClause_107 lkF_X12_238 rfl h (fun v13 h => ?_)
        refine x_iconst (v := (1 : Int32)) C dX12_readClause_110 (by decide) ?_
        refine q_iadd C dX12_readClause_111 ?_
        refine x_putI (ci := 12) (j := 28) C dX12_readClause_112 lkF_X12_238 (fun r hr => by cases hr; rfl) rfl h (fun M14 h => ?_)
        refine q_aload_n C dX12_readClause_115 rfl ?_
        refine q_iload_n C dX12_readClause_116 rfl ?_
        refine q_aload_n C dX12_readClause_117 rfl ?_
        refine x_getR (ci := 12) (j := 21) C dX12_readClause_118 lkF_X12_46 rfl h (fun c15 h => ?_)
        refine x_nn h (fun r16 h => ?_)
        refine x_iconst (v := (3 : Int32)) C dX12_readClause_121 (by decide) ?_
        refine q_aload_n C dX12_readClause_122 rfl ?_
        refine x_getI (ci := 12) (j := 28) C dX12_readClause_123 lkF_X12_238 rfl h (fun v17 h => ?_)
        refine x_iconst (v := (1 : Int32)) C dX12_readClause_126 (by decide) ?_
        refine q_isub C dX12_readClause_127 ?_
        refine q_imul C dX12_readClause_128 ?_
        refine q_ldcS (i := 10) C dX12_readClause_129 rfl ?_
        obtain ⟨hk, h⟩ := q_obE h
        obtain ⟨⟨_, M19⟩, e1, h⟩ := q_bind h
        refine x_callVv0 C dX12_readClause_131 lkM_X12_246 mV_X12_readItems ⟨_, rfl, rfl⟩ hk (c_X12_readItems _ _ _ _ _ _ _ _ e1) rfl rfl (Nat.le_of_ble_eq_true rfl) (by decide) (by decide) ?_
        refine q_goto (tgt := 166) C dX12_readClause_134 (by decide) ?_
        exact q_vret C dX12_readClause_166 rfl (by decide) (by decide) (Option.some.inj h)
      · refine q_aload_n C dX12_readClause_137 rfl ?_
        refine q_dup C dX12_readClause_138 rfl ?_
        refine x_getI (ci := 12) (j := 29) C dX12_readClause_139 lkF_X12_241 rfl h (fun v20 h => ?_)
        refine x_iconst (v := (1 : Int32)) C dX12_readClause_142 (by decide) ?_
        refine q_iadd C dX12_readClause_143 ?_
        refine x_putI (ci := 12) (j := 29) C dX12_readClause_144 lkF_X12_241 (fun r hr => by cases hr; rfl) rfl h (fun M21 h => ?_)
        refine q_aload_n C dX12_readClause_147 rfl ?_
        refine q_iload_n C dX12_readClause_148 rfl ?_
        refine q_aload_n C dX12_readClause_149 rfl ?_
        refine x_getR (ci := 12) (j := 23) C dX12_readClause_150 lkF_X12_52 rfl h (fun c22 h => ?_)
        refine x_nn h (fun r23 h => ?_)
        refine x_iconst (v := (4 : Int32)) C dX12_readClause_153 (by decide) ?_
        refine q_aload_n C dX12_readClause_154 rfl ?_
        refine x_getI (ci := 12) (j := 29) C dX12_readClause_155 lkF_X12_241 rfl h (fun v24 h => ?_)
        refine x_iconst (v := (1 : Int32)) C dX12_readClause_158 (by decide) ?_
        refine q_isub C dX12_readClause_159 ?_
        refine q_imul C dX12_readClause_160 ?_
        refine q_ldcS (i := 11) C dX12_readClause_161 rfl ?_
        obtain ⟨hk, h⟩ := q_obE h
        obtain ⟨⟨_, M26⟩, e1, h⟩ := q_bind h
        refine x_callVv0 C dX12_readClause_163 lkM_X12_246 mV_X12_readItems ⟨_, rfl, rfl⟩ hk (c_X12_readItems _ _ _ _ _ _ _ _ e1) rfl rfl (Nat.le_of_ble_eq_true rfl) (by decide) (by decide) ?_
        exact q_vret C dX12_readClause_166 rfl (by decide) (by decide) (Option.some.inj h)
noncomputable def J_X12_readClause_47 (l0 : Nat) (l1 : Int32) (M : q_Mem) : Option (Unit × q_Mem) := J_X12_readClause_52 l0 l1 (1 : Int32) M
set_option maxRecDepth 100000 in
set_option maxHeartbeats 4000000 in
theorem jW_X12_readClause_47 {K : q_K} (C : q_C K yX12_readClause cX12_readClause 3 (Option.none : Option Jvm.ClassFile.FieldType) 7 0 0) (l0 : Nat) (l1 : Int32) (M : q_Mem) {r : Unit} {M' : q_Mem} (h : J_X12_readClause_47 l0 l1 M = some (r, M')) : q_W K 3 (q_Q K none M' 0 0) 0 0 M 47 [some (.ref l0), some (.int l1), none] [] := by
  unfold J_X12_readClause_47 at h
  refine x_iconst (v := (1 : Int32)) C dX12_readClause_47 (by decide) ?_
  refine q_goto (tgt := 52) C dX12_readClause_48 (by decide) ?_
  exact q_msk [true, true, false] (jW_X12_readClause_52 C l0 l1 (1 : Int32) M h)
noncomputable def J_X12_readClause_51 (l0 : Nat) (l1 : Int32) (M : q_Mem) : Option (Unit × q_Mem) := J_X12_readClause_52 l0 l1 (0 : Int32) M
set_option maxRecDepth 100000 in
set_option maxHeartbeats 4000000 in
theorem jW_X12_readClause_51 {K : q_K} (C : q_C K yX12_readClause cX12_readClause 3 (Option.none : Option Jvm.ClassFile.FieldType) 7 0 0) (l0 : Nat) (l1 : Int32) (M : q_Mem) {r : Unit} {M' : q_Mem} (h : J_X12_readClause_51 l0 l1 M = some (r, M')) : q_W K 3 (q_Q K none M' 0 0) 0 0 M 51 [some (.ref l0), some (.int l1), none] [] := by
  unfold J_X12_readClause_51 at h
  refine x_iconst (v := (0 : Int32)) C dX12_readClause_51 (by decide) ?_
  exact q_msk [true, true, false] (jW_X12_readClause_52 C l0 l1 (0 : Int32) M h)
noncomputable def J_X12_readClause_32 (l0 : Nat) (l1 : Int32) (M : q_Mem) : Option (Unit × q_Mem) := (if l1 = (103 : Int32) then (q_gI M l0 12 29 (fun v28 => (if v28 < (6 : Int32) then J_X12_readClause_47 l0 l1 M else J_X12_readClause_51 l0 l1 M))) else J_X12_readClause_51 l0 l1 M)
set_option maxRecDepth 100000 in
set_option maxHeartbeats 4000000 in
theorem jW_X12_readClause_32 {K : q_K} (C : q_C K yX12_readClause cX12_readClause 3 (Option.none : Option Jvm.ClassFile.FieldType) 7 0 0) (l0 : Nat) (l1 : Int32) (M : q_Mem) {r : Unit} {M' : q_Mem} (h : J_X12_readClause_32 l0 l1 M = some (r, M')) : q_W K 3 (q_Q K none M' 0 0) 0 0 M 32 [some (.ref l0), some (.int l1), none] [] := by
  unfold J_X12_readClause_32 at h
  refine q_iload_n C dX12_readClause_32 rfl ?_
  refine x_bipush (v := (103 : Int32)) C dX12_readClause_33 (by decide) ?_
  refine q_icmp_ne (tgt := 51) C dX12_readClause_35 (by decide) h (fun _ h => ?_) (fun _ h => ?_)
  · refine q_aload_n C dX12_readClause_38 rfl ?_
    refine x_getI (ci := 12) (j := 29) C dX12_readClause_39 lkF_X12_241 rfl h (fun v28 h => ?_)
    refine x_bipush (v := (6 : Int32)) C dX12_readClause_42 (by decide) ?_
    refine q_icmp_ge (tgt := 51) C dX12_readClause_44 (by decide) h (fun _ h => ?_) (fun _ h => ?_)
    · exact q_msk [true, true, false] (jW_X12_readClause_47 C l0 l1 M h)
    · exact q_msk [true, true, false] (jW_X12_readClause_51 C l0 l1 M h)
  · exact q_msk [true, true, false] (jW_X12_readClause_51 C l0 l1 M h)
noncomputable def J_X12_readClause_18 (l0 : Nat) (l1 : Int32) (M : q_Mem) : Option (Unit × q_Mem) := (if l1 = (100 : Int32) then (q_gI M l0 12 28 (fun v27 => (if v27 < (5 : Int32) then J_X12_readClause_47 l0 l1 M else J_X12_readClause_32 l0 l1 M))) else J_X12_readClause_32 l0 l1 M)
set_option maxRecDepth 100000 in
set_option maxHeartbeats 4000000 in
theorem jW_X12_readClause_18 {K : q_K} (C : q_C K yX12_readClause cX12_readClause 3 (Option.none : Option Jvm.ClassFile.FieldType) 7 0 0) (l0 : Nat) (l1 : Int32) (M : q_Mem) {r : Unit} {M' : q_Mem} (h : J_X12_readClause_18 l0 l1 M = some (r, M')) : q_W K 3 (q_Q K none M' 0 0) 0 0 M 18 [some (.ref l0), some (.int l1), none] [] := by
  unfold J_X12_readClause_18 at h
  refine q_iload_n C dX12_readClause_18 rfl ?_
  refine x_bipush (v := (100 : Int32)) C dX12_readClause_19 (by decide) ?_
  refine q_icmp_ne (tgt := 32) C dX12_readClause_21 (by decide) h (fun _ h => ?_) (fun _ h => ?_)
  · refine q_aload_n C dX12_readClause_24 rfl ?_
    refine x_getI (ci := 12) (j := 28) C dX12_readClause_25 lkF_X12_238 rfl h (fun v27 h => ?_)
    refine x_iconst (v := (5 : Int32)) C dX12_readClause_28 (by decide) ?_
    refine q_icmp_lt (tgt := 47) C dX12_readClause_29 (by decide) h (fun _ h => ?_) (fun _ h => ?_)
    · exact q_msk [true, true, false] (jW_X12_readClause_47 C l0 l1 M h)
    · exact q_msk [true, true, false] (jW_X12_readClause_32 C l0 l1 M h)
  · exact q_msk [true, true, false] (jW_X12_readClause_32 C l0 l1 M h)
noncomputable def F_X12_readClause (l0 : Nat) (M : q_Mem) : Option (Unit × q_Mem) := (q_ob M l0 12 ((F_X12_look l0 M).bind (fun x => match x with | (u1, M2) => (if u1 = (115 : Int32) then (q_gI M2 l0 12 31 (fun v3 => (if v3 = 0 then J_X12_readClause_47 l0 u1 M2 else J_X12_readClause_18 l0 u1 M2))) else J_X12_readClause_18 l0 u1 M2))))
set_option maxRecDepth 100000 in
set_option maxHeartbeats 4000000 in
theorem c_X12_readClause (l : Launch) (G : q_G) (l0 : Nat) (M : q_Mem) {r : Unit} {M' : q_Mem} (h : F_X12_readClause l0 M = some (r, M')) : q_Met l G yX12_readClause cX12_readClause 3 (Option.none : Option Jvm.ClassFile.FieldType) 7 0 0 [.ref l0] M none M' := by
  unfold F_X12_readClause at h
  refine q_enter [some (.ref l0), none, none] (by decide) (Nat.le_of_ble_eq_true rfl) rfl (fun K C => ?_)
  refine q_aload_n C dX12_readClause_0 rfl ?_
  obtain ⟨hk, h⟩ := q_obE h
  obtain ⟨⟨u1, M2⟩, e1, h⟩ := q_bind h
  refine x_callV0 C dX12_readClause_1 lkM_X12_134 mV_X12_look ⟨_, rfl, rfl⟩ hk (c_X12_look _ _ _ _ e1) rfl rfl (Nat.le_of_ble_eq_true rfl) (by decide) (by decide) ?_
  refine q_istore_n (L' := [some (.ref l0), some (.int u1), none]) C dX12_readClause_4 (by decide) rfl rfl ?_
  refine q_iload_n C dX12_readClause_5 rfl ?_
  refine x_bipush (v := (115 : Int32)) C dX12_readClause_6 (by decide) ?_
  refine q_icmp_ne (tgt := 18) C dX12_readClause_8 (by decide) h (fun _ h => ?_) (fun _ h => ?_)
  · refine q_aload_n C dX12_readClause_11 rfl ?_
    refine x_getI (ci := 12) (j := 31) C dX12_readClause_12 lkF_X12_235 rfl h (fun v3 h => ?_)
    refine q_if_eq (tgt := 47) C dX12_readClause_15 (by decide) h (fun _ h => ?_) (fun _ h => ?_)
    · exact q_msk [true, true, false] (jW_X12_readClause_47 C l0 u1 M2 h)
    · exact q_msk [true, true, false] (jW_X12_readClause_18 C l0 u1 M2 h)
  · exact q_msk [true, true, false] (jW_X12_readClause_18 C l0 u1 M2 h)
noncomputable def B_X12_readHouse_30 (l0 : Nat) (l1 : Int32) (M : q_Mem) : Option ((Int32 × q_Mem) ⊕ (q_Mem)) := (if l1 < (3 : Int32) then (q_gR M l0 12 19 (fun c9 => q_nn c9 (fun r10 => ((F_X12_usual (115 : Int32) l1 M).bind (fun u11 => (q_tI M r10 l1 u11 (fun M12 => some (.inl ((l1 + (1 : Int32)), M12))))))))) else some (.inr M))
set_option maxRecDepth 100000 in
set_option maxHeartbeats 4000000 in
theorem bW_X12_readHouse_30 {K : q_K} {Q : State → Prop} (C : q_C K yX12_readHouse cX12_readHouse 2 (Option.none : Option Jvm.ClassFile.FieldType) 8 0 0) (l0 : Nat) (l1 : Int32) (M : q_Mem) {stp : (Int32 × q_Mem) ⊕ (q_Mem)} (h : B_X12_readHouse_30 l0 l1 M = some stp) (kC : ∀ (l1 : Int32) (M : q_Mem), stp = .inl (l1, M) → q_W K 2 Q 0 0 M 30 [some (.ref l0), some (.int l1)] []) (kE0 : ∀ (M : q_Mem), stp = .inr M → q_W K 2 Q 0 0 M 53 [some (.ref l0), none] []) : q_W K 2 Q 0 0 M 30 [some (.ref l0), some (.int l1)] [] := by
  unfold B_X12_readHouse_30 at h
  refine q_iload_n C dX12_readHouse_30 rfl ?_
  refine x_iconst (v := (3 : Int32)) C dX12_readHouse_31 (by decide) ?_
  refine q_icmp_ge (tgt := 53) C dX12_readHouse_32 (by decide) h (fun _ h => ?_) (fun _ h => ?_)
  · refine q_aload_n C dX12_readHouse_35 rfl ?_
    refine x_getR (ci := 12) (j := 19) C dX12_readHouse_36 lkF_X12_40 rfl h (fun c9 h => ?_)
    refine x_nn h (fun r10 h => ?_)
    refine q_iload_n C dX12_readHouse_39 rfl ?_
    refine x_bipush (v := (115 : Int32)) C dX12_readHouse_40 (by decide) ?_
    refine q_iload_n C dX12_readHouse_42 rfl ?_
    obtain ⟨u11, e1, h⟩ := q_bind h
    refine x_callS0 C dX12_readHouse_43 lkM_X12_217 mS_X12_usual (c_X12_usual _ _ _ _ _ e1) rfl rfl (Nat.le_of_ble_eq_true rfl) (by decide) (by decide) ?_
    refine x_iast C dX12_readHouse_46 h (fun M12 h => ?_)
    refine x_iinc (w := (1 : Int32)) (L' := [some (.ref l0), some (.int (l1 + (1 : Int32)))]) C dX12_readHouse_47 rfl (by decide) (by decide) rfl rfl ?_
    refine q_goto (tgt := 30) C dX12_readHouse_50 (by decide) ?_
    exact q_msk [true, true] (kC _ _ (Option.some.inj h).symm)
  · exact q_msk [true, false] (kE0 _ (Option.some.inj h).symm)
set_option maxRecDepth 100000 in
set_option maxHeartbeats 4000000 in
theorem lW_X12_readHouse_30 {K : q_K} {Q : State → Prop} (C : q_C K yX12_readHouse cX12_readHouse 2 (Option.none : Option Jvm.ClassFile.FieldType) 8 0 0) (l0 : Nat) (n : Nat) : ∀ (l1 : Int32) (M : q_Mem) (e : (q_Mem)), q_lp (fun s => B_X12_readHouse_30 l0 s.1 s.2) n (l1, M) = some e → (∀ (M : q_Mem), e = M → q_W K 2 Q 0 0 M 53 [some (.ref l0), none] []) → q_W K 2 Q 0 0 M 30 [some (.ref l0), some (.int l1)] [] := by
  induction n with
  | zero => intro l1 M e h; cases h
  | succ n ih =>
    intro l1 M e h kE0
    obtain ⟨stp, e1, e2⟩ := q_bind h
    refine bW_X12_readHouse_30 C l0 l1 M e1 (fun a0 a1 hs => ?_) (fun b0 hs => ?_)
    · subst hs; exact ih _ _ _ e2 kE0
    · subst hs; exact kE0 _ (Option.some.inj e2).symm
noncomputable def J_X12_readHouse_93_55 (l0 : Nat) (s0 : Int32) (M : q_Mem) : Option ((Int32 × q_Mem) ⊕ (q_Mem)) := (if s0 = 0 then some (.inl (s0, M)) else (q_gI M l0 12 10 (fun v21 => (q_pI M l0 12 10 (v21 + (1 : Int32)) (fun M22 => some (.inl (s0, M22)))))))
set_option maxRecDepth 100000 in
set_option maxHeartbeats 4000000 in
theorem jW_X12_readHouse_93_55 {K : q_K} {Q : State → Prop} (C : q_C K yX12_readHouse cX12_readHouse 2 (Option.none : Option Jvm.ClassFile.FieldType) 8 0 0) (l0 : Nat) (s0 : Int32) (M : q_Mem) {stp : (Int32 × q_Mem) ⊕ (q_Mem)} (h : J_X12_readHouse_93_55 l0 s0 M = some stp) (kC : ∀ (l1 : Int32) (M : q_Mem), stp = .inl (l1, M) → q_W K 2 Q 0 0 M 55 [some (.ref l0), some (.int l1)] []) (kE0 : ∀ (M : q_Mem), stp = .inr M → q_W K 2 Q 0 0 M 111 [some (.ref l0), none] []) : q_W K 2 Q 0 0 M 93 [some (.ref l0), none] [.int s0] := by
  unfold J_X12_readHouse_93_55 at h
  refine q_istore_n (L' := [some (.ref l0), some (.int s0)]) C dX12_readHouse_93 (by decide) rfl rfl ?_
  refine q_iload_n C dX12_readHouse_94 rfl ?_
  refine q_if_eq (tgt := 55) C dX12_readHouse_95 (by decide) h (fun _ h => ?_) (fun _ h => ?_)
  · exact q_msk [true, true] (kC _ _ (Option.some.inj h).symm)
  · refine q_aload_n C dX12_readHouse_98 rfl ?_
    refine q_dup C dX12_readHouse_99 rfl ?_
    refine x_getI (ci := 12) (j := 10) C dX12_readHouse_100 lkF_X12_115 rfl h (fun v21 h => ?_)
    refine x_iconst (v := (1 : Int32)) C dX12_readHouse_103 (by decide) ?_
    refine q_iadd C dX12_readHouse_104 ?_
    refine x_putI (ci := 12) (j := 10) C dX12_readHouse_105 lkF_X12_115 (fun r hr => by cases hr; rfl) rfl h (fun M22 h => ?_)
    refine q_goto (tgt := 55) C dX12_readHouse_108 (by decide) ?_
    exact q_msk [true, true] (kC _ _ (Option.some.inj h).symm)
noncomputable def J_X12_readHouse_92_55 (l0 : Nat) (M : q_Mem) : Option ((Int32 × q_Mem) ⊕ (q_Mem)) := J_X12_readHouse_93_55 l0 (0 : Int32) M
set_option maxRecDepth 100000 in
set_option maxHeartbeats 4000000 in
theorem jW_X12_readHouse_92_55 {K : q_K} {Q : State → Prop} (C : q_C K yX12_readHouse cX12_readHouse 2 (Option.none : Option Jvm.ClassFile.FieldType) 8 0 0) (l0 : Nat) (M : q_Mem) {stp : (Int32 × q_Mem) ⊕ (q_Mem)} (h : J_X12_readHouse_92_55 l0 M = some stp) (kC : ∀ (l1 : Int32) (M : q_Mem), stp = .inl (l1, M) → q_W K 2 Q 0 0 M 55 [some (.ref l0), some (.int l1)] []) (kE0 : ∀ (M : q_Mem), stp = .inr M → q_W K 2 Q 0 0 M 111 [some (.ref l0), none] []) : q_W K 2 Q 0 0 M 92 [some (.ref l0), none] [] := by
  unfold J_X12_readHouse_92_55 at h
  refine x_iconst (v := (0 : Int32)) C dX12_readHouse_92 (by decide) ?_
  exact q_msk [true, false] (jW_X12_readHouse_93_55 C l0 (0 : Int32) M h kC kE0)
noncomputable def B_X12_readHouse_55 (l0 : Nat) (l1 : Int32) (M : q_Mem) : Option ((Int32 × q_Mem) ⊕ (q_Mem)) := (if l1 = 0 then some (.inr M) else (q_gI M l0 12 11 (fun v15 => (if v15 = (-1 : Int32) then (q_ob M l0 12 ((F_X12_readClause l0 M).bind (fun x => match x with | (_, M17) => (q_gI M17 l0 12 11 (fun v18 => (if v18 = (-1 : Int32) then (q_ob M17 l0 12 ((F_X12_look l0 M17).bind (fun x => match x with | (u19, M20) => (if u19 = (59 : Int32) then J_X12_readHouse_93_55 l0 (1 : Int32) M20 else J_X12_readHouse_92_55 l0 M20)))) else J_X12_readHouse_92_55 l0 M17)))))) else some (.inr M)))))
set_option maxRecDepth 100000 in
set_option maxHeartbeats 4000000 in
theorem bW_X12_readHouse_55 {K : q_K} {Q : State → Prop} (C : q_C K yX12_readHouse cX12_readHouse 2 (Option.none : Option Jvm.ClassFile.FieldType) 8 0 0) (l0 : Nat) (l1 : Int32) (M : q_Mem) {stp : (Int32 × q_Mem) ⊕ (q_Mem)} (h : B_X12_readHouse_55 l0 l1 M = some stp) (kC : ∀ (l1 : Int32) (M : q_Mem), stp = .inl (l1, M) → q_W K 2 Q 0 0 M 55 [some (.ref l0), some (.int l1)] []) (kE0 : ∀ (M : q_Mem), stp = .inr M → q_W K 2 Q 0 0 M 111 [some (.ref l0), none] []) : q_W K 2 Q 0 0 M 55 [some (.ref l0), some (.int l1)] [] := by
  unfold B_X12_readHouse_55 at h
  refine q_iload_n C dX12_readHouse_55 rfl ?_
  refine q_if_eq (tgt := 111) C dX12_readHouse_56 (by decide) h (fun _ h => ?_) (fun _ h => ?_)
  · exact q_msk [true, false] (kE0 _ (Option.some.inj h).symm)
  · refine q_aload_n C dX12_readHouse_59 rfl ?_
    refine x_getI (ci := 12) (j := 11) C dX12_readHouse_60 lkF_X12_124 rfl h (fun v15 h => ?_)
    refine x_iconst (v := (-1 : Int32)) C dX12_readHouse_63 (by decide) ?_
    refine q_icmp_ne (tgt := 111) C dX12_readHouse_64 (by decide) h (fun _ h => ?_) (fun _ h => ?_)
    · refine q_aload_n C dX12_readHouse_67 rfl ?_
      obtain ⟨hk, h⟩ := q_obE h
      obtain ⟨⟨_, M17⟩, e1, h⟩ := q_bind h
      refine x_callVv0 C dX12_readHouse_68 lkM_X12_254 mV_X12_readClause ⟨_, rfl, rfl⟩ hk (c_X12_readClause _ _ _ _ e1) rfl rfl (Nat.le_of_ble_eq_true rfl) (by decide) (by decide) ?_
      refine q_aload_n C dX12_readHouse_71 rfl ?_
      refine x_getI (ci := 12) (j := 11) C dX12_readHouse_72 lkF_X12_124 rfl h (fun v18 h => ?_)
      refine x_iconst (v := (-1 : Int32)) C dX12_readHouse_75 (by decide) ?_
      refine q_icmp_ne (tgt := 92) C dX12_readHouse_76 (by decide) h (fun _ h => ?_) (fun _ h => ?_)
      · refine q_aload_n C dX12_readHouse_79 rfl ?_
        obtain ⟨hk, h⟩ := q_obE h
        obtain ⟨⟨u19, M20⟩, e1, h⟩ := q_bind h
        refine x_callV0 C dX12_readHouse_80 lkM_X12_134 mV_X12_look ⟨_, rfl, rfl⟩ hk (c_X12_look _ _ _ _ e1) rfl rfl (Nat.le_of_ble_eq_true rfl) (by decide) (by decide) ?_
        refine x_bipush (v := (59 : Int32)) C dX12_readHouse_83 (by decide) ?_
        refine q_icmp_ne (tgt := 92) C dX12_readHouse_85 (by decide) h (fun _ h => ?_) (fun _ h => ?_)
        · refine x_iconst (v := (1 : Int32)) C dX12_readHouse_88 (by decide) ?_
          refine q_goto (tgt := 93) C dX12_readHouse_89 (by decide) ?_
          exact q_msk [true, false] (jW_X12_readHouse_93_55 C l0 (1 : Int32) M20 h kC kE0)
        · exact q_msk [true, false] (jW_X12_readHouse_92_55 C l0 M20 h kC kE0)
      · exact q_msk [true, false] (jW_X12_readHouse_92_55 C l0 M17 h kC kE0)
    · exact q_msk [true, false] (kE0 _ (Option.some.inj h).symm)
set_option maxRecDepth 100000 in
set_option maxHeartbeats 4000000 in
theorem lW_X12_readHouse_55 {K : q_K} {Q : State → Prop} (C : q_C K yX12_readHouse cX12_readHouse 2 (Option.none : Option Jvm.ClassFile.FieldType) 8 0 0) (l0 : Nat) (n : Nat) : ∀ (l1 : Int32) (M : q_Mem) (e : (q_Mem)), q_lp (fun s => B_X12_readHouse_55 l0 s.1 s.2) n (l1, M) = some e → (∀ (M : q_Mem), e = M → q_W K 2 Q 0 0 M 111 [some (.ref l0), none] []) → q_W K 2 Q 0 0 M 55 [some (.ref l0), some (.int l1)] [] := by
  induction n with
  | zero => intro l1 M e h; cases h
  | succ n ih =>
    intro l1 M e h kE0
    obtain ⟨stp, e1, e2⟩ := q_bind h
    refine bW_X12_readHouse_55 C l0 l1 M e1 (fun a0 a1 hs => ?_) (fun b0 hs => ?_)
    · subst hs; exact ih _ _ _ e2 kE0
    · subst hs; exact kE0 _ (Option.some.inj e2).symm
noncomputable def J_X12_readHouse_141 (l0 : Nat) (M : q_Mem) : Option (Unit × q_Mem) := (q_ob M l0 12 ((F_X12_fails l0 M).bind (fun x => match x with | (u29, M30) => some ((), M30))))
set_option maxRecDepth 100000 in
set_option maxHeartbeats 4000000 in
theorem jW_X12_readHouse_141 {K : q_K} (C : q_C K yX12_readHouse cX12_readHouse 2 (Option.none : Option Jvm.ClassFile.FieldType) 8 0 0) (l0 : Nat) (M : q_Mem) {r : Unit} {M' : q_Mem} (h : J_X12_readHouse_141 l0 M = some (r, M')) : q_W K 2 (q_Q K none M' 0 0) 0 0 M 141 [some (.ref l0), none] [] := by
  unfold J_X12_readHouse_141 at h
  refine q_aload_n C dX12_readHouse_141 rfl ?_
  obtain ⟨hk, h⟩ := q_obE h
  obtain ⟨⟨u29, M30⟩, e1, h⟩ := q_bind h
  refine x_callV0 C dX12_readHouse_142 lkM_X12_130 mV_X12_fails ⟨_, rfl, rfl⟩ hk (c_X12_fails _ _ _ _ e1) rfl rfl (Nat.le_of_ble_eq_true rfl) (by decide) (by decide) ?_
  refine q_pop C dX12_readHouse_145 rfl ?_
  exact q_vret C dX12_readHouse_146 rfl (by decide) (by decide) (Option.some.inj h)
noncomputable def F_X12_readHouse (l0 : Nat) (M : q_Mem) : Option (Unit × q_Mem) := (q_gR M l0 12 1 (fun c1 => q_nn c1 (fun r2 => (q_gI M l0 12 6 (fun v3 => (q_ob M l0 12 ((F_X12_starts l0 r2 (0 : Int32) v3 M).bind (fun x => match x with | (_, M5) => (q_pI M5 l0 12 28 (0 : Int32) (fun M6 => (q_pI M6 l0 12 29 (0 : Int32) (fun M7 => (q_pZ M7 l0 12 31 (0 : Int32) (fun M8 => (q_lp (fun s => B_X12_readHouse_30 l0 s.1 s.2) q_fu ((0 : Int32), M8)).bind (fun e13 => match e13 with | M14 => (q_lp (fun s => B_X12_readHouse_55 l0 s.1 s.2) q_fu ((1 : Int32), M14)).bind (fun e23 => match e23 with | M24 => (q_gI M24 l0 12 11 (fun v25 => (if v25 = (-1 : Int32) then (q_ob M24 l0 12 ((F_X12_look l0 M24).bind (fun x => match x with | (u26, M27) => (if u26 = (-1 : Int32) then (q_gI M27 l0 12 28 (fun v28 => (if v28 = 0 then J_X12_readHouse_141 l0 M27 else (q_gI M27 l0 12 29 (fun v31 => (if v31 = 0 then J_X12_readHouse_141 l0 M27 else some ((), M27))))))) else J_X12_readHouse_141 l0 M27)))) else some ((), M24))))))))))))))))))))
set_option maxRecDepth 100000 in
set_option maxHeartbeats 4000000 in
theorem c_X12_readHouse (l : Launch) (G : q_G) (l0 : Nat) (M : q_Mem) {r : Unit} {M' : q_Mem} (h : F_X12_readHouse l0 M = some (r, M')) : q_Met l G yX12_readHouse cX12_readHouse 2 (Option.none : Option Jvm.ClassFile.FieldType) 8 0 0 [.ref l0] M none M' := by
  unfold F_X12_readHouse at h
  refine q_enter [some (.ref l0), none] (by decide) (Nat.le_of_ble_eq_true rfl) rfl (fun K C => ?_)
  refine q_aload_n C dX12_readHouse_0 rfl ?_
  refine q_aload_n C dX12_readHouse_1 rfl ?_
  refine x_getR (ci := 12) (j := 1) C dX12_readHouse_2 lkF_X12_9 rfl h (fun c1 h => ?_)
  refine x_nn h (fun r2 h => ?_)
  refine x_iconst (v := (0 : Int32)) C dX12_readHouse_5 (by decide) ?_
  refine q_aload_n C dX12_readHouse_6 rfl ?_
  refine x_getI (ci := 12) (j := 6) C dX12_readHouse_7 lkF_X12_105 rfl h (fun v3 h => ?_)
  obtain ⟨hk, h⟩ := q_obE h
  obtain ⟨⟨_, M5⟩, e1, h⟩ := q_bind h
  refine x_callVv0 C dX12_readHouse_10 lkM_X12_203 mV_X12_starts ⟨_, rfl, rfl⟩ hk (c_X12_starts _ _ _ _ _ _ _ e1) rfl rfl (Nat.le_of_ble_eq_true rfl) (by decide) (by decide) ?_
  refine q_aload_n C dX12_readHouse_13 rfl ?_
  refine x_iconst (v := (0 : Int32)) C dX12_readHouse_14 (by decide) ?_
  refine x_putI (ci := 12) (j := 28) C dX12_readHouse_15 lkF_X12_238 (fun r hr => by cases hr; rfl) rfl h (fun M6 h => ?_)
  refine q_aload_n C dX12_readHouse_18 rfl ?_
  refine x_iconst (v := (0 : Int32)) C dX12_readHouse_19 (by decide) ?_
  refine x_putI (ci := 12) (j := 29) C dX12_readHouse_20 lkF_X12_241 (fun r hr => by cases hr; rfl) rfl h (fun M7 h => ?_)
  refine q_aload_n C dX12_readHouse_23 rfl ?_
  refine x_iconst (v := (0 : Int32)) C dX12_readHouse_24 (by decide) ?_
  refine x_putZ (ci := 12) (j := 31) C dX12_readHouse_25 lkF_X12_235 (fun r hr => by cases hr; rfl) rfl h (fun M8 h => ?_)
  refine x_iconst (v := (0 : Int32)) C dX12_readHouse_28 (by decide) ?_
  refine q_istore_n (L' := [some (.ref l0), some (.int (0 : Int32))]) C dX12_readHouse_29 (by decide) rfl rfl ?_
  obtain ⟨e13, he, h⟩ := q_bind h
  refine q_msk [true, true] (lW_X12_readHouse_30 C l0 q_fu _ _ _ he (fun M14 hs => ?_))
  · have hs := hs.symm
    subst hs
    refine x_iconst (v := (1 : Int32)) C dX12_readHouse_53 (by decide) ?_
    refine q_istore_n (L' := [some (.ref l0), some (.int (1 : Int32))]) C dX12_readHouse_54 (by decide) rfl rfl ?_
    obtain ⟨e23, he, h⟩ := q_bind h
    refine q_msk [true, true] (lW_X12_readHouse_55 C l0 q_fu _ _ _ he (fun M24 hs => ?_))
    · have hs := hs.symm
      subst hs
      refine q_aload_n C dX12_readHouse_111 rfl ?_
      refine x_getI (ci := 12) (j := 11) C dX12_readHouse_112 lkF_X12_124 rfl h (fun v25 h => ?_)
      refine x_iconst (v := (-1 : Int32)) C dX12_readHouse_115 (by decide) ?_
      refine q_icmp_ne (tgt := 146) C dX12_readHouse_116 (by decide) h (fun _ h => ?_) (fun _ h => ?_)
      · refine q_aload_n C dX12_readHouse_119 rfl ?_
        obtain ⟨hk, h⟩ := q_obE h
        obtain ⟨⟨u26, M27⟩, e1, h⟩ := q_bind h
        refine x_callV0 C dX12_readHouse_120 lkM_X12_134 mV_X12_look ⟨_, rfl, rfl⟩ hk (c_X12_look _ _ _ _ e1) rfl rfl (Nat.le_of_ble_eq_true rfl) (by decide) (by decide) ?_
        refine x_iconst (v := (-1 : Int32)) C dX12_readHouse_123 (by decide) ?_
        refine q_icmp_ne (tgt := 141) C dX12_readHouse_124 (by decide) h (fun _ h => ?_) (fun _ h => ?_)
        · refine q_aload_n C dX12_readHouse_127 rfl ?_
          refine x_getI (ci := 12) (j := 28) C dX12_readHouse_128 lkF_X12_238 rfl h (fun v28 h => ?_)
          refine q_if_eq (tgt := 141) C dX12_readHouse_131 (by decide) h (fun _ h => ?_) (fun _ h => ?_)
          · exact q_msk [true, false] (jW_X12_readHouse_141 C l0 M27 h)
          · refine q_aload_n C dX12_readHouse_134 rfl ?_
            refine x_getI (ci := 12) (j := 29) C dX12_readHouse_135 lkF_X12_241 rfl h (fun v31 h => ?_)
            refine q_if_ne (tgt := 146) C dX12_readHouse_138 (by decide) h (fun _ h => ?_) (fun _ h => ?_)
            · exact q_msk [true, false] (jW_X12_readHouse_141 C l0 M27 h)
            · exact q_vret C dX12_readHouse_146 rfl (by decide) (by decide) (Option.some.inj h)
        · exact q_msk [true, false] (jW_X12_readHouse_141 C l0 M27 h)
      · exact q_vret C dX12_readHouse_146 rfl (by decide) (by decide) (Option.some.inj h)
