noncomputable def F_X12_kindOf (l0 : Nat) (l1 : Int32) (M : q_Mem) : Option (Int32) := (q_gR M l0 12 20 (fun c1 => q_nn c1 (fun r2 => (q_lI M 0 r2 (((3 : Int32) * l1) + (2 : Int32)) (fun v3 => some v3)))))
set_option maxRecDepth 100000 in
set_option maxHeartbeats 4000000 in
theorem c_X12_kindOf (l : Launch) (G : q_G) (l0 : Nat) (l1 : Int32) (M : q_Mem) {r : Int32} (h : F_X12_kindOf l0 l1 M = some r) : q_Met l G yX12_kindOf cX12_kindOf 2 (Option.some Jvm.ClassFile.FieldType.int) 1 0 0 [.ref l0, .int l1] M (some (.int r)) M := by
  unfold F_X12_kindOf at h
  refine q_enter [some (.ref l0), some (.int l1)] (by decide) (Nat.le_of_ble_eq_true rfl) rfl (fun K C => ?_)
  refine q_aload_n C dX12_kindOf_0 rfl ?_
  refine x_getR (ci := 12) (j := 20) C dX12_kindOf_1 lkF_X12_43 rfl h (fun c1 h => ?_)
  refine x_nn h (fun r2 h => ?_)
  refine x_iconst (v := (3 : Int32)) C dX12_kindOf_4 (by decide) ?_
  refine q_iload_n C dX12_kindOf_5 rfl ?_
  refine q_imul C dX12_kindOf_6 ?_
  refine x_iconst (v := (2 : Int32)) C dX12_kindOf_7 (by decide) ?_
  refine q_iadd C dX12_kindOf_8 ?_
  refine x_iald C dX12_kindOf_9 h (fun v3 h => ?_)
  exact q_iret (res := (r, M)) C dX12_kindOf_10 rfl (by decide) (by decide) (congrArg (fun z => (z, M)) (Option.some.inj h))
noncomputable def J_X12_joyOf_127 (l7 : Int32) (M : q_Mem) : Option (Int32 × q_Mem) := some ((q_mx (-9 : Int32) (q_mn (20 : Int32) l7)), M)
set_option maxRecDepth 100000 in
set_option maxHeartbeats 4000000 in
theorem jW_X12_joyOf_127 {K : q_K} (C : q_C K yX12_joyOf cX12_joyOf 8 (Option.some Jvm.ClassFile.FieldType.int) 131 0 0) (l7 : Int32) (M : q_Mem) {r : Int32} {M' : q_Mem} (h : J_X12_joyOf_127 l7 M = some (r, M')) : q_W K 8 (q_Q K (some (.int r)) M' 0 0) 0 0 M 127 [none, none, none, none, none, none, none, some (.int l7)] [] := by
  unfold J_X12_joyOf_127 at h
  refine x_bipush (v := (-9 : Int32)) C dX12_joyOf_127 (by decide) ?_
  refine x_bipush (v := (20 : Int32)) C dX12_joyOf_129 (by decide) ?_
  refine q_iload C dX12_joyOf_131 rfl ?_
  refine q_min C dX12_joyOf_133 wd_1608 wd_470 wd_15 wd_471 (by decide) (Nat.le_of_ble_eq_true rfl) (by decide) ?_
  refine q_max C dX12_joyOf_136 wd_1599 wd_467 wd_15 wd_468 (by decide) (Nat.le_of_ble_eq_true rfl) (by decide) ?_
  exact q_iret C dX12_joyOf_139 rfl (by decide) (by decide) (Option.some.inj h)
noncomputable def J_X12_joyOf_56 (l0 : Nat) (l1 : Int32) (l4 : Int32) (l5 : Int32) (l6 : Int32) (s0 : Nat) (s1 : Int32) (s2 : Int32) (M : q_Mem) : Option (Int32 × q_Mem) := (q_tI M s0 s1 s2 (fun M7 => (q_gR M7 l0 12 4 (fun c8 => q_nn c8 (fun r9 => (q_tI M7 r9 (102 : Int32) l4 (fun M10 => (q_gR M10 l0 12 4 (fun c11 => q_nn c11 (fun r12 => (q_tI M10 r12 (110 : Int32) l5 (fun M13 => (q_gR M13 l0 12 4 (fun c14 => q_nn c14 (fun r15 => (q_ob M13 l0 12 ((F_X12_pays l0 l1 M13).bind (fun u16 => (q_tI M13 r15 (112 : Int32) u16 (fun M17 => (q_gR M17 l0 12 4 (fun c18 => q_nn c18 (fun r19 => (q_tI M17 r19 (100 : Int32) l6 (fun M20 => (q_gR M20 l0 12 2 (fun c21 => q_nn c21 (fun r22 => (q_gI M20 l0 12 34 (fun v23 => (q_gR M20 l0 12 3 (fun c24 => q_nn c24 (fun r25 => (q_gI M20 l0 12 34 (fun v26 => (q_lI M20 0 r25 v26 (fun v27 => (q_ob M20 l0 12 ((F_X12_goThrough l0 r22 ((240 : Int32) * v23) v27 M20).bind (fun x => match x with | (_, M29) => (q_gI M29 l0 12 14 (fun v30 => J_X12_joyOf_127 v30 M29))))))))))))))))))))))))))))))))))))))))))
set_option maxRecDepth 100000 in
set_option maxHeartbeats 4000000 in
theorem jW_X12_joyOf_56 {K : q_K} (C : q_C K yX12_joyOf cX12_joyOf 8 (Option.some Jvm.ClassFile.FieldType.int) 131 0 0) (l0 : Nat) (l1 : Int32) (l4 : Int32) (l5 : Int32) (l6 : Int32) (s0 : Nat) (s1 : Int32) (s2 : Int32) (M : q_Mem) {r : Int32} {M' : q_Mem} (h : J_X12_joyOf_56 l0 l1 l4 l5 l6 s0 s1 s2 M = some (r, M')) : q_W K 8 (q_Q K (some (.int r)) M' 0 0) 0 0 M 56 [some (.ref l0), some (.int l1), none, none, some (.int l4), some (.int l5), some (.int l6), none] [.int s2, .int s1, .ref s0] := by
  unfold J_X12_joyOf_56 at h
  refine x_iast C dX12_joyOf_56 h (fun M7 h => ?_)
  refine q_aload_n C dX12_joyOf_57 rfl ?_
  refine x_getR (ci := 12) (j := 4) C dX12_joyOf_58 lkF_X12_20 rfl h (fun c8 h => ?_)
  refine x_nn h (fun r9 h => ?_)
  refine x_bipush (v := (102 : Int32)) C dX12_joyOf_61 (by decide) ?_
  refine q_iload C dX12_joyOf_63 rfl ?_
  refine x_iast C dX12_joyOf_65 h (fun M10 h => ?_)
  refine q_aload_n C dX12_joyOf_66 rfl ?_
  refine x_getR (ci := 12) (j := 4) C dX12_joyOf_67 lkF_X12_20 rfl h (fun c11 h => ?_)
  refine x_nn h (fun r12 h => ?_)
  refine x_bipush (v := (110 : Int32)) C dX12_joyOf_70 (by decide) ?_
  refine q_iload C dX12_joyOf_72 rfl ?_
  refine x_iast C dX12_joyOf_74 h (fun M13 h => ?_)
  refine q_aload_n C dX12_joyOf_75 rfl ?_
  refine x_getR (ci := 12) (j := 4) C dX12_joyOf_76 lkF_X12_20 rfl h (fun c14 h => ?_)
  refine x_nn h (fun r15 h => ?_)
  refine x_bipush (v := (112 : Int32)) C dX12_joyOf_79 (by decide) ?_
  refine q_aload_n C dX12_joyOf_81 rfl ?_
  refine q_iload_n C dX12_joyOf_82 rfl ?_
  obtain ⟨hk, h⟩ := q_obE h
  obtain ⟨u16, e1, h⟩ := q_bind h
  refine x_callV0 C dX12_joyOf_83 lkM_X12_306 mV_X12_pays ⟨_, rfl, rfl⟩ hk (c_X12_pays _ _ _ _ _ e1) rfl rfl (Nat.le_of_ble_eq_true rfl) (by decide) (by decide) ?_
  refine x_iast C dX12_joyOf_86 h (fun M17 h => ?_)
  refine q_aload_n C dX12_joyOf_87 rfl ?_
  refine x_getR (ci := 12) (j := 4) C dX12_joyOf_88 lkF_X12_20 rfl h (fun c18 h => ?_)
  refine x_nn h (fun r19 h => ?_)
  refine x_bipush (v := (100 : Int32)) C dX12_joyOf_91 (by decide) ?_
  refine q_iload C dX12_joyOf_93 rfl ?_
  refine x_iast C dX12_joyOf_95 h (fun M20 h => ?_)
  refine q_aload_n C dX12_joyOf_96 rfl ?_
  refine q_aload_n C dX12_joyOf_97 rfl ?_
  refine x_getR (ci := 12) (j := 2) C dX12_joyOf_98 lkF_X12_13 rfl h (fun c21 h => ?_)
  refine x_nn h (fun r22 h => ?_)
  refine x_sipush (v := (240 : Int32)) C dX12_joyOf_101 (by decide) ?_
  refine q_aload_n C dX12_joyOf_104 rfl ?_
  refine x_getI (ci := 12) (j := 34) C dX12_joyOf_105 lkF_X12_67 rfl h (fun v23 h => ?_)
  refine q_imul C dX12_joyOf_108 ?_
  refine q_aload_n C dX12_joyOf_109 rfl ?_
  refine x_getR (ci := 12) (j := 3) C dX12_joyOf_110 lkF_X12_16 rfl h (fun c24 h => ?_)
  refine x_nn h (fun r25 h => ?_)
  refine q_aload_n C dX12_joyOf_113 rfl ?_
  refine x_getI (ci := 12) (j := 34) C dX12_joyOf_114 lkF_X12_67 rfl h (fun v26 h => ?_)
  refine x_iald C dX12_joyOf_117 h (fun v27 h => ?_)
  obtain ⟨hk, h⟩ := q_obE h
  obtain ⟨⟨_, M29⟩, e1, h⟩ := q_bind h
  refine x_callVv0 C dX12_joyOf_118 lkM_X12_270 mV_X12_goThrough ⟨_, rfl, rfl⟩ hk (c_X12_goThrough _ _ _ _ _ _ _ e1) rfl rfl (Nat.le_of_ble_eq_true rfl) (by decide) (by decide) ?_
  refine q_aload_n C dX12_joyOf_121 rfl ?_
  refine x_getI (ci := 12) (j := 14) C dX12_joyOf_122 lkF_X12_200 rfl h (fun v30 h => ?_)
  refine q_istore (L' := [some (.ref l0), some (.int l1), none, none, some (.int l4), some (.int l5), some (.int l6), some (.int v30)]) C dX12_joyOf_125 (by decide) rfl rfl ?_
  exact q_msk [false, false, false, false, false, false, false, true] (jW_X12_joyOf_127 C v30 M29 h)
noncomputable def J_X12_joyOf_23 (l0 : Nat) (l1 : Int32) (l2 : Int32) (l3 : Int32) (l4 : Int32) (l5 : Int32) (l6 : Int32) (s0 : Int32) (M : q_Mem) : Option (Int32 × q_Mem) := (q_gI M l0 12 34 (fun v1 => (if v1 = (-1 : Int32) then J_X12_joyOf_127 s0 M else (q_gR M l0 12 4 (fun c2 => q_nn c2 (fun r3 => (q_tI M r3 (119 : Int32) l2 (fun M4 => (q_gR M4 l0 12 4 (fun c5 => q_nn c5 (fun r6 => (if l3 = 0 then J_X12_joyOf_56 l0 l1 l4 l5 l6 r6 (108 : Int32) (0 : Int32) M4 else J_X12_joyOf_56 l0 l1 l4 l5 l6 r6 (108 : Int32) (1 : Int32) M4))))))))))))
set_option maxRecDepth 100000 in
set_option maxHeartbeats 4000000 in
theorem jW_X12_joyOf_23 {K : q_K} (C : q_C K yX12_joyOf cX12_joyOf 8 (Option.some Jvm.ClassFile.FieldType.int) 131 0 0) (l0 : Nat) (l1 : Int32) (l2 : Int32) (l3 : Int32) (l4 : Int32) (l5 : Int32) (l6 : Int32) (s0 : Int32) (M : q_Mem) {r : Int32} {M' : q_Mem} (h : J_X12_joyOf_23 l0 l1 l2 l3 l4 l5 l6 s0 M = some (r, M')) : q_W K 8 (q_Q K (some (.int r)) M' 0 0) 0 0 M 23 [some (.ref l0), some (.int l1), some (.int l2), some (.int l3), some (.int l4), some (.int l5), some (.int l6), none] [.int s0] := by
  unfold J_X12_joyOf_23 at h
  refine q_istore (L' := [some (.ref l0), some (.int l1), some (.int l2), some (.int l3), some (.int l4), some (.int l5), some (.int l6), some (.int s0)]) C dX12_joyOf_23 (by decide) rfl rfl ?_
  refine q_aload_n C dX12_joyOf_25 rfl ?_
  refine x_getI (ci := 12) (j := 34) C dX12_joyOf_26 lkF_X12_67 rfl h (fun v1 h => ?_)
  refine x_iconst (v := (-1 : Int32)) C dX12_joyOf_29 (by decide) ?_
  refine q_icmp_eq (tgt := 127) C dX12_joyOf_30 (by decide) h (fun _ h => ?_) (fun _ h => ?_)
  · exact q_msk [false, false, false, false, false, false, false, true] (jW_X12_joyOf_127 C s0 M h)
  · refine q_aload_n C dX12_joyOf_33 rfl ?_
    refine x_getR (ci := 12) (j := 4) C dX12_joyOf_34 lkF_X12_20 rfl h (fun c2 h => ?_)
    refine x_nn h (fun r3 h => ?_)
    refine x_bipush (v := (119 : Int32)) C dX12_joyOf_37 (by decide) ?_
    refine q_iload_n C dX12_joyOf_39 rfl ?_
    refine x_iast C dX12_joyOf_40 h (fun M4 h => ?_)
    refine q_aload_n C dX12_joyOf_41 rfl ?_
    refine x_getR (ci := 12) (j := 4) C dX12_joyOf_42 lkF_X12_20 rfl h (fun c5 h => ?_)
    refine x_nn h (fun r6 h => ?_)
    refine x_bipush (v := (108 : Int32)) C dX12_joyOf_45 (by decide) ?_
    refine q_iload_n C dX12_joyOf_47 rfl ?_
    refine q_if_eq (tgt := 55) C dX12_joyOf_48 (by decide) h (fun _ h => ?_) (fun _ h => ?_)
    · refine x_iconst (v := (0 : Int32)) C dX12_joyOf_55 (by decide) ?_
      exact q_msk [true, true, false, false, true, true, true, false] (jW_X12_joyOf_56 C l0 l1 l4 l5 l6 r6 (108 : Int32) (0 : Int32) M4 h)
    · refine x_iconst (v := (1 : Int32)) C dX12_joyOf_51 (by decide) ?_
      refine q_goto (tgt := 56) C dX12_joyOf_52 (by decide) ?_
      exact q_msk [true, true, false, false, true, true, true, false] (jW_X12_joyOf_56 C l0 l1 l4 l5 l6 r6 (108 : Int32) (1 : Int32) M4 h)
noncomputable def J_X12_joyOf_22 (l0 : Nat) (l1 : Int32) (l2 : Int32) (l3 : Int32) (l4 : Int32) (l5 : Int32) (l6 : Int32) (s0 : Int32) (s1 : Int32) (M : q_Mem) : Option (Int32 × q_Mem) := J_X12_joyOf_23 l0 l1 l2 l3 l4 l5 l6 (s0 + s1) M
set_option maxRecDepth 100000 in
set_option maxHeartbeats 4000000 in
theorem jW_X12_joyOf_22 {K : q_K} (C : q_C K yX12_joyOf cX12_joyOf 8 (Option.some Jvm.ClassFile.FieldType.int) 131 0 0) (l0 : Nat) (l1 : Int32) (l2 : Int32) (l3 : Int32) (l4 : Int32) (l5 : Int32) (l6 : Int32) (s0 : Int32) (s1 : Int32) (M : q_Mem) {r : Int32} {M' : q_Mem} (h : J_X12_joyOf_22 l0 l1 l2 l3 l4 l5 l6 s0 s1 M = some (r, M')) : q_W K 8 (q_Q K (some (.int r)) M' 0 0) 0 0 M 22 [some (.ref l0), some (.int l1), some (.int l2), some (.int l3), some (.int l4), some (.int l5), some (.int l6), none] [.int s1, .int s0] := by
  unfold J_X12_joyOf_22 at h
  refine q_iadd C dX12_joyOf_22 ?_
  exact q_msk [true, true, true, true, true, true, true, false] (jW_X12_joyOf_23 C l0 l1 l2 l3 l4 l5 l6 (s0 + s1) M h)
noncomputable def F_X12_joyOf (l0 : Nat) (l1 : Int32) (l2 : Int32) (l3 : Int32) (l4 : Int32) (l5 : Int32) (l6 : Int32) (M : q_Mem) : Option (Int32 × q_Mem) := (if l4 = 0 then J_X12_joyOf_23 l0 l1 l2 l3 l4 l5 l6 (-2 : Int32) M else (q_dvi l2 (3 : Int32) (fun v31 => (if l3 = 0 then J_X12_joyOf_22 l0 l1 l2 l3 l4 l5 l6 v31 (0 : Int32) M else J_X12_joyOf_22 l0 l1 l2 l3 l4 l5 l6 v31 (3 : Int32) M))))
set_option maxRecDepth 100000 in
set_option maxHeartbeats 4000000 in
theorem c_X12_joyOf (l : Launch) (G : q_G) (l0 : Nat) (l1 : Int32) (l2 : Int32) (l3 : Int32) (l4 : Int32) (l5 : Int32) (l6 : Int32) (M : q_Mem) {r : Int32} {M' : q_Mem} (h : F_X12_joyOf l0 l1 l2 l3 l4 l5 l6 M = some (r, M')) : q_Met l G yX12_joyOf cX12_joyOf 8 (Option.some Jvm.ClassFile.FieldType.int) 131 0 0 [.ref l0, .int l1, .int l2, .int l3, .int l4, .int l5, .int l6] M (some (.int r)) M' := by
  unfold F_X12_joyOf at h
  refine q_enter [some (.ref l0), some (.int l1), some (.int l2), some (.int l3), some (.int l4), some (.int l5), some (.int l6), none] (by decide) (Nat.le_of_ble_eq_true rfl) rfl (fun K C => ?_)
  refine q_iload C dX12_joyOf_0 rfl ?_
  refine q_if_ne (tgt := 10) C dX12_joyOf_2 (by decide) h (fun _ h => ?_) (fun _ h => ?_)
  · refine x_bipush (v := (-2 : Int32)) C dX12_joyOf_5 (by decide) ?_
    refine q_goto (tgt := 23) C dX12_joyOf_7 (by decide) ?_
    exact q_msk [true, true, true, true, true, true, true, false] (jW_X12_joyOf_23 C l0 l1 l2 l3 l4 l5 l6 (-2 : Int32) M h)
  · refine q_iload_n C dX12_joyOf_10 rfl ?_
    refine x_iconst (v := (3 : Int32)) C dX12_joyOf_11 (by decide) ?_
    refine q_idiv C dX12_joyOf_12 h (fun v31 h => ?_)
    refine q_iload_n C dX12_joyOf_13 rfl ?_
    refine q_if_eq (tgt := 21) C dX12_joyOf_14 (by decide) h (fun _ h => ?_) (fun _ h => ?_)
    · refine x_iconst (v := (0 : Int32)) C dX12_joyOf_21 (by decide) ?_
      exact q_msk [true, true, true, true, true, true, true, false] (jW_X12_joyOf_22 C l0 l1 l2 l3 l4 l5 l6 v31 (0 : Int32) M h)
    · refine x_iconst (v := (3 : Int32)) C dX12_joyOf_17 (by decide) ?_
      refine q_goto (tgt := 22) C dX12_joyOf_18 (by decide) ?_
      exact q_msk [true, true, true, true, true, true, true, false] (jW_X12_joyOf_22 C l0 l1 l2 l3 l4 l5 l6 v31 (3 : Int32) M h)
noncomputable def J_X12_fedBits_29_4 (l0 : Nat) (l2 : Int32) (s0 : Int32) (s1 : Int32) (M : q_Mem) : Option ((Int32 × Int32) ⊕ (Int32)) := some (.inl ((s0 ||| s1), (l2 + (1 : Int32))))
set_option maxRecDepth 100000 in
set_option maxHeartbeats 4000000 in
theorem jW_X12_fedBits_29_4 {K : q_K} {Q : State → Prop} (C : q_C K yX12_fedBits cX12_fedBits 3 (Option.some Jvm.ClassFile.FieldType.int) 1 0 0) (l0 : Nat) (l2 : Int32) (s0 : Int32) (s1 : Int32) (M : q_Mem) {stp : (Int32 × Int32) ⊕ (Int32)} (h : J_X12_fedBits_29_4 l0 l2 s0 s1 M = some stp) (kC : ∀ (l1 : Int32) (l2 : Int32), stp = .inl (l1, l2) → q_W K 3 Q 0 0 M 4 [some (.ref l0), some (.int l1), some (.int l2)] []) (kE0 : ∀ (l1 : Int32), stp = .inr l1 → q_W K 3 Q 0 0 M 37 [none, some (.int l1), none] []) : q_W K 3 Q 0 0 M 29 [some (.ref l0), none, some (.int l2)] [.int s1, .int s0] := by
  unfold J_X12_fedBits_29_4 at h
  refine q_ior C dX12_fedBits_29 ?_
  refine q_istore_n (L' := [some (.ref l0), some (.int (s0 ||| s1)), some (.int l2)]) C dX12_fedBits_30 (by decide) rfl rfl ?_
  refine x_iinc (w := (1 : Int32)) (L' := [some (.ref l0), some (.int (s0 ||| s1)), some (.int (l2 + (1 : Int32)))]) C dX12_fedBits_31 rfl (by decide) (by decide) rfl rfl ?_
  refine q_goto (tgt := 4) C dX12_fedBits_34 (by decide) ?_
  exact q_msk [true, true, true] (kC _ _ (Option.some.inj h).symm)
noncomputable def B_X12_fedBits_4 (l0 : Nat) (l1 : Int32) (l2 : Int32) (M : q_Mem) : Option ((Int32 × Int32) ⊕ (Int32)) := (q_gI M l0 12 27 (fun v1 => (if l2 < v1 then (q_gR M l0 12 36 (fun c2 => q_nn c2 (fun r3 => (q_lI M 0 r3 l2 (fun v4 => (if 0 < v4 then J_X12_fedBits_29_4 l0 l2 l1 ((1 : Int32) <<< (l2 &&& 31)) M else J_X12_fedBits_29_4 l0 l2 l1 (0 : Int32) M)))))) else some (.inr l1))))
set_option maxRecDepth 100000 in
set_option maxHeartbeats 4000000 in
theorem bW_X12_fedBits_4 {K : q_K} {Q : State → Prop} (C : q_C K yX12_fedBits cX12_fedBits 3 (Option.some Jvm.ClassFile.FieldType.int) 1 0 0) (l0 : Nat) (l1 : Int32) (l2 : Int32) (M : q_Mem) {stp : (Int32 × Int32) ⊕ (Int32)} (h : B_X12_fedBits_4 l0 l1 l2 M = some stp) (kC : ∀ (l1 : Int32) (l2 : Int32), stp = .inl (l1, l2) → q_W K 3 Q 0 0 M 4 [some (.ref l0), some (.int l1), some (.int l2)] []) (kE0 : ∀ (l1 : Int32), stp = .inr l1 → q_W K 3 Q 0 0 M 37 [none, some (.int l1), none] []) : q_W K 3 Q 0 0 M 4 [some (.ref l0), some (.int l1), some (.int l2)] [] := by
  unfold B_X12_fedBits_4 at h
  refine q_iload_n C dX12_fedBits_4 rfl ?_
  refine q_aload_n C dX12_fedBits_5 rfl ?_
  refine x_getI (ci := 12) (j := 27) C dX12_fedBits_6 lkF_X12_287 rfl h (fun v1 h => ?_)
  refine q_icmp_ge (tgt := 37) C dX12_fedBits_9 (by decide) h (fun _ h => ?_) (fun _ h => ?_)
  · refine q_iload_n C dX12_fedBits_12 rfl ?_
    refine q_aload_n C dX12_fedBits_13 rfl ?_
    refine x_getR (ci := 12) (j := 36) C dX12_fedBits_14 lkF_X12_74 rfl h (fun c2 h => ?_)
    refine x_nn h (fun r3 h => ?_)
    refine q_iload_n C dX12_fedBits_17 rfl ?_
    refine x_iald C dX12_fedBits_18 h (fun v4 h => ?_)
    refine q_if_le (tgt := 28) C dX12_fedBits_19 (by decide) h (fun _ h => ?_) (fun _ h => ?_)
    · refine x_iconst (v := (1 : Int32)) C dX12_fedBits_22 (by decide) ?_
      refine q_iload_n C dX12_fedBits_23 rfl ?_
      refine q_ishl C dX12_fedBits_24 ?_
      refine q_goto (tgt := 29) C dX12_fedBits_25 (by decide) ?_
      exact q_msk [true, false, true] (jW_X12_fedBits_29_4 C l0 l2 l1 ((1 : Int32) <<< (l2 &&& 31)) M h kC kE0)
    · refine x_iconst (v := (0 : Int32)) C dX12_fedBits_28 (by decide) ?_
      exact q_msk [true, false, true] (jW_X12_fedBits_29_4 C l0 l2 l1 (0 : Int32) M h kC kE0)
  · exact q_msk [false, true, false] (kE0 _ (Option.some.inj h).symm)
set_option maxRecDepth 100000 in
set_option maxHeartbeats 4000000 in
theorem lW_X12_fedBits_4 {K : q_K} {Q : State → Prop} (C : q_C K yX12_fedBits cX12_fedBits 3 (Option.some Jvm.ClassFile.FieldType.int) 1 0 0) (l0 : Nat) (M : q_Mem) (n : Nat) : ∀ (l1 : Int32) (l2 : Int32) (e : (Int32)), q_lp (fun s => B_X12_fedBits_4 l0 s.1 s.2 M) n (l1, l2) = some e → (∀ (l1 : Int32), e = l1 → q_W K 3 Q 0 0 M 37 [none, some (.int l1), none] []) → q_W K 3 Q 0 0 M 4 [some (.ref l0), some (.int l1), some (.int l2)] [] := by
  induction n with
  | zero => intro l1 l2 e h; cases h
  | succ n ih =>
    intro l1 l2 e h kE0
    obtain ⟨stp, e1, e2⟩ := q_bind h
    refine bW_X12_fedBits_4 C l0 l1 l2 M e1 (fun a0 a1 hs => ?_) (fun b0 hs => ?_)
    · subst hs; exact ih _ _ _ e2 kE0
    · subst hs; exact kE0 _ (Option.some.inj e2).symm
noncomputable def F_X12_fedBits (l0 : Nat) (M : q_Mem) : Option (Int32) := (q_lp (fun s => B_X12_fedBits_4 l0 s.1 s.2 M) q_fu ((0 : Int32), (0 : Int32))).bind (fun e5 => match e5 with | w6 => some w6)
set_option maxRecDepth 100000 in
set_option maxHeartbeats 4000000 in
theorem c_X12_fedBits (l : Launch) (G : q_G) (l0 : Nat) (M : q_Mem) {r : Int32} (h : F_X12_fedBits l0 M = some r) : q_Met l G yX12_fedBits cX12_fedBits 3 (Option.some Jvm.ClassFile.FieldType.int) 1 0 0 [.ref l0] M (some (.int r)) M := by
  unfold F_X12_fedBits at h
  refine q_enter [some (.ref l0), none, none] (by decide) (Nat.le_of_ble_eq_true rfl) rfl (fun K C => ?_)
  refine x_iconst (v := (0 : Int32)) C dX12_fedBits_0 (by decide) ?_
  refine q_istore_n (L' := [some (.ref l0), some (.int (0 : Int32)), none]) C dX12_fedBits_1 (by decide) rfl rfl ?_
  refine x_iconst (v := (0 : Int32)) C dX12_fedBits_2 (by decide) ?_
  refine q_istore_n (L' := [some (.ref l0), some (.int (0 : Int32)), some (.int (0 : Int32))]) C dX12_fedBits_3 (by decide) rfl rfl ?_
  obtain ⟨e5, he, h⟩ := q_bind h
  refine q_msk [true, true, true] (lW_X12_fedBits_4 C l0 M q_fu _ _ _ he (fun w6 hs => ?_))
  · have hs := hs.symm
    subst hs
    refine q_iload_n C dX12_fedBits_37 rfl ?_
    exact q_iret (res := (r, M)) C dX12_fedBits_38 rfl (by decide) (by decide) (congrArg (fun z => (z, M)) (Option.some.inj h))
noncomputable def B_X12_joys_4 (l0 : Nat) (l1 : Nat) (l2 : Int32) (l3 : Int32) (M : q_Mem) : Option ((Int32 × Int32) ⊕ (Int32)) := (q_gI M l0 12 27 (fun v1 => (if l3 < v1 then (q_lI M 0 l1 (((4 : Int32) * l3) + (2 : Int32)) (fun v2 => some (.inl ((l2 + v2), (l3 + (1 : Int32)))))) else some (.inr l2))))
set_option maxRecDepth 100000 in
set_option maxHeartbeats 4000000 in
theorem bW_X12_joys_4 {K : q_K} {Q : State → Prop} (C : q_C K yX12_joys cX12_joys 4 (Option.some Jvm.ClassFile.FieldType.int) 1 0 0) (l0 : Nat) (l1 : Nat) (l2 : Int32) (l3 : Int32) (M : q_Mem) {stp : (Int32 × Int32) ⊕ (Int32)} (h : B_X12_joys_4 l0 l1 l2 l3 M = some stp) (kC : ∀ (l2 : Int32) (l3 : Int32), stp = .inl (l2, l3) → q_W K 4 Q 0 0 M 4 [some (.ref l0), some (.ref l1), some (.int l2), some (.int l3)] []) (kE0 : ∀ (l2 : Int32), stp = .inr l2 → q_W K 4 Q 0 0 M 28 [none, none, some (.int l2), none] []) : q_W K 4 Q 0 0 M 4 [some (.ref l0), some (.ref l1), some (.int l2), some (.int l3)] [] := by
  unfold B_X12_joys_4 at h
  refine q_iload_n C dX12_joys_4 rfl ?_
  refine q_aload_n C dX12_joys_5 rfl ?_
  refine x_getI (ci := 12) (j := 27) C dX12_joys_6 lkF_X12_287 rfl h (fun v1 h => ?_)
  refine q_icmp_ge (tgt := 28) C dX12_joys_9 (by decide) h (fun _ h => ?_) (fun _ h => ?_)
  · refine q_iload_n C dX12_joys_12 rfl ?_
    refine q_aload_n C dX12_joys_13 rfl ?_
    refine x_iconst (v := (4 : Int32)) C dX12_joys_14 (by decide) ?_
    refine q_iload_n C dX12_joys_15 rfl ?_
    refine q_imul C dX12_joys_16 ?_
    refine x_iconst (v := (2 : Int32)) C dX12_joys_17 (by decide) ?_
    refine q_iadd C dX12_joys_18 ?_
    refine x_iald C dX12_joys_19 h (fun v2 h => ?_)
    refine q_iadd C dX12_joys_20 ?_
    refine q_istore_n (L' := [some (.ref l0), some (.ref l1), some (.int (l2 + v2)), some (.int l3)]) C dX12_joys_21 (by decide) rfl rfl ?_
    refine x_iinc (w := (1 : Int32)) (L' := [some (.ref l0), some (.ref l1), some (.int (l2 + v2)), some (.int (l3 + (1 : Int32)))]) C dX12_joys_22 rfl (by decide) (by decide) rfl rfl ?_
    refine q_goto (tgt := 4) C dX12_joys_25 (by decide) ?_
    exact q_msk [true, true, true, true] (kC _ _ (Option.some.inj h).symm)
  · exact q_msk [false, false, true, false] (kE0 _ (Option.some.inj h).symm)
set_option maxRecDepth 100000 in
set_option maxHeartbeats 4000000 in
theorem lW_X12_joys_4 {K : q_K} {Q : State → Prop} (C : q_C K yX12_joys cX12_joys 4 (Option.some Jvm.ClassFile.FieldType.int) 1 0 0) (l0 : Nat) (l1 : Nat) (M : q_Mem) (n : Nat) : ∀ (l2 : Int32) (l3 : Int32) (e : (Int32)), q_lp (fun s => B_X12_joys_4 l0 l1 s.1 s.2 M) n (l2, l3) = some e → (∀ (l2 : Int32), e = l2 → q_W K 4 Q 0 0 M 28 [none, none, some (.int l2), none] []) → q_W K 4 Q 0 0 M 4 [some (.ref l0), some (.ref l1), some (.int l2), some (.int l3)] [] := by
  induction n with
  | zero => intro l2 l3 e h; cases h
  | succ n ih =>
    intro l2 l3 e h kE0
    obtain ⟨stp, e1, e2⟩ := q_bind h
    refine bW_X12_joys_4 C l0 l1 l2 l3 M e1 (fun a0 a1 hs => ?_) (fun b0 hs => ?_)
    · subst hs; exact ih _ _ _ e2 kE0
    · subst hs; exact kE0 _ (Option.some.inj e2).symm
noncomputable def F_X12_joys (l0 : Nat) (l1 : Nat) (M : q_Mem) : Option (Int32) := (q_lp (fun s => B_X12_joys_4 l0 l1 s.1 s.2 M) q_fu ((0 : Int32), (0 : Int32))).bind (fun e3 => match e3 with | w4 => some w4)
set_option maxRecDepth 100000 in
set_option maxHeartbeats 4000000 in
theorem c_X12_joys (l : Launch) (G : q_G) (l0 : Nat) (l1 : Nat) (M : q_Mem) {r : Int32} (h : F_X12_joys l0 l1 M = some r) : q_Met l G yX12_joys cX12_joys 4 (Option.some Jvm.ClassFile.FieldType.int) 1 0 0 [.ref l0, .ref l1] M (some (.int r)) M := by
  unfold F_X12_joys at h
  refine q_enter [some (.ref l0), some (.ref l1), none, none] (by decide) (Nat.le_of_ble_eq_true rfl) rfl (fun K C => ?_)
  refine x_iconst (v := (0 : Int32)) C dX12_joys_0 (by decide) ?_
  refine q_istore_n (L' := [some (.ref l0), some (.ref l1), some (.int (0 : Int32)), none]) C dX12_joys_1 (by decide) rfl rfl ?_
  refine x_iconst (v := (0 : Int32)) C dX12_joys_2 (by decide) ?_
  refine q_istore_n (L' := [some (.ref l0), some (.ref l1), some (.int (0 : Int32)), some (.int (0 : Int32))]) C dX12_joys_3 (by decide) rfl rfl ?_
  obtain ⟨e3, he, h⟩ := q_bind h
  refine q_msk [true, true, true, true] (lW_X12_joys_4 C l0 l1 M q_fu _ _ _ he (fun w4 hs => ?_))
  · have hs := hs.symm
    subst hs
    refine q_iload_n C dX12_joys_28 rfl ?_
    exact q_iret (res := (r, M)) C dX12_joys_29 rfl (by decide) (by decide) (congrArg (fun z => (z, M)) (Option.some.inj h))
noncomputable def J_X12_goDay_198_45 (l0 : Nat) (l1 : Nat) (l2 : Int32) (l3 : Int32) (M : q_Mem) : Option ((Int32 × q_Mem) ⊕ (q_Mem)) := some (.inl ((l3 + (1 : Int32)), M))
set_option maxRecDepth 100000 in
set_option maxHeartbeats 4000000 in
theorem jW_X12_goDay_198_45 {K : q_K} {Q : State → Prop} (C : q_C K yX12_goDay cX12_goDay 6 (Option.some Jvm.ClassFile.FieldType.int) 132 0 0) (l0 : Nat) (l1 : Nat) (l2 : Int32) (l3 : Int32) (M : q_Mem) {stp : (Int32 × q_Mem) ⊕ (q_Mem)} (h : J_X12_goDay_198_45 l0 l1 l2 l3 M = some stp) (kC : ∀ (l3 : Int32) (M : q_Mem), stp = .inl (l3, M) → q_W K 6 Q 0 0 M 45 [some (.ref l0), some (.ref l1), some (.int l2), some (.int l3), none, none] []) (kE0 : ∀ (M : q_Mem), stp = .inr M → q_W K 6 Q 0 0 M 204 [some (.ref l0), some (.ref l1), none, none, none, none] []) : q_W K 6 Q 0 0 M 198 [some (.ref l0), some (.ref l1), some (.int l2), some (.int l3), none, none] [] := by
  unfold J_X12_goDay_198_45 at h
  refine x_iinc (w := (1 : Int32)) (L' := [some (.ref l0), some (.ref l1), some (.int l2), some (.int (l3 + (1 : Int32))), none, none]) C dX12_goDay_198 rfl (by decide) (by decide) rfl rfl ?_
  refine q_goto (tgt := 45) C dX12_goDay_201 (by decide) ?_
  exact q_msk [true, true, true, true, false, false] (kC _ _ (Option.some.inj h).symm)
noncomputable def J_X12_goDay_95_45 (l0 : Nat) (l1 : Nat) (l2 : Int32) (l3 : Int32) (s0 : Int32) (M : q_Mem) : Option ((Int32 × q_Mem) ⊕ (q_Mem)) := (q_lI M 0 l1 (((4 : Int32) * l3) + (2 : Int32)) (fun v14 => (q_gI M l0 12 38 (fun v15 => (q_gR M l0 12 36 (fun c16 => q_nn c16 (fun r17 => (q_lI M 0 r17 l3 (fun v18 => (q_lI M 0 l1 (35 : Int32) (fun v19 => (q_ob M l0 12 ((F_X12_comes l0 l3 M).bind (fun u20 => (q_lI M 0 l1 (35 : Int32) (fun v21 => (q_ob M l0 12 ((F_X12_joyOf l0 l3 v15 s0 v18 (v19 - u20) v21 M).bind (fun x => match x with | (u22, M23) => (q_tI M23 l1 (((4 : Int32) * l3) + (2 : Int32)) (q_mx (-99 : Int32) (q_mn (999 : Int32) (v14 + u22))) (fun M24 => (q_lI M24 0 l1 (33 : Int32) (fun v25 => (q_ob M24 l0 12 ((F_X12_pays l0 l3 M24).bind (fun u26 => (q_tI M24 l1 (33 : Int32) (q_mn (999 : Int32) (v25 + u26)) (fun M27 => (q_lI M27 0 l1 (((4 : Int32) * l3) + (2 : Int32)) (fun v28 => (if (-10 : Int32) < v28 then J_X12_goDay_198_45 l0 l1 l2 l3 M27 else (q_tI M27 l1 (((4 : Int32) * l3) + (3 : Int32)) (1 : Int32) (fun M29 => J_X12_goDay_198_45 l0 l1 l2 l3 M29)))))))))))))))))))))))))))))))))
set_option maxRecDepth 100000 in
set_option maxHeartbeats 4000000 in
theorem jW_X12_goDay_95_45 {K : q_K} {Q : State → Prop} (C : q_C K yX12_goDay cX12_goDay 6 (Option.some Jvm.ClassFile.FieldType.int) 132 0 0) (l0 : Nat) (l1 : Nat) (l2 : Int32) (l3 : Int32) (s0 : Int32) (M : q_Mem) {stp : (Int32 × q_Mem) ⊕ (q_Mem)} (h : J_X12_goDay_95_45 l0 l1 l2 l3 s0 M = some stp) (kC : ∀ (l3 : Int32) (M : q_Mem), stp = .inl (l3, M) → q_W K 6 Q 0 0 M 45 [some (.ref l0), some (.ref l1), some (.int l2), some (.int l3), none, none] []) (kE0 : ∀ (M : q_Mem), stp = .inr M → q_W K 6 Q 0 0 M 204 [some (.ref l0), some (.ref l1), none, none, none, none] []) : q_W K 6 Q 0 0 M 95 [some (.ref l0), some (.ref l1), some (.int l2), some (.int l3), none, none] [.int s0] := by
  unfold J_X12_goDay_95_45 at h
  refine q_istore (L' := [some (.ref l0), some (.ref l1), some (.int l2), some (.int l3), some (.int s0), none]) C dX12_goDay_95 (by decide) rfl rfl ?_
  refine q_aload_n C dX12_goDay_97 rfl ?_
  refine x_iconst (v := (4 : Int32)) C dX12_goDay_98 (by decide) ?_
  refine q_iload_n C dX12_goDay_99 rfl ?_
  refine q_imul C dX12_goDay_100 ?_
  refine x_iconst (v := (2 : Int32)) C dX12_goDay_101 (by decide) ?_
  refine q_iadd C dX12_goDay_102 ?_
  refine x_iald C dX12_goDay_103 h (fun v14 h => ?_)
  refine q_aload_n C dX12_goDay_104 rfl ?_
  refine q_iload_n C dX12_goDay_105 rfl ?_
  refine q_aload_n C dX12_goDay_106 rfl ?_
  refine x_getI (ci := 12) (j := 38) C dX12_goDay_107 lkF_X12_319 rfl h (fun v15 h => ?_)
  refine q_iload C dX12_goDay_110 rfl ?_
  refine q_aload_n C dX12_goDay_112 rfl ?_
  refine x_getR (ci := 12) (j := 36) C dX12_goDay_113 lkF_X12_74 rfl h (fun c16 h => ?_)
  refine x_nn h (fun r17 h => ?_)
  refine q_iload_n C dX12_goDay_116 rfl ?_
  refine x_iald C dX12_goDay_117 h (fun v18 h => ?_)
  refine q_aload_n C dX12_goDay_118 rfl ?_
  refine x_bipush (v := (35 : Int32)) C dX12_goDay_119 (by decide) ?_
  refine x_iald C dX12_goDay_121 h (fun v19 h => ?_)
  refine q_aload_n C dX12_goDay_122 rfl ?_
  refine q_iload_n C dX12_goDay_123 rfl ?_
  obtain ⟨hk, h⟩ := q_obE h
  obtain ⟨u20, e1, h⟩ := q_bind h
  refine x_callV0 C dX12_goDay_124 lkM_X12_299 mV_X12_comes ⟨_, rfl, rfl⟩ hk (c_X12_comes _ _ _ _ _ e1) rfl rfl (Nat.le_of_ble_eq_true rfl) (by decide) (by decide) ?_
  refine q_isub C dX12_goDay_127 ?_
  refine q_aload_n C dX12_goDay_128 rfl ?_
  refine x_bipush (v := (35 : Int32)) C dX12_goDay_129 (by decide) ?_
  refine x_iald C dX12_goDay_131 h (fun v21 h => ?_)
  obtain ⟨hk, h⟩ := q_obE h
  obtain ⟨⟨u22, M23⟩, e1, h⟩ := q_bind h
  refine x_callV0 C dX12_goDay_132 lkM_X12_347 mV_X12_joyOf ⟨_, rfl, rfl⟩ hk (c_X12_joyOf _ _ _ _ _ _ _ _ _ _ e1) rfl rfl (Nat.le_of_ble_eq_true rfl) (by decide) (by decide) ?_
  refine q_iadd C dX12_goDay_135 ?_
  refine q_istore (L' := [some (.ref l0), some (.ref l1), some (.int l2), some (.int l3), some (.int s0), some (.int (v14 + u22))]) C dX12_goDay_136 (by decide) rfl rfl ?_
  refine q_aload_n C dX12_goDay_138 rfl ?_
  refine x_iconst (v := (4 : Int32)) C dX12_goDay_139 (by decide) ?_
  refine q_iload_n C dX12_goDay_140 rfl ?_
  refine q_imul C dX12_goDay_141 ?_
  refine x_iconst (v := (2 : Int32)) C dX12_goDay_142 (by decide) ?_
  refine q_iadd C dX12_goDay_143 ?_
  refine x_bipush (v := (-99 : Int32)) C dX12_goDay_144 (by decide) ?_
  refine x_sipush (v := (999 : Int32)) C dX12_goDay_146 (by decide) ?_
  refine q_iload C dX12_goDay_149 rfl ?_
  refine q_min C dX12_goDay_151 wd_1608 wd_470 wd_15 wd_471 (by decide) (Nat.le_of_ble_eq_true rfl) (by decide) ?_
  refine q_max C dX12_goDay_154 wd_1599 wd_467 wd_15 wd_468 (by decide) (Nat.le_of_ble_eq_true rfl) (by decide) ?_
  refine x_iast C dX12_goDay_157 h (fun M24 h => ?_)
  refine q_aload_n C dX12_goDay_158 rfl ?_
  refine x_bipush (v := (33 : Int32)) C dX12_goDay_159 (by decide) ?_
  refine x_sipush (v := (999 : Int32)) C dX12_goDay_161 (by decide) ?_
  refine q_aload_n C dX12_goDay_164 rfl ?_
  refine x_bipush (v := (33 : Int32)) C dX12_goDay_165 (by decide) ?_
  refine x_iald C dX12_goDay_167 h (fun v25 h => ?_)
  refine q_aload_n C dX12_goDay_168 rfl ?_
  refine q_iload_n C dX12_goDay_169 rfl ?_
  obtain ⟨hk, h⟩ := q_obE h
  obtain ⟨u26, e1, h⟩ := q_bind h
  refine x_callV0 C dX12_goDay_170 lkM_X12_306 mV_X12_pays ⟨_, rfl, rfl⟩ hk (c_X12_pays _ _ _ _ _ e1) rfl rfl (Nat.le_of_ble_eq_true rfl) (by decide) (by decide) ?_
  refine q_iadd C dX12_goDay_173 ?_
  refine q_min C dX12_goDay_174 wd_1608 wd_470 wd_15 wd_471 (by decide) (Nat.le_of_ble_eq_true rfl) (by decide) ?_
  refine x_iast C dX12_goDay_177 h (fun M27 h => ?_)
  refine q_aload_n C dX12_goDay_178 rfl ?_
  refine x_iconst (v := (4 : Int32)) C dX12_goDay_179 (by decide) ?_
  refine q_iload_n C dX12_goDay_180 rfl ?_
  refine q_imul C dX12_goDay_181 ?_
  refine x_iconst (v := (2 : Int32)) C dX12_goDay_182 (by decide) ?_
  refine q_iadd C dX12_goDay_183 ?_
  refine x_iald C dX12_goDay_184 h (fun v28 h => ?_)
  refine x_bipush (v := (-10 : Int32)) C dX12_goDay_185 (by decide) ?_
  refine q_icmp_gt (tgt := 198) C dX12_goDay_187 (by decide) h (fun _ h => ?_) (fun _ h => ?_)
  · exact q_msk [true, true, true, true, false, false] (jW_X12_goDay_198_45 C l0 l1 l2 l3 M27 h kC kE0)
  · refine q_aload_n C dX12_goDay_190 rfl ?_
    refine x_iconst (v := (4 : Int32)) C dX12_goDay_191 (by decide) ?_
    refine q_iload_n C dX12_goDay_192 rfl ?_
    refine q_imul C dX12_goDay_193 ?_
    refine x_iconst (v := (3 : Int32)) C dX12_goDay_194 (by decide) ?_
    refine q_iadd C dX12_goDay_195 ?_
    refine x_iconst (v := (1 : Int32)) C dX12_goDay_196 (by decide) ?_
    refine x_iast C dX12_goDay_197 h (fun M29 h => ?_)
    exact q_msk [true, true, true, true, false, false] (jW_X12_goDay_198_45 C l0 l1 l2 l3 M29 h kC kE0)
noncomputable def J_X12_goDay_94_45 (l0 : Nat) (l1 : Nat) (l2 : Int32) (l3 : Int32) (M : q_Mem) : Option ((Int32 × q_Mem) ⊕ (q_Mem)) := J_X12_goDay_95_45 l0 l1 l2 l3 (0 : Int32) M
set_option maxRecDepth 100000 in
set_option maxHeartbeats 4000000 in
theorem jW_X12_goDay_94_45 {K : q_K} {Q : State → Prop} (C : q_C K yX12_goDay cX12_goDay 6 (Option.some Jvm.ClassFile.FieldType.int) 132 0 0) (l0 : Nat) (l1 : Nat) (l2 : Int32) (l3 : Int32) (M : q_Mem) {stp : (Int32 × q_Mem) ⊕ (q_Mem)} (h : J_X12_goDay_94_45 l0 l1 l2 l3 M = some stp) (kC : ∀ (l3 : Int32) (M : q_Mem), stp = .inl (l3, M) → q_W K 6 Q 0 0 M 45 [some (.ref l0), some (.ref l1), some (.int l2), some (.int l3), none, none] []) (kE0 : ∀ (M : q_Mem), stp = .inr M → q_W K 6 Q 0 0 M 204 [some (.ref l0), some (.ref l1), none, none, none, none] []) : q_W K 6 Q 0 0 M 94 [some (.ref l0), some (.ref l1), some (.int l2), some (.int l3), none, none] [] := by
  unfold J_X12_goDay_94_45 at h
  refine x_iconst (v := (0 : Int32)) C dX12_goDay_94 (by decide) ?_
  exact q_msk [true, true, true, true, false, false] (jW_X12_goDay_95_45 C l0 l1 l2 l3 (0 : Int32) M h kC kE0)
noncomputable def B_X12_goDay_45 (l0 : Nat) (l1 : Nat) (l2 : Int32) (l3 : Int32) (M : q_Mem) : Option ((Int32 × q_Mem) ⊕ (q_Mem)) := (q_gI M l0 12 27 (fun v11 => (if l3 < v11 then ((F_X12_has l2 l3 M).bind (fun u12 => (if u12 = 0 then J_X12_goDay_198_45 l0 l1 l2 l3 M else (q_gI M l0 12 37 (fun v13 => (if v13 = (-1 : Int32) then J_X12_goDay_94_45 l0 l1 l2 l3 M else (q_gI M l0 12 37 (fun v30 => (q_ob M l0 12 ((F_X12_kindOf l0 v30 M).bind (fun u31 => (q_lI M 0 l1 (((4 : Int32) * l3) + (1 : Int32)) (fun v32 => (if u31 = v32 then J_X12_goDay_95_45 l0 l1 l2 l3 (1 : Int32) M else J_X12_goDay_94_45 l0 l1 l2 l3 M)))))))))))))) else some (.inr M))))
set_option maxRecDepth 100000 in
set_option maxHeartbeats 4000000 in
theorem bW_X12_goDay_45 {K : q_K} {Q : State → Prop} (C : q_C K yX12_goDay cX12_goDay 6 (Option.some Jvm.ClassFile.FieldType.int) 132 0 0) (l0 : Nat) (l1 : Nat) (l2 : Int32) (l3 : Int32) (M : q_Mem) {stp : (Int32 × q_Mem) ⊕ (q_Mem)} (h : B_X12_goDay_45 l0 l1 l2 l3 M = some stp) (kC : ∀ (l3 : Int32) (M : q_Mem), stp = .inl (l3, M) → q_W K 6 Q 0 0 M 45 [some (.ref l0), some (.ref l1), some (.int l2), some (.int l3), none, none] []) (kE0 : ∀ (M : q_Mem), stp = .inr M → q_W K 6 Q 0 0 M 204 [some (.ref l0), some (.ref l1), none, none, none, none] []) : q_W K 6 Q 0 0 M 45 [some (.ref l0), some (.ref l1), some (.int l2), some (.int l3), none, none] [] := by
  unfold B_X12_goDay_45 at h
  refine q_iload_n C dX12_goDay_45 rfl ?_
  refine q_aload_n C dX12_goDay_46 rfl ?_
  refine x_getI (ci := 12) (j := 27) C dX12_goDay_47 lkF_X12_287 rfl h (fun v11 h => ?_)
  refine q_icmp_ge (tgt := 204) C dX12_goDay_50 (by decide) h (fun _ h => ?_) (fun _ h => ?_)
  · refine q_iload_n C dX12_goDay_53 rfl ?_
    refine q_iload_n C dX12_goDay_54 rfl ?_
    obtain ⟨u12, e1, h⟩ := q_bind h
    refine x_callS0 C dX12_goDay_55 lkM_X12_225 mS_X12_has (c_X12_has _ _ _ _ _ e1) rfl rfl (Nat.le_of_ble_eq_true rfl) (by decide) (by decide) ?_
    refine q_if_ne (tgt := 64) C dX12_goDay_58 (by decide) h (fun _ h => ?_) (fun _ h => ?_)
    · refine q_goto (tgt := 198) C dX12_goDay_61 (by decide) ?_
      exact q_msk [true, true, true, true, false, false] (jW_X12_goDay_198_45 C l0 l1 l2 l3 M h kC kE0)
    · refine q_aload_n C dX12_goDay_64 rfl ?_
      refine x_getI (ci := 12) (j := 37) C dX12_goDay_65 lkF_X12_313 rfl h (fun v13 h => ?_)
      refine x_iconst (v := (-1 : Int32)) C dX12_goDay_68 (by decide) ?_
      refine q_icmp_eq (tgt := 94) C dX12_goDay_69 (by decide) h (fun _ h => ?_) (fun _ h => ?_)
      · exact q_msk [true, true, true, true, false, false] (jW_X12_goDay_94_45 C l0 l1 l2 l3 M h kC kE0)
      · refine q_aload_n C dX12_goDay_72 rfl ?_
        refine q_aload_n C dX12_goDay_73 rfl ?_
        refine x_getI (ci := 12) (j := 37) C dX12_goDay_74 lkF_X12_313 rfl h (fun v30 h => ?_)
        obtain ⟨hk, h⟩ := q_obE h
        obtain ⟨u31, e1, h⟩ := q_bind h
        refine x_callV0 C dX12_goDay_77 lkM_X12_344 mV_X12_kindOf ⟨_, rfl, rfl⟩ hk (c_X12_kindOf _ _ _ _ _ e1) rfl rfl (Nat.le_of_ble_eq_true rfl) (by decide) (by decide) ?_
        refine q_aload_n C dX12_goDay_80 rfl ?_
        refine x_iconst (v := (4 : Int32)) C dX12_goDay_81 (by decide) ?_
        refine q_iload_n C dX12_goDay_82 rfl ?_
        refine q_imul C dX12_goDay_83 ?_
        refine x_iconst (v := (1 : Int32)) C dX12_goDay_84 (by decide) ?_
        refine q_iadd C dX12_goDay_85 ?_
        refine x_iald C dX12_goDay_86 h (fun v32 h => ?_)
        refine q_icmp_ne (tgt := 94) C dX12_goDay_87 (by decide) h (fun _ h => ?_) (fun _ h => ?_)
        · refine x_iconst (v := (1 : Int32)) C dX12_goDay_90 (by decide) ?_
          refine q_goto (tgt := 95) C dX12_goDay_91 (by decide) ?_
          exact q_msk [true, true, true, true, false, false] (jW_X12_goDay_95_45 C l0 l1 l2 l3 (1 : Int32) M h kC kE0)
        · exact q_msk [true, true, true, true, false, false] (jW_X12_goDay_94_45 C l0 l1 l2 l3 M h kC kE0)
  · exact q_msk [true, true, false, false, false, false] (kE0 _ (Option.some.inj h).symm)
set_option maxRecDepth 100000 in
set_option maxHeartbeats 4000000 in
theorem lW_X12_goDay_45 {K : q_K} {Q : State → Prop} (C : q_C K yX12_goDay cX12_goDay 6 (Option.some Jvm.ClassFile.FieldType.int) 132 0 0) (l0 : Nat) (l1 : Nat) (l2 : Int32) (n : Nat) : ∀ (l3 : Int32) (M : q_Mem) (e : (q_Mem)), q_lp (fun s => B_X12_goDay_45 l0 l1 l2 s.1 s.2) n (l3, M) = some e → (∀ (M : q_Mem), e = M → q_W K 6 Q 0 0 M 204 [some (.ref l0), some (.ref l1), none, none, none, none] []) → q_W K 6 Q 0 0 M 45 [some (.ref l0), some (.ref l1), some (.int l2), some (.int l3), none, none] [] := by
  induction n with
  | zero => intro l3 M e h; cases h
  | succ n ih =>
    intro l3 M e h kE0
    obtain ⟨stp, e1, e2⟩ := q_bind h
    refine bW_X12_goDay_45 C l0 l1 l2 l3 M e1 (fun a0 a1 hs => ?_) (fun b0 hs => ?_)
    · subst hs; exact ih _ _ _ e2 kE0
    · subst hs; exact kE0 _ (Option.some.inj e2).symm
noncomputable def B_X12_goDay_228 (l0 : Nat) (l1 : Nat) (l3 : Int32) (M : q_Mem) : Option ((Int32 × q_Mem) ⊕ (q_Mem)) := (if (177 : Int32) < l3 then some (.inr M) else (q_lI M 0 l1 (((36 : Int32) + l3) + (3 : Int32)) (fun v39 => (q_tI M l1 ((36 : Int32) + l3) v39 (fun M40 => some (.inl ((l3 + (1 : Int32)), M40)))))))
set_option maxRecDepth 100000 in
set_option maxHeartbeats 4000000 in
theorem bW_X12_goDay_228 {K : q_K} {Q : State → Prop} (C : q_C K yX12_goDay cX12_goDay 6 (Option.some Jvm.ClassFile.FieldType.int) 132 0 0) (l0 : Nat) (l1 : Nat) (l3 : Int32) (M : q_Mem) {stp : (Int32 × q_Mem) ⊕ (q_Mem)} (h : B_X12_goDay_228 l0 l1 l3 M = some stp) (kC : ∀ (l3 : Int32) (M : q_Mem), stp = .inl (l3, M) → q_W K 6 Q 0 0 M 228 [some (.ref l0), some (.ref l1), none, some (.int l3), none, none] []) (kE0 : ∀ (M : q_Mem), stp = .inr M → q_W K 6 Q 0 0 M 255 [some (.ref l0), some (.ref l1), none, none, none, none] []) : q_W K 6 Q 0 0 M 228 [some (.ref l0), some (.ref l1), none, some (.int l3), none, none] [] := by
  unfold B_X12_goDay_228 at h
  refine q_iload_n C dX12_goDay_228 rfl ?_
  refine x_sipush (v := (177 : Int32)) C dX12_goDay_229 (by decide) ?_
  refine q_icmp_gt (tgt := 255) C dX12_goDay_232 (by decide) h (fun _ h => ?_) (fun _ h => ?_)
  · exact q_msk [true, true, false, false, false, false] (kE0 _ (Option.some.inj h).symm)
  · refine q_aload_n C dX12_goDay_235 rfl ?_
    refine x_bipush (v := (36 : Int32)) C dX12_goDay_236 (by decide) ?_
    refine q_iload_n C dX12_goDay_238 rfl ?_
    refine q_iadd C dX12_goDay_239 ?_
    refine q_aload_n C dX12_goDay_240 rfl ?_
    refine x_bipush (v := (36 : Int32)) C dX12_goDay_241 (by decide) ?_
    refine q_iload_n C dX12_goDay_243 rfl ?_
    refine q_iadd C dX12_goDay_244 ?_
    refine x_iconst (v := (3 : Int32)) C dX12_goDay_245 (by decide) ?_
    refine q_iadd C dX12_goDay_246 ?_
    refine x_iald C dX12_goDay_247 h (fun v39 h => ?_)
    refine x_iast C dX12_goDay_248 h (fun M40 h => ?_)
    refine x_iinc (w := (1 : Int32)) (L' := [some (.ref l0), some (.ref l1), none, some (.int (l3 + (1 : Int32))), none, none]) C dX12_goDay_249 rfl (by decide) (by decide) rfl rfl ?_
    refine q_goto (tgt := 228) C dX12_goDay_252 (by decide) ?_
    exact q_msk [true, true, false, true, false, false] (kC _ _ (Option.some.inj h).symm)
set_option maxRecDepth 100000 in
set_option maxHeartbeats 4000000 in
theorem lW_X12_goDay_228 {K : q_K} {Q : State → Prop} (C : q_C K yX12_goDay cX12_goDay 6 (Option.some Jvm.ClassFile.FieldType.int) 132 0 0) (l0 : Nat) (l1 : Nat) (n : Nat) : ∀ (l3 : Int32) (M : q_Mem) (e : (q_Mem)), q_lp (fun s => B_X12_goDay_228 l0 l1 s.1 s.2) n (l3, M) = some e → (∀ (M : q_Mem), e = M → q_W K 6 Q 0 0 M 255 [some (.ref l0), some (.ref l1), none, none, none, none] []) → q_W K 6 Q 0 0 M 228 [some (.ref l0), some (.ref l1), none, some (.int l3), none, none] [] := by
  induction n with
  | zero => intro l3 M e h; cases h
  | succ n ih =>
    intro l3 M e h kE0
    obtain ⟨stp, e1, e2⟩ := q_bind h
    refine bW_X12_goDay_228 C l0 l1 l3 M e1 (fun a0 a1 hs => ?_) (fun b0 hs => ?_)
    · subst hs; exact ih _ _ _ e2 kE0
    · subst hs; exact kE0 _ (Option.some.inj e2).symm
noncomputable def J_X12_goDay_263 (l0 : Nat) (l1 : Nat) (M : q_Mem) : Option (Int32 × q_Mem) := (q_lI M 0 l1 (36 : Int32) (fun v45 => (q_gI M l0 12 37 (fun v46 => (q_tI M l1 ((37 : Int32) + ((3 : Int32) * v45)) v46 (fun M47 => (q_ob M47 l0 12 ((F_X12_fedBits l0 M47).bind (fun u48 => (q_tI M47 l1 (((37 : Int32) + ((3 : Int32) * v45)) + (1 : Int32)) u48 (fun M49 => (q_ob M49 l0 12 ((F_X12_joys l0 l1 M49).bind (fun u50 => (q_tI M49 l1 (((37 : Int32) + ((3 : Int32) * v45)) + (2 : Int32)) u50 (fun M51 => (q_lI M51 0 l1 (36 : Int32) (fun v52 => (q_tI M51 l1 (36 : Int32) (v52 + (1 : Int32)) (fun M53 => (q_ob M53 l0 12 ((F_X12_fedBits l0 M53).bind (fun u54 => some (u54, M53))))))))))))))))))))))))
set_option maxRecDepth 100000 in
set_option maxHeartbeats 4000000 in
theorem jW_X12_goDay_263 {K : q_K} (C : q_C K yX12_goDay cX12_goDay 6 (Option.some Jvm.ClassFile.FieldType.int) 132 0 0) (l0 : Nat) (l1 : Nat) (M : q_Mem) {r : Int32} {M' : q_Mem} (h : J_X12_goDay_263 l0 l1 M = some (r, M')) : q_W K 6 (q_Q K (some (.int r)) M' 0 0) 0 0 M 263 [some (.ref l0), some (.ref l1), none, none, none, none] [] := by
  unfold J_X12_goDay_263 at h
  refine x_bipush (v := (37 : Int32)) C dX12_goDay_263 (by decide) ?_
  refine x_iconst (v := (3 : Int32)) C dX12_goDay_265 (by decide) ?_
  refine q_aload_n C dX12_goDay_266 rfl ?_
  refine x_bipush (v := (36 : Int32)) C dX12_goDay_267 (by decide) ?_
  refine x_iald C dX12_goDay_269 h (fun v45 h => ?_)
  refine q_imul C dX12_goDay_270 ?_
  refine q_iadd C dX12_goDay_271 ?_
  refine q_istore_n (L' := [some (.ref l0), some (.ref l1), none, some (.int ((37 : Int32) + ((3 : Int32) * v45))), none, none]) C dX12_goDay_272 (by decide) rfl rfl ?_
  refine q_aload_n C dX12_goDay_273 rfl ?_
  refine q_iload_n C dX12_goDay_274 rfl ?_
  refine q_aload_n C dX12_goDay_275 rfl ?_
  refine x_getI (ci := 12) (j := 37) C dX12_goDay_276 lkF_X12_313 rfl h (fun v46 h => ?_)
  refine x_iast C dX12_goDay_279 h (fun M47 h => ?_)
  refine q_aload_n C dX12_goDay_280 rfl ?_
  refine q_iload_n C dX12_goDay_281 rfl ?_
  refine x_iconst (v := (1 : Int32)) C dX12_goDay_282 (by decide) ?_
  refine q_iadd C dX12_goDay_283 ?_
  refine q_aload_n C dX12_goDay_284 rfl ?_
  obtain ⟨hk, h⟩ := q_obE h
  obtain ⟨u48, e1, h⟩ := q_bind h
  refine x_callV0 C dX12_goDay_285 lkM_X12_351 mV_X12_fedBits ⟨_, rfl, rfl⟩ hk (c_X12_fedBits _ _ _ _ e1) rfl rfl (Nat.le_of_ble_eq_true rfl) (by decide) (by decide) ?_
  refine x_iast C dX12_goDay_288 h (fun M49 h => ?_)
  refine q_aload_n C dX12_goDay_289 rfl ?_
  refine q_iload_n C dX12_goDay_290 rfl ?_
  refine x_iconst (v := (2 : Int32)) C dX12_goDay_291 (by decide) ?_
  refine q_iadd C dX12_goDay_292 ?_
  refine q_aload_n C dX12_goDay_293 rfl ?_
  refine q_aload_n C dX12_goDay_294 rfl ?_
  obtain ⟨hk, h⟩ := q_obE h
  obtain ⟨u50, e1, h⟩ := q_bind h
  refine x_callV0 C dX12_goDay_295 lkM_X12_354 mV_X12_joys ⟨_, rfl, rfl⟩ hk (c_X12_joys _ _ _ _ _ e1) rfl rfl (Nat.le_of_ble_eq_true rfl) (by decide) (by decide) ?_
  refine x_iast C dX12_goDay_298 h (fun M51 h => ?_)
  refine q_aload_n C dX12_goDay_299 rfl ?_
  refine x_bipush (v := (36 : Int32)) C dX12_goDay_300 (by decide) ?_
  refine q_dup2 C dX12_goDay_302 rfl rfl ?_
  refine x_iald C dX12_goDay_303 h (fun v52 h => ?_)
  refine x_iconst (v := (1 : Int32)) C dX12_goDay_304 (by decide) ?_
  refine q_iadd C dX12_goDay_305 ?_
  refine x_iast C dX12_goDay_306 h (fun M53 h => ?_)
  refine q_aload_n C dX12_goDay_307 rfl ?_
  obtain ⟨hk, h⟩ := q_obE h
  obtain ⟨u54, e1, h⟩ := q_bind h
  refine x_callV0 C dX12_goDay_308 lkM_X12_351 mV_X12_fedBits ⟨_, rfl, rfl⟩ hk (c_X12_fedBits _ _ _ _ e1) rfl rfl (Nat.le_of_ble_eq_true rfl) (by decide) (by decide) ?_
  exact q_iret C dX12_goDay_311 rfl (by decide) (by decide) (Option.some.inj h)
noncomputable def F_X12_goDay (l0 : Nat) (l1 : Nat) (M : q_Mem) : Option (Int32 × q_Mem) := (q_ob M l0 12 ((F_X12_thereBits l0 l1 M).bind (fun u1 => (q_ob M l0 12 ((F_X12_goTable l0 l1 M).bind (fun x => match x with | (_, M3) => (q_lI M3 0 l1 (33 : Int32) (fun v4 => (q_gR M3 l0 12 20 (fun c5 => q_nn c5 (fun r6 => (q_ob M3 l0 12 ((F_X12_cooks l0 l1 M3).bind (fun u7 => (q_lI M3 0 r6 (((3 : Int32) * u7) + (1 : Int32)) (fun v8 => ((F_J6_bitCount_0f7a4 u1 M3).bind (fun u9 => (q_tI M3 l1 (33 : Int32) (q_mx (0 : Int32) (v4 - (v8 * u9))) (fun M10 => (q_lp (fun s => B_X12_goDay_45 l0 l1 u1 s.1 s.2) q_fu ((0 : Int32), M10)).bind (fun e33 => match e33 with | M34 => (q_tI M34 l1 (34 : Int32) (0 : Int32) (fun M35 => (q_lI M35 0 l1 (35 : Int32) (fun v36 => (q_tI M35 l1 (35 : Int32) (v36 + (1 : Int32)) (fun M37 => (q_lI M37 0 l1 (36 : Int32) (fun v38 => (if v38 = (60 : Int32) then (q_lp (fun s => B_X12_goDay_228 l0 l1 s.1 s.2) q_fu ((1 : Int32), M37)).bind (fun e41 => match e41 with | M42 => (q_lI M42 0 l1 (36 : Int32) (fun v43 => (q_tI M42 l1 (36 : Int32) (v43 - (1 : Int32)) (fun M44 => J_X12_goDay_263 l0 l1 M44))))) else J_X12_goDay_263 l0 l1 M37))))))))))))))))))))))))))))))
set_option maxRecDepth 100000 in
set_option maxHeartbeats 4000000 in
theorem c_X12_goDay (l : Launch) (G : q_G) (l0 : Nat) (l1 : Nat) (M : q_Mem) {r : Int32} {M' : q_Mem} (h : F_X12_goDay l0 l1 M = some (r, M')) : q_Met l G yX12_goDay cX12_goDay 6 (Option.some Jvm.ClassFile.FieldType.int) 132 0 0 [.ref l0, .ref l1] M (some (.int r)) M' := by
  unfold F_X12_goDay at h
  refine q_enter [some (.ref l0), some (.ref l1), none, none, none, none] (by decide) (Nat.le_of_ble_eq_true rfl) rfl (fun K C => ?_)
  refine q_aload_n C dX12_goDay_0 rfl ?_
  refine q_aload_n C dX12_goDay_1 rfl ?_
  obtain ⟨hk, h⟩ := q_obE h
  obtain ⟨u1, e1, h⟩ := q_bind h
  refine x_callV0 C dX12_goDay_2 lkM_X12_326 mV_X12_thereBits ⟨_, rfl, rfl⟩ hk (c_X12_thereBits _ _ _ _ _ e1) rfl rfl (Nat.le_of_ble_eq_true rfl) (by decide) (by decide) ?_
  refine q_istore_n (L' := [some (.ref l0), some (.ref l1), some (.int u1), none, none, none]) C dX12_goDay_5 (by decide) rfl rfl ?_
  refine q_aload_n C dX12_goDay_6 rfl ?_
  refine q_aload_n C dX12_goDay_7 rfl ?_
  obtain ⟨hk, h⟩ := q_obE h
  obtain ⟨⟨_, M3⟩, e1, h⟩ := q_bind h
  refine x_callVv0 C dX12_goDay_8 lkM_X12_341 mV_X12_goTable ⟨_, rfl, rfl⟩ hk (c_X12_goTable _ _ _ _ _ e1) rfl rfl (Nat.le_of_ble_eq_true rfl) (by decide) (by decide) ?_
  refine q_aload_n C dX12_goDay_11 rfl ?_
  refine x_bipush (v := (33 : Int32)) C dX12_goDay_12 (by decide) ?_
  refine x_iconst (v := (0 : Int32)) C dX12_goDay_14 (by decide) ?_
  refine q_aload_n C dX12_goDay_15 rfl ?_
  refine x_bipush (v := (33 : Int32)) C dX12_goDay_16 (by decide) ?_
  refine x_iald C dX12_goDay_18 h (fun v4 h => ?_)
  refine q_aload_n C dX12_goDay_19 rfl ?_
  refine x_getR (ci := 12) (j := 20) C dX12_goDay_20 lkF_X12_43 rfl h (fun c5 h => ?_)
  refine x_nn h (fun r6 h => ?_)
  refine x_iconst (v := (3 : Int32)) C dX12_goDay_23 (by decide) ?_
  refine q_aload_n C dX12_goDay_24 rfl ?_
  refine q_aload_n C dX12_goDay_25 rfl ?_
  obtain ⟨hk, h⟩ := q_obE h
  obtain ⟨u7, e1, h⟩ := q_bind h
  refine x_callV0 C dX12_goDay_26 lkM_X12_322 mV_X12_cooks ⟨_, rfl, rfl⟩ hk (c_X12_cooks _ _ _ _ _ e1) rfl rfl (Nat.le_of_ble_eq_true rfl) (by decide) (by decide) ?_
  refine q_imul C dX12_goDay_29 ?_
  refine x_iconst (v := (1 : Int32)) C dX12_goDay_30 (by decide) ?_
  refine q_iadd C dX12_goDay_31 ?_
  refine x_iald C dX12_goDay_32 h (fun v8 h => ?_)
  refine q_iload_n C dX12_goDay_33 rfl ?_
  obtain ⟨u9, e1, h⟩ := q_bind h
  refine x_callS0 C dX12_goDay_34 lkM_X12_329 mS_J6_bitCount_0f7a4 (c_J6_bitCount_0f7a4 _ _ _ _ e1) rfl rfl (Nat.le_of_ble_eq_true rfl) (by decide) (by decide) ?_
  refine q_imul C dX12_goDay_37 ?_
  refine q_isub C dX12_goDay_38 ?_
  refine q_max C dX12_goDay_39 wd_1599 wd_467 wd_15 wd_468 (by decide) (Nat.le_of_ble_eq_true rfl) (by decide) ?_
  refine x_iast C dX12_goDay_42 h (fun M10 h => ?_)
  refine x_iconst (v := (0 : Int32)) C dX12_goDay_43 (by decide) ?_
  refine q_istore_n (L' := [some (.ref l0), some (.ref l1), some (.int u1), some (.int (0 : Int32)), none, none]) C dX12_goDay_44 (by decide) rfl rfl ?_
  obtain ⟨e33, he, h⟩ := q_bind h
  refine q_msk [true, true, true, true, false, false] (lW_X12_goDay_45 C l0 l1 u1 q_fu _ _ _ he (fun M34 hs => ?_))
  · have hs := hs.symm
    subst hs
    refine q_aload_n C dX12_goDay_204 rfl ?_
    refine x_bipush (v := (34 : Int32)) C dX12_goDay_205 (by decide) ?_
    refine x_iconst (v := (0 : Int32)) C dX12_goDay_207 (by decide) ?_
    refine x_iast C dX12_goDay_208 h (fun M35 h => ?_)
    refine q_aload_n C dX12_goDay_209 rfl ?_
    refine x_bipush (v := (35 : Int32)) C dX12_goDay_210 (by decide) ?_
    refine q_dup2 C dX12_goDay_212 rfl rfl ?_
    refine x_iald C dX12_goDay_213 h (fun v36 h => ?_)
    refine x_iconst (v := (1 : Int32)) C dX12_goDay_214 (by decide) ?_
    refine q_iadd C dX12_goDay_215 ?_
    refine x_iast C dX12_goDay_216 h (fun M37 h => ?_)
    refine q_aload_n C dX12_goDay_217 rfl ?_
    refine x_bipush (v := (36 : Int32)) C dX12_goDay_218 (by decide) ?_
    refine x_iald C dX12_goDay_220 h (fun v38 h => ?_)
    refine x_bipush (v := (60 : Int32)) C dX12_goDay_221 (by decide) ?_
    refine q_icmp_ne (tgt := 263) C dX12_goDay_223 (by decide) h (fun _ h => ?_) (fun _ h => ?_)
    · refine x_iconst (v := (1 : Int32)) C dX12_goDay_226 (by decide) ?_
      refine q_istore_n (L' := [some (.ref l0), some (.ref l1), none, some (.int (1 : Int32)), none, none]) C dX12_goDay_227 (by decide) rfl rfl ?_
      obtain ⟨e41, he, h⟩ := q_bind h
      refine q_msk [true, true, false, true, false, false] (lW_X12_goDay_228 C l0 l1 q_fu _ _ _ he (fun M42 hs => ?_))
      · have hs := hs.symm
        subst hs
        refine q_aload_n C dX12_goDay_255 rfl ?_
        refine x_bipush (v := (36 : Int32)) C dX12_goDay_256 (by decide) ?_
        refine q_dup2 C dX12_goDay_258 rfl rfl ?_
        refine x_iald C dX12_goDay_259 h (fun v43 h => ?_)
        refine x_iconst (v := (1 : Int32)) C dX12_goDay_260 (by decide) ?_
        refine q_isub C dX12_goDay_261 ?_
        refine x_iast C dX12_goDay_262 h (fun M44 h => ?_)
        exact q_msk [true, true, false, false, false, false] (jW_X12_goDay_263 C l0 l1 M44 h)
    · exact q_msk [true, true, false, false, false, false] (jW_X12_goDay_263 C l0 l1 M37 h)
noncomputable def F_X12_day (l0 : Nat) (M : q_Mem) : Option (Int32 × q_Mem) := (q_pI M l0 12 0 (0 : Int32) (fun M1 => (q_gI M1 l0 12 27 (fun v2 => (if v2 = 0 then some ((-1 : Int32), M1) else (q_gR M1 l0 12 32 (fun c3 => q_nn c3 (fun r4 => (q_lI M1 0 r4 (35 : Int32) (fun v5 => (if v5 = (999 : Int32) then some ((-1 : Int32), M1) else (q_ob M1 l0 12 ((F_X12_remember l0 M1).bind (fun x => match x with | (_, M7) => (q_gR M7 l0 12 32 (fun c8 => q_nn c8 (fun r9 => (q_ob M7 l0 12 ((F_X12_goDay l0 r9 M7).bind (fun x => match x with | (u10, M11) => ((F_J6_bitCount_0f7a4 u10 M11).bind (fun u12 => some (u12, M11)))))))))))))))))))))))
set_option maxRecDepth 100000 in
set_option maxHeartbeats 4000000 in
theorem c_X12_day (l : Launch) (G : q_G) (l0 : Nat) (M : q_Mem) {r : Int32} {M' : q_Mem} (h : F_X12_day l0 M = some (r, M')) : q_Met l G yX12_day cX12_day 1 (Option.some Jvm.ClassFile.FieldType.int) 133 0 0 [.ref l0] M (some (.int r)) M' := by
  unfold F_X12_day at h
  refine q_enter [some (.ref l0)] (by decide) (Nat.le_of_ble_eq_true rfl) rfl (fun K C => ?_)
  refine q_aload_n C dX12_day_0 rfl ?_
  refine x_iconst (v := (0 : Int32)) C dX12_day_1 (by decide) ?_
  refine x_putI (ci := 12) (j := 0) C dX12_day_2 lkF_X12_92 (fun r hr => by cases hr; rfl) rfl h (fun M1 h => ?_)
  refine q_aload_n C dX12_day_5 rfl ?_
  refine x_getI (ci := 12) (j := 27) C dX12_day_6 lkF_X12_287 rfl h (fun v2 h => ?_)
  refine q_if_eq (tgt := 25) C dX12_day_9 (by decide) h (fun _ h => ?_) (fun _ h => ?_)
  · refine x_iconst (v := (-1 : Int32)) C dX12_day_25 (by decide) ?_
    exact q_iret C dX12_day_26 rfl (by decide) (by decide) (Option.some.inj h)
  · refine q_aload_n C dX12_day_12 rfl ?_
    refine x_getR (ci := 12) (j := 32) C dX12_day_13 lkF_X12_61 rfl h (fun c3 h => ?_)
    refine x_nn h (fun r4 h => ?_)
    refine x_bipush (v := (35 : Int32)) C dX12_day_16 (by decide) ?_
    refine x_iald C dX12_day_18 h (fun v5 h => ?_)
    refine x_sipush (v := (999 : Int32)) C dX12_day_19 (by decide) ?_
    refine q_icmp_ne (tgt := 27) C dX12_day_22 (by decide) h (fun _ h => ?_) (fun _ h => ?_)
    · refine x_iconst (v := (-1 : Int32)) C dX12_day_25 (by decide) ?_
      exact q_iret C dX12_day_26 rfl (by decide) (by decide) (Option.some.inj h)
    · refine q_aload_n C dX12_day_27 rfl ?_
      obtain ⟨hk, h⟩ := q_obE h
      obtain ⟨⟨_, M7⟩, e1, h⟩ := q_bind h
      refine x_callVv0 C dX12_day_28 lkM_X12_367 mV_X12_remember ⟨_, rfl, rfl⟩ hk (c_X12_remember _ _ _ _ e1) rfl rfl (Nat.le_of_ble_eq_true rfl) (by decide) (by decide) ?_
      refine q_aload_n C dX12_day_31 rfl ?_
      refine q_aload_n C dX12_day_32 rfl ?_
      refine x_getR (ci := 12) (j := 32) C dX12_day_33 lkF_X12_61 rfl h (fun c8 h => ?_)
      refine x_nn h (fun r9 h => ?_)
      obtain ⟨hk, h⟩ := q_obE h
      obtain ⟨⟨u10, M11⟩, e1, h⟩ := q_bind h
      refine x_callV0 C dX12_day_36 lkM_X12_370 mV_X12_goDay ⟨_, rfl, rfl⟩ hk (c_X12_goDay _ _ _ _ _ e1) rfl rfl (Nat.le_of_ble_eq_true rfl) (by decide) (by decide) ?_
      obtain ⟨u12, e1, h⟩ := q_bind h
      refine x_callS0 C dX12_day_39 lkM_X12_329 mS_J6_bitCount_0f7a4 (c_J6_bitCount_0f7a4 _ _ _ _ e1) rfl rfl (Nat.le_of_ble_eq_true rfl) (by decide) (by decide) ?_
      exact q_iret C dX12_day_42 rfl (by decide) (by decide) (Option.some.inj h)
noncomputable def F_X12_canChoose (l0 : Nat) (l1 : Nat) (l2 : Int32) (M : q_Mem) : Option (Int32) := (q_ob M l0 12 ((F_X12_isDish l0 l2 M).bind (fun u1 => (if u1 = 0 then q_rq (0 : Int32) else (q_lI M 0 l1 (34 : Int32) (fun v2 => (if v2 = (l2 + (1 : Int32)) then q_rq (0 : Int32) else q_rq (1 : Int32))))))))
set_option maxRecDepth 100000 in
set_option maxHeartbeats 4000000 in
theorem c_X12_canChoose (l : Launch) (G : q_G) (l0 : Nat) (l1 : Nat) (l2 : Int32) (M : q_Mem) {r : Int32} (h : F_X12_canChoose l0 l1 l2 M = some r) : q_Met l G yX12_canChoose cX12_canChoose 3 (Option.some Jvm.ClassFile.FieldType.boolean) 2 0 0 [.ref l0, .ref l1, .int l2] M (some (.int r)) M := by
  unfold F_X12_canChoose at h
  refine q_enter [some (.ref l0), some (.ref l1), some (.int l2)] (by decide) (Nat.le_of_ble_eq_true rfl) rfl (fun K C => ?_)
  refine q_aload_n C dX12_canChoose_0 rfl ?_
  refine q_iload_n C dX12_canChoose_1 rfl ?_
  obtain ⟨hk, h⟩ := q_obE h
  obtain ⟨u1, e1, h⟩ := q_bind h
  refine x_callV0 C dX12_canChoose_2 lkM_X12_357 mV_X12_isDish ⟨_, rfl, rfl⟩ hk (c_X12_isDish _ _ _ _ _ e1) rfl rfl (Nat.le_of_ble_eq_true rfl) (by decide) (by decide) ?_
  refine q_if_eq (tgt := 22) C dX12_canChoose_5 (by decide) h (fun _ h => ?_) (fun _ h => ?_)
  · refine x_iconst (v := (0 : Int32)) C dX12_canChoose_22 (by decide) ?_
    exact q_zret (res := (r, M)) C dX12_canChoose_23 rfl (by decide) (by decide) (q_rqE h).1 (congrArg (fun z => (z, M)) (q_rqE h).2)
  · refine q_aload_n C dX12_canChoose_8 rfl ?_
    refine x_bipush (v := (34 : Int32)) C dX12_canChoose_9 (by decide) ?_
    refine x_iald C dX12_canChoose_11 h (fun v2 h => ?_)
    refine q_iload_n C dX12_canChoose_12 rfl ?_
    refine x_iconst (v := (1 : Int32)) C dX12_canChoose_13 (by decide) ?_
    refine q_iadd C dX12_canChoose_14 ?_
    refine q_icmp_eq (tgt := 22) C dX12_canChoose_15 (by decide) h (fun _ h => ?_) (fun _ h => ?_)
    · refine x_iconst (v := (0 : Int32)) C dX12_canChoose_22 (by decide) ?_
      exact q_zret (res := (r, M)) C dX12_canChoose_23 rfl (by decide) (by decide) (q_rqE h).1 (congrArg (fun z => (z, M)) (q_rqE h).2)
    · refine x_iconst (v := (1 : Int32)) C dX12_canChoose_18 (by decide) ?_
      refine q_goto (tgt := 23) C dX12_canChoose_19 (by decide) ?_
      exact q_zret (res := (r, M)) C dX12_canChoose_23 rfl (by decide) (by decide) (q_rqE h).1 (congrArg (fun z => (z, M)) (q_rqE h).2)
noncomputable def F_X12_choose (l0 : Nat) (l1 : Int32) (M : q_Mem) : Option (Int32 × q_Mem) := (q_pI M l0 12 0 (0 : Int32) (fun M1 => (q_gR M1 l0 12 32 (fun c2 => q_nn c2 (fun r3 => (q_ob M1 l0 12 ((F_X12_canChoose l0 r3 l1 M1).bind (fun u4 => (if u4 = 0 then some ((-2 : Int32), M1) else (q_ob M1 l0 12 ((F_X12_remember l0 M1).bind (fun x => match x with | (_, M6) => (q_gR M6 l0 12 32 (fun c7 => q_nn c7 (fun r8 => (q_lI M6 0 r8 (34 : Int32) (fun v9 => (q_gR M6 l0 12 32 (fun c10 => q_nn c10 (fun r11 => (q_tI M6 r11 (34 : Int32) (l1 + (1 : Int32)) (fun M12 => some ((v9 - (1 : Int32)), M12)))))))))))))))))))))))
set_option maxRecDepth 100000 in
set_option maxHeartbeats 4000000 in
theorem c_X12_choose (l : Launch) (G : q_G) (l0 : Nat) (l1 : Int32) (M : q_Mem) {r : Int32} {M' : q_Mem} (h : F_X12_choose l0 l1 M = some (r, M')) : q_Met l G yX12_choose cX12_choose 3 (Option.some Jvm.ClassFile.FieldType.int) 3 0 0 [.ref l0, .int l1] M (some (.int r)) M' := by
  unfold F_X12_choose at h
  refine q_enter [some (.ref l0), some (.int l1), none] (by decide) (Nat.le_of_ble_eq_true rfl) rfl (fun K C => ?_)
  refine q_aload_n C dX12_choose_0 rfl ?_
  refine x_iconst (v := (0 : Int32)) C dX12_choose_1 (by decide) ?_
  refine x_putI (ci := 12) (j := 0) C dX12_choose_2 lkF_X12_92 (fun r hr => by cases hr; rfl) rfl h (fun M1 h => ?_)
  refine q_aload_n C dX12_choose_5 rfl ?_
  refine q_aload_n C dX12_choose_6 rfl ?_
  refine x_getR (ci := 12) (j := 32) C dX12_choose_7 lkF_X12_61 rfl h (fun c2 h => ?_)
  refine x_nn h (fun r3 h => ?_)
  refine q_iload_n C dX12_choose_10 rfl ?_
  obtain ⟨hk, h⟩ := q_obE h
  obtain ⟨u4, e1, h⟩ := q_bind h
  refine x_callV0 C dX12_choose_11 lkM_X12_373 mV_X12_canChoose ⟨_, rfl, rfl⟩ hk (c_X12_canChoose _ _ _ _ _ _ e1) rfl rfl (Nat.le_of_ble_eq_true rfl) (by decide) (by decide) ?_
  refine q_if_ne (tgt := 20) C dX12_choose_14 (by decide) h (fun _ h => ?_) (fun _ h => ?_)
  · refine x_bipush (v := (-2 : Int32)) C dX12_choose_17 (by decide) ?_
    exact q_iret C dX12_choose_19 rfl (by decide) (by decide) (Option.some.inj h)
  · refine q_aload_n C dX12_choose_20 rfl ?_
    obtain ⟨hk, h⟩ := q_obE h
    obtain ⟨⟨_, M6⟩, e1, h⟩ := q_bind h
    refine x_callVv0 C dX12_choose_21 lkM_X12_367 mV_X12_remember ⟨_, rfl, rfl⟩ hk (c_X12_remember _ _ _ _ e1) rfl rfl (Nat.le_of_ble_eq_true rfl) (by decide) (by decide) ?_
    refine q_aload_n C dX12_choose_24 rfl ?_
    refine x_getR (ci := 12) (j := 32) C dX12_choose_25 lkF_X12_61 rfl h (fun c7 h => ?_)
    refine x_nn h (fun r8 h => ?_)
    refine x_bipush (v := (34 : Int32)) C dX12_choose_28 (by decide) ?_
    refine x_iald C dX12_choose_30 h (fun v9 h => ?_)
    refine x_iconst (v := (1 : Int32)) C dX12_choose_31 (by decide) ?_
    refine q_isub C dX12_choose_32 ?_
    refine q_istore_n (L' := [some (.ref l0), some (.int l1), some (.int (v9 - (1 : Int32)))]) C dX12_choose_33 (by decide) rfl rfl ?_
    refine q_aload_n C dX12_choose_34 rfl ?_
    refine x_getR (ci := 12) (j := 32) C dX12_choose_35 lkF_X12_61 rfl h (fun c10 h => ?_)
    refine x_nn h (fun r11 h => ?_)
    refine x_bipush (v := (34 : Int32)) C dX12_choose_38 (by decide) ?_
    refine q_iload_n C dX12_choose_40 rfl ?_
    refine x_iconst (v := (1 : Int32)) C dX12_choose_41 (by decide) ?_
    refine q_iadd C dX12_choose_42 ?_
    refine x_iast C dX12_choose_43 h (fun M12 h => ?_)
    refine q_iload_n C dX12_choose_44 rfl ?_
    exact q_iret C dX12_choose_45 rfl (by decide) (by decide) (Option.some.inj h)
noncomputable def F_X12_canBeIll (l0 : Nat) (M : q_Mem) : Option (Int32) := (q_lI M 0 l0 (32 : Int32) (fun v1 => (if v1 < (3 : Int32) then q_rq (1 : Int32) else q_rq (0 : Int32))))
set_option maxRecDepth 100000 in
set_option maxHeartbeats 4000000 in
theorem c_X12_canBeIll (l : Launch) (G : q_G) (l0 : Nat) (M : q_Mem) {r : Int32} (h : F_X12_canBeIll l0 M = some r) : q_Met l G yX12_canBeIll cX12_canBeIll 1 (Option.some Jvm.ClassFile.FieldType.boolean) 1 0 0 [.ref l0] M (some (.int r)) M := by
  unfold F_X12_canBeIll at h
  refine q_enter [some (.ref l0)] (by decide) (Nat.le_of_ble_eq_true rfl) rfl (fun K C => ?_)
  refine q_aload_n C dX12_canBeIll_0 rfl ?_
  refine x_bipush (v := (32 : Int32)) C dX12_canBeIll_1 (by decide) ?_
  refine x_iald C dX12_canBeIll_3 h (fun v1 h => ?_)
  refine x_iconst (v := (3 : Int32)) C dX12_canBeIll_4 (by decide) ?_
  refine q_icmp_ge (tgt := 12) C dX12_canBeIll_5 (by decide) h (fun _ h => ?_) (fun _ h => ?_)
  · refine x_iconst (v := (1 : Int32)) C dX12_canBeIll_8 (by decide) ?_
    refine q_goto (tgt := 13) C dX12_canBeIll_9 (by decide) ?_
    exact q_zret (res := (r, M)) C dX12_canBeIll_13 rfl (by decide) (by decide) (q_rqE h).1 (congrArg (fun z => (z, M)) (q_rqE h).2)
  · refine x_iconst (v := (0 : Int32)) C dX12_canBeIll_12 (by decide) ?_
    exact q_zret (res := (r, M)) C dX12_canBeIll_13 rfl (by decide) (by decide) (q_rqE h).1 (congrArg (fun z => (z, M)) (q_rqE h).2)
noncomputable def F_X12_ill (l0 : Nat) (M : q_Mem) : Option (Int32 × q_Mem) := (q_pI M l0 12 0 (0 : Int32) (fun M1 => (q_gI M1 l0 12 27 (fun v2 => (if v2 = 0 then some ((-1 : Int32), M1) else (q_gR M1 l0 12 32 (fun c3 => q_nn c3 (fun r4 => ((F_X12_canBeIll r4 M1).bind (fun u5 => (if u5 = 0 then some ((-1 : Int32), M1) else (q_ob M1 l0 12 ((F_X12_remember l0 M1).bind (fun x => match x with | (_, M7) => (q_gR M7 l0 12 32 (fun c8 => q_nn c8 (fun r9 => (q_lI M7 0 r9 (32 : Int32) (fun v10 => (q_tI M7 r9 (32 : Int32) (v10 + (1 : Int32)) (fun M11 => (q_gR M11 l0 12 32 (fun c12 => q_nn c12 (fun r13 => (q_lI M11 0 r13 (32 : Int32) (fun v14 => some (v14, M11)))))))))))))))))))))))))))
set_option maxRecDepth 100000 in
set_option maxHeartbeats 4000000 in
theorem c_X12_ill (l : Launch) (G : q_G) (l0 : Nat) (M : q_Mem) {r : Int32} {M' : q_Mem} (h : F_X12_ill l0 M = some (r, M')) : q_Met l G yX12_ill cX12_ill 1 (Option.some Jvm.ClassFile.FieldType.int) 2 0 0 [.ref l0] M (some (.int r)) M' := by
  unfold F_X12_ill at h
  refine q_enter [some (.ref l0)] (by decide) (Nat.le_of_ble_eq_true rfl) rfl (fun K C => ?_)
  refine q_aload_n C dX12_ill_0 rfl ?_
  refine x_iconst (v := (0 : Int32)) C dX12_ill_1 (by decide) ?_
  refine x_putI (ci := 12) (j := 0) C dX12_ill_2 lkF_X12_92 (fun r hr => by cases hr; rfl) rfl h (fun M1 h => ?_)
  refine q_aload_n C dX12_ill_5 rfl ?_
  refine x_getI (ci := 12) (j := 27) C dX12_ill_6 lkF_X12_287 rfl h (fun v2 h => ?_)
  refine q_if_eq (tgt := 22) C dX12_ill_9 (by decide) h (fun _ h => ?_) (fun _ h => ?_)
  · refine x_iconst (v := (-1 : Int32)) C dX12_ill_22 (by decide) ?_
    exact q_iret C dX12_ill_23 rfl (by decide) (by decide) (Option.some.inj h)
  · refine q_aload_n C dX12_ill_12 rfl ?_
    refine x_getR (ci := 12) (j := 32) C dX12_ill_13 lkF_X12_61 rfl h (fun c3 h => ?_)
    refine x_nn h (fun r4 h => ?_)
    obtain ⟨u5, e1, h⟩ := q_bind h
    refine x_callS0 C dX12_ill_16 lkM_X12_376 mS_X12_canBeIll (c_X12_canBeIll _ _ _ _ e1) rfl rfl (Nat.le_of_ble_eq_true rfl) (by decide) (by decide) ?_
    refine q_if_ne (tgt := 24) C dX12_ill_19 (by decide) h (fun _ h => ?_) (fun _ h => ?_)
    · refine x_iconst (v := (-1 : Int32)) C dX12_ill_22 (by decide) ?_
      exact q_iret C dX12_ill_23 rfl (by decide) (by decide) (Option.some.inj h)
    · refine q_aload_n C dX12_ill_24 rfl ?_
      obtain ⟨hk, h⟩ := q_obE h
      obtain ⟨⟨_, M7⟩, e1, h⟩ := q_bind h
      refine x_callVv0 C dX12_ill_25 lkM_X12_367 mV_X12_remember ⟨_, rfl, rfl⟩ hk (c_X12_remember _ _ _ _ e1) rfl rfl (Nat.le_of_ble_eq_true rfl) (by decide) (by decide) ?_
      refine q_aload_n C dX12_ill_28 rfl ?_
      refine x_getR (ci := 12) (j := 32) C dX12_ill_29 lkF_X12_61 rfl h (fun c8 h => ?_)
      refine x_nn h (fun r9 h => ?_)
      refine x_bipush (v := (32 : Int32)) C dX12_ill_32 (by decide) ?_
      refine q_dup2 C dX12_ill_34 rfl rfl ?_
      refine x_iald C dX12_ill_35 h (fun v10 h => ?_)
      refine x_iconst (v := (1 : Int32)) C dX12_ill_36 (by decide) ?_
      refine q_iadd C dX12_ill_37 ?_
      refine x_iast C dX12_ill_38 h (fun M11 h => ?_)
      refine q_aload_n C dX12_ill_39 rfl ?_
      refine x_getR (ci := 12) (j := 32) C dX12_ill_40 lkF_X12_61 rfl h (fun c12 h => ?_)
      refine x_nn h (fun r13 h => ?_)
      refine x_bipush (v := (32 : Int32)) C dX12_ill_43 (by decide) ?_
      refine x_iald C dX12_ill_45 h (fun v14 h => ?_)
      exact q_iret C dX12_ill_46 rfl (by decide) (by decide) (Option.some.inj h)
noncomputable def F_X12_canMakeUp (l0 : Nat) (M : q_Mem) : Option (Int32) := (q_lI M 0 l0 (32 : Int32) (fun v1 => (if 0 < v1 then (q_lI M 0 l0 (33 : Int32) (fun v2 => (if v2 < (5 : Int32) then q_rq (0 : Int32) else q_rq (1 : Int32)))) else q_rq (0 : Int32))))
set_option maxRecDepth 100000 in
set_option maxHeartbeats 4000000 in
theorem c_X12_canMakeUp (l : Launch) (G : q_G) (l0 : Nat) (M : q_Mem) {r : Int32} (h : F_X12_canMakeUp l0 M = some r) : q_Met l G yX12_canMakeUp cX12_canMakeUp 1 (Option.some Jvm.ClassFile.FieldType.boolean) 1 0 0 [.ref l0] M (some (.int r)) M := by
  unfold F_X12_canMakeUp at h
  refine q_enter [some (.ref l0)] (by decide) (Nat.le_of_ble_eq_true rfl) rfl (fun K C => ?_)
  refine q_aload_n C dX12_canMakeUp_0 rfl ?_
  refine x_bipush (v := (32 : Int32)) C dX12_canMakeUp_1 (by decide) ?_
  refine x_iald C dX12_canMakeUp_3 h (fun v1 h => ?_)
  refine q_if_le (tgt := 19) C dX12_canMakeUp_4 (by decide) h (fun _ h => ?_) (fun _ h => ?_)
  · refine q_aload_n C dX12_canMakeUp_7 rfl ?_
    refine x_bipush (v := (33 : Int32)) C dX12_canMakeUp_8 (by decide) ?_
    refine x_iald C dX12_canMakeUp_10 h (fun v2 h => ?_)
    refine x_iconst (v := (5 : Int32)) C dX12_canMakeUp_11 (by decide) ?_
    refine q_icmp_lt (tgt := 19) C dX12_canMakeUp_12 (by decide) h (fun _ h => ?_) (fun _ h => ?_)
    · refine x_iconst (v := (0 : Int32)) C dX12_canMakeUp_19 (by decide) ?_
      exact q_zret (res := (r, M)) C dX12_canMakeUp_20 rfl (by decide) (by decide) (q_rqE h).1 (congrArg (fun z => (z, M)) (q_rqE h).2)
    · refine x_iconst (v := (1 : Int32)) C dX12_canMakeUp_15 (by decide) ?_
      refine q_goto (tgt := 20) C dX12_canMakeUp_16 (by decide) ?_
      exact q_zret (res := (r, M)) C dX12_canMakeUp_20 rfl (by decide) (by decide) (q_rqE h).1 (congrArg (fun z => (z, M)) (q_rqE h).2)
  · refine x_iconst (v := (0 : Int32)) C dX12_canMakeUp_19 (by decide) ?_
    exact q_zret (res := (r, M)) C dX12_canMakeUp_20 rfl (by decide) (by decide) (q_rqE h).1 (congrArg (fun z => (z, M)) (q_rqE h).2)
noncomputable def F_X12_makesUp (l0 : Nat) (M : q_Mem) : Option (Unit × q_Mem) := (q_lI M 0 l0 (32 : Int32) (fun v1 => (q_tI M l0 (32 : Int32) (v1 - (1 : Int32)) (fun M2 => (q_lI M2 0 l0 (33 : Int32) (fun v3 => (q_tI M2 l0 (33 : Int32) (v3 - (5 : Int32)) (fun M4 => some ((), M4)))))))))
set_option maxRecDepth 100000 in
set_option maxHeartbeats 4000000 in
theorem c_X12_makesUp (l : Launch) (G : q_G) (l0 : Nat) (M : q_Mem) {r : Unit} {M' : q_Mem} (h : F_X12_makesUp l0 M = some (r, M')) : q_Met l G yX12_makesUp cX12_makesUp 1 (Option.none : Option Jvm.ClassFile.FieldType) 1 0 0 [.ref l0] M none M' := by
  unfold F_X12_makesUp at h
  refine q_enter [some (.ref l0)] (by decide) (Nat.le_of_ble_eq_true rfl) rfl (fun K C => ?_)
  refine q_aload_n C dX12_makesUp_0 rfl ?_
  refine x_bipush (v := (32 : Int32)) C dX12_makesUp_1 (by decide) ?_
  refine q_dup2 C dX12_makesUp_3 rfl rfl ?_
  refine x_iald C dX12_makesUp_4 h (fun v1 h => ?_)
  refine x_iconst (v := (1 : Int32)) C dX12_makesUp_5 (by decide) ?_
  refine q_isub C dX12_makesUp_6 ?_
  refine x_iast C dX12_makesUp_7 h (fun M2 h => ?_)
  refine q_aload_n C dX12_makesUp_8 rfl ?_
  refine x_bipush (v := (33 : Int32)) C dX12_makesUp_9 (by decide) ?_
  refine q_dup2 C dX12_makesUp_11 rfl rfl ?_
  refine x_iald C dX12_makesUp_12 h (fun v3 h => ?_)
  refine x_iconst (v := (5 : Int32)) C dX12_makesUp_13 (by decide) ?_
  refine q_isub C dX12_makesUp_14 ?_
  refine x_iast C dX12_makesUp_15 h (fun M4 h => ?_)
  exact q_vret C dX12_makesUp_16 rfl (by decide) (by decide) (Option.some.inj h)
noncomputable def F_X12_makeUp (l0 : Nat) (M : q_Mem) : Option (Int32 × q_Mem) := (q_pI M l0 12 0 (0 : Int32) (fun M1 => (q_gI M1 l0 12 27 (fun v2 => (if v2 = 0 then some ((-1 : Int32), M1) else (q_gR M1 l0 12 32 (fun c3 => q_nn c3 (fun r4 => ((F_X12_canMakeUp r4 M1).bind (fun u5 => (if u5 = 0 then some ((-1 : Int32), M1) else (q_ob M1 l0 12 ((F_X12_remember l0 M1).bind (fun x => match x with | (_, M7) => (q_gR M7 l0 12 32 (fun c8 => q_nn c8 (fun r9 => ((F_X12_makesUp r9 M7).bind (fun x => match x with | (_, M11) => (q_gR M11 l0 12 32 (fun c12 => q_nn c12 (fun r13 => (q_lI M11 0 r13 (32 : Int32) (fun v14 => some (v14, M11)))))))))))))))))))))))))
set_option maxRecDepth 100000 in
set_option maxHeartbeats 4000000 in
theorem c_X12_makeUp (l : Launch) (G : q_G) (l0 : Nat) (M : q_Mem) {r : Int32} {M' : q_Mem} (h : F_X12_makeUp l0 M = some (r, M')) : q_Met l G yX12_makeUp cX12_makeUp 1 (Option.some Jvm.ClassFile.FieldType.int) 2 0 0 [.ref l0] M (some (.int r)) M' := by
  unfold F_X12_makeUp at h
  refine q_enter [some (.ref l0)] (by decide) (Nat.le_of_ble_eq_true rfl) rfl (fun K C => ?_)
  refine q_aload_n C dX12_makeUp_0 rfl ?_
  refine x_iconst (v := (0 : Int32)) C dX12_makeUp_1 (by decide) ?_
  refine x_putI (ci := 12) (j := 0) C dX12_makeUp_2 lkF_X12_92 (fun r hr => by cases hr; rfl) rfl h (fun M1 h => ?_)
  refine q_aload_n C dX12_makeUp_5 rfl ?_
  refine x_getI (ci := 12) (j := 27) C dX12_makeUp_6 lkF_X12_287 rfl h (fun v2 h => ?_)
  refine q_if_eq (tgt := 22) C dX12_makeUp_9 (by decide) h (fun _ h => ?_) (fun _ h => ?_)
  · refine x_iconst (v := (-1 : Int32)) C dX12_makeUp_22 (by decide) ?_
    exact q_iret C dX12_makeUp_23 rfl (by decide) (by decide) (Option.some.inj h)
  · refine q_aload_n C dX12_makeUp_12 rfl ?_
    refine x_getR (ci := 12) (j := 32) C dX12_makeUp_13 lkF_X12_61 rfl h (fun c3 h => ?_)
    refine x_nn h (fun r4 h => ?_)
    obtain ⟨u5, e1, h⟩ := q_bind h
    refine x_callS0 C dX12_makeUp_16 lkM_X12_380 mS_X12_canMakeUp (c_X12_canMakeUp _ _ _ _ e1) rfl rfl (Nat.le_of_ble_eq_true rfl) (by decide) (by decide) ?_
    refine q_if_ne (tgt := 24) C dX12_makeUp_19 (by decide) h (fun _ h => ?_) (fun _ h => ?_)
    · refine x_iconst (v := (-1 : Int32)) C dX12_makeUp_22 (by decide) ?_
      exact q_iret C dX12_makeUp_23 rfl (by decide) (by decide) (Option.some.inj h)
    · refine q_aload_n C dX12_makeUp_24 rfl ?_
      obtain ⟨hk, h⟩ := q_obE h
      obtain ⟨⟨_, M7⟩, e1, h⟩ := q_bind h
      refine x_callVv0 C dX12_makeUp_25 lkM_X12_367 mV_X12_remember ⟨_, rfl, rfl⟩ hk (c_X12_remember _ _ _ _ e1) rfl rfl (Nat.le_of_ble_eq_true rfl) (by decide) (by decide) ?_
      refine q_aload_n C dX12_makeUp_28 rfl ?_
      refine x_getR (ci := 12) (j := 32) C dX12_makeUp_29 lkF_X12_61 rfl h (fun c8 h => ?_)
      refine x_nn h (fun r9 h => ?_)
      obtain ⟨⟨_, M11⟩, e1, h⟩ := q_bind h
      refine x_callSv0 C dX12_makeUp_32 lkM_X12_383 mS_X12_makesUp (c_X12_makesUp _ _ _ _ e1) rfl rfl (Nat.le_of_ble_eq_true rfl) (by decide) (by decide) ?_
      refine q_aload_n C dX12_makeUp_35 rfl ?_
      refine x_getR (ci := 12) (j := 32) C dX12_makeUp_36 lkF_X12_61 rfl h (fun c12 h => ?_)
      refine x_nn h (fun r13 h => ?_)
      refine x_bipush (v := (32 : Int32)) C dX12_makeUp_39 (by decide) ?_
      refine x_iald C dX12_makeUp_41 h (fun v14 h => ?_)
      exact q_iret C dX12_makeUp_42 rfl (by decide) (by decide) (Option.some.inj h)
