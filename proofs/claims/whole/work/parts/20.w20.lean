noncomputable def J_X12_hasJoy_18 (l5 : Int32) (s0 : Nat) (s1 : Int32) (s2 : Int32) (s3 : Int32) (M : q_Mem) : Option (Int32 × q_Mem) := (q_ob M s0 12 ((F_X12_joyOf s0 s1 s2 s3 (1 : Int32) (0 : Int32) (0 : Int32) M).bind (fun x => match x with | (u2, M3) => (if u2 < l5 then q_rz (0 : Int32) M3 else q_rz (1 : Int32) M3))))
set_option maxRecDepth 100000 in
set_option maxHeartbeats 4000000 in
theorem jW_X12_hasJoy_18 {K : q_K} (C : q_C K yX12_hasJoy cX12_hasJoy 6 (Option.some Jvm.ClassFile.FieldType.boolean) 132 0 0) (l5 : Int32) (s0 : Nat) (s1 : Int32) (s2 : Int32) (s3 : Int32) (M : q_Mem) {r : Int32} {M' : q_Mem} (h : J_X12_hasJoy_18 l5 s0 s1 s2 s3 M = some (r, M')) : q_W K 6 (q_Q K (some (.int r)) M' 0 0) 0 0 M 18 [none, none, none, none, none, some (.int l5)] [.int s3, .int s2, .int s1, .ref s0] := by
  unfold J_X12_hasJoy_18 at h
  refine x_iconst (v := (1 : Int32)) C dX12_hasJoy_18 (by decide) ?_
  refine x_iconst (v := (0 : Int32)) C dX12_hasJoy_19 (by decide) ?_
  refine x_iconst (v := (0 : Int32)) C dX12_hasJoy_20 (by decide) ?_
  obtain ⟨hk, h⟩ := q_obE h
  obtain ⟨⟨u2, M3⟩, e1, h⟩ := q_bind h
  refine x_callV0 C dX12_hasJoy_21 lkM_X12_347 mV_X12_joyOf ⟨_, rfl, rfl⟩ hk (c_X12_joyOf _ _ _ _ _ _ _ _ _ _ e1) rfl rfl (Nat.le_of_ble_eq_true rfl) (by decide) (by decide) ?_
  refine q_iload C dX12_hasJoy_24 rfl ?_
  refine q_icmp_lt (tgt := 33) C dX12_hasJoy_26 (by decide) h (fun _ h => ?_) (fun _ h => ?_)
  · refine x_iconst (v := (0 : Int32)) C dX12_hasJoy_33 (by decide) ?_
    exact q_zret C dX12_hasJoy_34 rfl (by decide) (by decide) (q_rzE h).1 (q_rzE h).2
  · refine x_iconst (v := (1 : Int32)) C dX12_hasJoy_29 (by decide) ?_
    refine q_goto (tgt := 34) C dX12_hasJoy_30 (by decide) ?_
    exact q_zret C dX12_hasJoy_34 rfl (by decide) (by decide) (q_rzE h).1 (q_rzE h).2
noncomputable def F_X12_hasJoy (l0 : Nat) (l1 : Int32) (l2 : Int32) (l3 : Int32) (l4 : Int32) (l5 : Int32) (M : q_Mem) : Option (Int32 × q_Mem) := (q_ob M l0 12 ((F_X12_kindOf l0 l3 M).bind (fun u1 => (if u1 = l2 then J_X12_hasJoy_18 l5 l0 l1 l4 (1 : Int32) M else J_X12_hasJoy_18 l5 l0 l1 l4 (0 : Int32) M))))
set_option maxRecDepth 100000 in
set_option maxHeartbeats 4000000 in
theorem c_X12_hasJoy (l : Launch) (G : q_G) (l0 : Nat) (l1 : Int32) (l2 : Int32) (l3 : Int32) (l4 : Int32) (l5 : Int32) (M : q_Mem) {r : Int32} {M' : q_Mem} (h : F_X12_hasJoy l0 l1 l2 l3 l4 l5 M = some (r, M')) : q_Met l G yX12_hasJoy cX12_hasJoy 6 (Option.some Jvm.ClassFile.FieldType.boolean) 132 0 0 [.ref l0, .int l1, .int l2, .int l3, .int l4, .int l5] M (some (.int r)) M' := by
  unfold F_X12_hasJoy at h
  refine q_enter [some (.ref l0), some (.int l1), some (.int l2), some (.int l3), some (.int l4), some (.int l5)] (by decide) (Nat.le_of_ble_eq_true rfl) rfl (fun K C => ?_)
  refine q_aload_n C dX12_hasJoy_0 rfl ?_
  refine q_iload_n C dX12_hasJoy_1 rfl ?_
  refine q_iload C dX12_hasJoy_2 rfl ?_
  refine q_aload_n C dX12_hasJoy_4 rfl ?_
  refine q_iload_n C dX12_hasJoy_5 rfl ?_
  obtain ⟨hk, h⟩ := q_obE h
  obtain ⟨u1, e1, h⟩ := q_bind h
  refine x_callV0 C dX12_hasJoy_6 lkM_X12_344 mV_X12_kindOf ⟨_, rfl, rfl⟩ hk (c_X12_kindOf _ _ _ _ _ e1) rfl rfl (Nat.le_of_ble_eq_true rfl) (by decide) (by decide) ?_
  refine q_iload_n C dX12_hasJoy_9 rfl ?_
  refine q_icmp_ne (tgt := 17) C dX12_hasJoy_10 (by decide) h (fun _ h => ?_) (fun _ h => ?_)
  · refine x_iconst (v := (1 : Int32)) C dX12_hasJoy_13 (by decide) ?_
    refine q_goto (tgt := 18) C dX12_hasJoy_14 (by decide) ?_
    exact q_msk [false, false, false, false, false, true] (jW_X12_hasJoy_18 C l5 l0 l1 l4 (1 : Int32) M h)
  · refine x_iconst (v := (0 : Int32)) C dX12_hasJoy_17 (by decide) ?_
    exact q_msk [false, false, false, false, false, true] (jW_X12_hasJoy_18 C l5 l0 l1 l4 (0 : Int32) M h)
noncomputable def J_X12_liked_111_15 (l0 : Nat) (l1 : Int32) (l2 : Int32) (l3 : Int32) (l4 : Int32) (l5 : Int32) (M : q_Mem) : Option ((Int32 × Int32 × q_Mem) ⊕ (Int32 × q_Mem)) := some (.inl (l4, (l5 + (1 : Int32)), M))
set_option maxRecDepth 100000 in
set_option maxHeartbeats 4000000 in
theorem jW_X12_liked_111_15 {K : q_K} {Q : State → Prop} (C : q_C K yX12_liked cX12_liked 6 (Option.some Jvm.ClassFile.FieldType.int) 133 0 0) (l0 : Nat) (l1 : Int32) (l2 : Int32) (l3 : Int32) (l4 : Int32) (l5 : Int32) (M : q_Mem) {stp : (Int32 × Int32 × q_Mem) ⊕ (Int32 × q_Mem)} (h : J_X12_liked_111_15 l0 l1 l2 l3 l4 l5 M = some stp) (kC : ∀ (l4 : Int32) (l5 : Int32) (M : q_Mem), stp = .inl (l4, l5, M) → q_W K 6 Q 0 0 M 15 [some (.ref l0), some (.int l1), some (.int l2), some (.int l3), some (.int l4), some (.int l5)] []) (kE0 : ∀ (l4 : Int32) (M : q_Mem), stp = .inr (l4, M) → q_W K 6 Q 0 0 M 117 [some (.ref l0), some (.int l1), some (.int l2), some (.int l3), some (.int l4), none] []) : q_W K 6 Q 0 0 M 111 [some (.ref l0), some (.int l1), some (.int l2), some (.int l3), some (.int l4), some (.int l5)] [] := by
  unfold J_X12_liked_111_15 at h
  refine x_iinc (w := (1 : Int32)) (L' := [some (.ref l0), some (.int l1), some (.int l2), some (.int l3), some (.int l4), some (.int (l5 + (1 : Int32)))]) C dX12_liked_111 rfl (by decide) (by decide) rfl rfl ?_
  refine q_goto (tgt := 15) C dX12_liked_114 (by decide) ?_
  exact q_msk [true, true, true, true, true, true] (kC _ _ _ (Option.some.inj h).symm)
noncomputable def J_X12_liked_109_15 (l0 : Nat) (l1 : Int32) (l2 : Int32) (l3 : Int32) (l5 : Int32) (s0 : Int32) (M : q_Mem) : Option ((Int32 × Int32 × q_Mem) ⊕ (Int32 × q_Mem)) := J_X12_liked_111_15 l0 l1 l2 l3 s0 l5 M
set_option maxRecDepth 100000 in
set_option maxHeartbeats 4000000 in
theorem jW_X12_liked_109_15 {K : q_K} {Q : State → Prop} (C : q_C K yX12_liked cX12_liked 6 (Option.some Jvm.ClassFile.FieldType.int) 133 0 0) (l0 : Nat) (l1 : Int32) (l2 : Int32) (l3 : Int32) (l5 : Int32) (s0 : Int32) (M : q_Mem) {stp : (Int32 × Int32 × q_Mem) ⊕ (Int32 × q_Mem)} (h : J_X12_liked_109_15 l0 l1 l2 l3 l5 s0 M = some stp) (kC : ∀ (l4 : Int32) (l5 : Int32) (M : q_Mem), stp = .inl (l4, l5, M) → q_W K 6 Q 0 0 M 15 [some (.ref l0), some (.int l1), some (.int l2), some (.int l3), some (.int l4), some (.int l5)] []) (kE0 : ∀ (l4 : Int32) (M : q_Mem), stp = .inr (l4, M) → q_W K 6 Q 0 0 M 117 [some (.ref l0), some (.int l1), some (.int l2), some (.int l3), some (.int l4), none] []) : q_W K 6 Q 0 0 M 109 [some (.ref l0), some (.int l1), some (.int l2), some (.int l3), none, some (.int l5)] [.int s0] := by
  unfold J_X12_liked_109_15 at h
  refine q_istore (L' := [some (.ref l0), some (.int l1), some (.int l2), some (.int l3), some (.int s0), some (.int l5)]) C dX12_liked_109 (by decide) rfl rfl ?_
  exact q_msk [true, true, true, true, true, true] (jW_X12_liked_111_15 C l0 l1 l2 l3 s0 l5 M h kC kE0)
noncomputable def J_X12_liked_101_15 (l0 : Nat) (l1 : Int32) (l2 : Int32) (l3 : Int32) (l5 : Int32) (s0 : Int32) (s1 : Int32) (M : q_Mem) : Option ((Int32 × Int32 × q_Mem) ⊕ (Int32 × q_Mem)) := (if s0 = s1 then J_X12_liked_109_15 l0 l1 l2 l3 l5 (1 : Int32) M else J_X12_liked_109_15 l0 l1 l2 l3 l5 (0 : Int32) M)
set_option maxRecDepth 100000 in
set_option maxHeartbeats 4000000 in
theorem jW_X12_liked_101_15 {K : q_K} {Q : State → Prop} (C : q_C K yX12_liked cX12_liked 6 (Option.some Jvm.ClassFile.FieldType.int) 133 0 0) (l0 : Nat) (l1 : Int32) (l2 : Int32) (l3 : Int32) (l5 : Int32) (s0 : Int32) (s1 : Int32) (M : q_Mem) {stp : (Int32 × Int32 × q_Mem) ⊕ (Int32 × q_Mem)} (h : J_X12_liked_101_15 l0 l1 l2 l3 l5 s0 s1 M = some stp) (kC : ∀ (l4 : Int32) (l5 : Int32) (M : q_Mem), stp = .inl (l4, l5, M) → q_W K 6 Q 0 0 M 15 [some (.ref l0), some (.int l1), some (.int l2), some (.int l3), some (.int l4), some (.int l5)] []) (kE0 : ∀ (l4 : Int32) (M : q_Mem), stp = .inr (l4, M) → q_W K 6 Q 0 0 M 117 [some (.ref l0), some (.int l1), some (.int l2), some (.int l3), some (.int l4), none] []) : q_W K 6 Q 0 0 M 101 [some (.ref l0), some (.int l1), some (.int l2), some (.int l3), none, some (.int l5)] [.int s1, .int s0] := by
  unfold J_X12_liked_101_15 at h
  refine q_icmp_ne (tgt := 108) C dX12_liked_101 (by decide) h (fun _ h => ?_) (fun _ h => ?_)
  · refine x_iconst (v := (1 : Int32)) C dX12_liked_104 (by decide) ?_
    refine q_goto (tgt := 109) C dX12_liked_105 (by decide) ?_
    exact q_msk [true, true, true, true, false, true] (jW_X12_liked_109_15 C l0 l1 l2 l3 l5 (1 : Int32) M h kC kE0)
  · refine x_iconst (v := (0 : Int32)) C dX12_liked_108 (by decide) ?_
    exact q_msk [true, true, true, true, false, true] (jW_X12_liked_109_15 C l0 l1 l2 l3 l5 (0 : Int32) M h kC kE0)
noncomputable def B_X12_liked_15 (l0 : Nat) (l1 : Int32) (l2 : Int32) (l3 : Int32) (l4 : Int32) (l5 : Int32) (M : q_Mem) : Option ((Int32 × Int32 × q_Mem) ⊕ (Int32 × q_Mem)) := (q_gI M l0 12 45 (fun v1 => (if l5 < v1 then (if l4 = 0 then some (.inr (l4, M)) else (q_gR M l0 12 44 (fun c2 => q_nn c2 (fun r3 => (q_lI M 0 r3 ((5 : Int32) * l5) (fun v4 => (if v4 = l1 then (q_gR M l0 12 44 (fun c5 => q_nn c5 (fun r6 => (q_lI M 0 r6 (((5 : Int32) * l5) + (1 : Int32)) (fun v7 => (q_gR M l0 12 44 (fun c8 => q_nn c8 (fun r9 => (q_lI M 0 r9 (((5 : Int32) * l5) + (2 : Int32)) (fun v10 => (q_gR M l0 12 44 (fun c11 => q_nn c11 (fun r12 => (q_lI M 0 r12 (((5 : Int32) * l5) + (3 : Int32)) (fun v13 => (q_ob M l0 12 ((F_X12_hasJoy l0 l1 l3 v7 v10 v13 M).bind (fun x => match x with | (u14, M15) => (q_gR M15 l0 12 44 (fun c16 => q_nn c16 (fun r17 => (q_lI M15 0 r17 (((5 : Int32) * l5) + (4 : Int32)) (fun v18 => (if v18 = (1 : Int32) then J_X12_liked_101_15 l0 l1 l2 l3 l5 u14 (1 : Int32) M15 else J_X12_liked_101_15 l0 l1 l2 l3 l5 u14 (0 : Int32) M15)))))))))))))))))))))))) else J_X12_liked_111_15 l0 l1 l2 l3 l4 l5 M))))))) else some (.inr (l4, M)))))
set_option maxRecDepth 100000 in
set_option maxHeartbeats 4000000 in
theorem bW_X12_liked_15 {K : q_K} {Q : State → Prop} (C : q_C K yX12_liked cX12_liked 6 (Option.some Jvm.ClassFile.FieldType.int) 133 0 0) (l0 : Nat) (l1 : Int32) (l2 : Int32) (l3 : Int32) (l4 : Int32) (l5 : Int32) (M : q_Mem) {stp : (Int32 × Int32 × q_Mem) ⊕ (Int32 × q_Mem)} (h : B_X12_liked_15 l0 l1 l2 l3 l4 l5 M = some stp) (kC : ∀ (l4 : Int32) (l5 : Int32) (M : q_Mem), stp = .inl (l4, l5, M) → q_W K 6 Q 0 0 M 15 [some (.ref l0), some (.int l1), some (.int l2), some (.int l3), some (.int l4), some (.int l5)] []) (kE0 : ∀ (l4 : Int32) (M : q_Mem), stp = .inr (l4, M) → q_W K 6 Q 0 0 M 117 [some (.ref l0), some (.int l1), some (.int l2), some (.int l3), some (.int l4), none] []) : q_W K 6 Q 0 0 M 15 [some (.ref l0), some (.int l1), some (.int l2), some (.int l3), some (.int l4), some (.int l5)] [] := by
  unfold B_X12_liked_15 at h
  refine q_iload C dX12_liked_15 rfl ?_
  refine q_aload_n C dX12_liked_17 rfl ?_
  refine x_getI (ci := 12) (j := 45) C dX12_liked_18 lkF_X12_290 rfl h (fun v1 h => ?_)
  refine q_icmp_ge (tgt := 117) C dX12_liked_21 (by decide) h (fun _ h => ?_) (fun _ h => ?_)
  · refine q_iload C dX12_liked_24 rfl ?_
    refine q_if_eq (tgt := 117) C dX12_liked_26 (by decide) h (fun _ h => ?_) (fun _ h => ?_)
    · exact q_msk [true, true, true, true, true, false] (kE0 _ _ (Option.some.inj h).symm)
    · refine q_aload_n C dX12_liked_29 rfl ?_
      refine x_getR (ci := 12) (j := 44) C dX12_liked_30 lkF_X12_80 rfl h (fun c2 h => ?_)
      refine x_nn h (fun r3 h => ?_)
      refine x_iconst (v := (5 : Int32)) C dX12_liked_33 (by decide) ?_
      refine q_iload C dX12_liked_34 rfl ?_
      refine q_imul C dX12_liked_36 ?_
      refine x_iald C dX12_liked_37 h (fun v4 h => ?_)
      refine q_iload_n C dX12_liked_38 rfl ?_
      refine q_icmp_ne (tgt := 111) C dX12_liked_39 (by decide) h (fun _ h => ?_) (fun _ h => ?_)
      · refine q_aload_n C dX12_liked_42 rfl ?_
        refine q_iload_n C dX12_liked_43 rfl ?_
        refine q_iload_n C dX12_liked_44 rfl ?_
        refine q_aload_n C dX12_liked_45 rfl ?_
        refine x_getR (ci := 12) (j := 44) C dX12_liked_46 lkF_X12_80 rfl h (fun c5 h => ?_)
        refine x_nn h (fun r6 h => ?_)
        refine x_iconst (v := (5 : Int32)) C dX12_liked_49 (by decide) ?_
        refine q_iload C dX12_liked_50 rfl ?_
        refine q_imul C dX12_liked_52 ?_
        refine x_iconst (v := (1 : Int32)) C dX12_liked_53 (by decide) ?_
        refine q_iadd C dX12_liked_54 ?_
        refine x_iald C dX12_liked_55 h (fun v7 h => ?_)
        refine q_aload_n C dX12_liked_56 rfl ?_
        refine x_getR (ci := 12) (j := 44) C dX12_liked_57 lkF_X12_80 rfl h (fun c8 h => ?_)
        refine x_nn h (fun r9 h => ?_)
        refine x_iconst (v := (5 : Int32)) C dX12_liked_60 (by decide) ?_
        refine q_iload C dX12_liked_61 rfl ?_
        refine q_imul C dX12_liked_63 ?_
        refine x_iconst (v := (2 : Int32)) C dX12_liked_64 (by decide) ?_
        refine q_iadd C dX12_liked_65 ?_
        refine x_iald C dX12_liked_66 h (fun v10 h => ?_)
        refine q_aload_n C dX12_liked_67 rfl ?_
        refine x_getR (ci := 12) (j := 44) C dX12_liked_68 lkF_X12_80 rfl h (fun c11 h => ?_)
        refine x_nn h (fun r12 h => ?_)
        refine x_iconst (v := (5 : Int32)) C dX12_liked_71 (by decide) ?_
        refine q_iload C dX12_liked_72 rfl ?_
        refine q_imul C dX12_liked_74 ?_
        refine x_iconst (v := (3 : Int32)) C dX12_liked_75 (by decide) ?_
        refine q_iadd C dX12_liked_76 ?_
        refine x_iald C dX12_liked_77 h (fun v13 h => ?_)
        obtain ⟨hk, h⟩ := q_obE h
        obtain ⟨⟨u14, M15⟩, e1, h⟩ := q_bind h
        refine x_callV0 C dX12_liked_78 lkM_X12_430 mV_X12_hasJoy ⟨_, rfl, rfl⟩ hk (c_X12_hasJoy _ _ _ _ _ _ _ _ _ e1) rfl rfl (Nat.le_of_ble_eq_true rfl) (by decide) (by decide) ?_
        refine q_aload_n C dX12_liked_81 rfl ?_
        refine x_getR (ci := 12) (j := 44) C dX12_liked_82 lkF_X12_80 rfl h (fun c16 h => ?_)
        refine x_nn h (fun r17 h => ?_)
        refine x_iconst (v := (5 : Int32)) C dX12_liked_85 (by decide) ?_
        refine q_iload C dX12_liked_86 rfl ?_
        refine q_imul C dX12_liked_88 ?_
        refine x_iconst (v := (4 : Int32)) C dX12_liked_89 (by decide) ?_
        refine q_iadd C dX12_liked_90 ?_
        refine x_iald C dX12_liked_91 h (fun v18 h => ?_)
        refine x_iconst (v := (1 : Int32)) C dX12_liked_92 (by decide) ?_
        refine q_icmp_ne (tgt := 100) C dX12_liked_93 (by decide) h (fun _ h => ?_) (fun _ h => ?_)
        · refine x_iconst (v := (1 : Int32)) C dX12_liked_96 (by decide) ?_
          refine q_goto (tgt := 101) C dX12_liked_97 (by decide) ?_
          exact q_msk [true, true, true, true, false, true] (jW_X12_liked_101_15 C l0 l1 l2 l3 l5 u14 (1 : Int32) M15 h kC kE0)
        · refine x_iconst (v := (0 : Int32)) C dX12_liked_100 (by decide) ?_
          exact q_msk [true, true, true, true, false, true] (jW_X12_liked_101_15 C l0 l1 l2 l3 l5 u14 (0 : Int32) M15 h kC kE0)
      · exact q_msk [true, true, true, true, true, true] (jW_X12_liked_111_15 C l0 l1 l2 l3 l4 l5 M h kC kE0)
  · exact q_msk [true, true, true, true, true, false] (kE0 _ _ (Option.some.inj h).symm)
set_option maxRecDepth 100000 in
set_option maxHeartbeats 4000000 in
theorem lW_X12_liked_15 {K : q_K} {Q : State → Prop} (C : q_C K yX12_liked cX12_liked 6 (Option.some Jvm.ClassFile.FieldType.int) 133 0 0) (l0 : Nat) (l1 : Int32) (l2 : Int32) (l3 : Int32) (n : Nat) : ∀ (l4 : Int32) (l5 : Int32) (M : q_Mem) (e : (Int32 × q_Mem)), q_lp (fun s => B_X12_liked_15 l0 l1 l2 l3 s.1 s.2.1 s.2.2) n (l4, l5, M) = some e → (∀ (l4 : Int32) (M : q_Mem), e = (l4, M) → q_W K 6 Q 0 0 M 117 [some (.ref l0), some (.int l1), some (.int l2), some (.int l3), some (.int l4), none] []) → q_W K 6 Q 0 0 M 15 [some (.ref l0), some (.int l1), some (.int l2), some (.int l3), some (.int l4), some (.int l5)] [] := by
  induction n with
  | zero => intro l4 l5 M e h; cases h
  | succ n ih =>
    intro l4 l5 M e h kE0
    obtain ⟨stp, e1, e2⟩ := q_bind h
    refine bW_X12_liked_15 C l0 l1 l2 l3 l4 l5 M e1 (fun a0 a1 a2 hs => ?_) (fun b0 b1 hs => ?_)
    · subst hs; exact ih _ _ _ _ e2 kE0
    · subst hs; exact kE0 _ _ (Option.some.inj e2).symm
noncomputable def J_X12_liked_130_4 (l0 : Nat) (l1 : Int32) (l3 : Int32) (s0 : Int32) (s1 : Int32) (M : q_Mem) : Option ((Int32 × Int32 × q_Mem) ⊕ (Int32 × q_Mem)) := some (.inl ((s0 ||| s1), (l3 + (1 : Int32)), M))
set_option maxRecDepth 100000 in
set_option maxHeartbeats 4000000 in
theorem jW_X12_liked_130_4 {K : q_K} {Q : State → Prop} (C : q_C K yX12_liked cX12_liked 6 (Option.some Jvm.ClassFile.FieldType.int) 133 0 0) (l0 : Nat) (l1 : Int32) (l3 : Int32) (s0 : Int32) (s1 : Int32) (M : q_Mem) {stp : (Int32 × Int32 × q_Mem) ⊕ (Int32 × q_Mem)} (h : J_X12_liked_130_4 l0 l1 l3 s0 s1 M = some stp) (kC : ∀ (l2 : Int32) (l3 : Int32) (M : q_Mem), stp = .inl (l2, l3, M) → q_W K 6 Q 0 0 M 4 [some (.ref l0), some (.int l1), some (.int l2), some (.int l3), none, none] []) (kE0 : ∀ (l2 : Int32) (M : q_Mem), stp = .inr (l2, M) → q_W K 6 Q 0 0 M 138 [none, none, some (.int l2), none, none, none] []) : q_W K 6 Q 0 0 M 130 [some (.ref l0), some (.int l1), none, some (.int l3), none, none] [.int s1, .int s0] := by
  unfold J_X12_liked_130_4 at h
  refine q_ior C dX12_liked_130 ?_
  refine q_istore_n (L' := [some (.ref l0), some (.int l1), some (.int (s0 ||| s1)), some (.int l3), none, none]) C dX12_liked_131 (by decide) rfl rfl ?_
  refine x_iinc (w := (1 : Int32)) (L' := [some (.ref l0), some (.int l1), some (.int (s0 ||| s1)), some (.int (l3 + (1 : Int32))), none, none]) C dX12_liked_132 rfl (by decide) (by decide) rfl rfl ?_
  refine q_goto (tgt := 4) C dX12_liked_135 (by decide) ?_
  exact q_msk [true, true, true, true, false, false] (kC _ _ _ (Option.some.inj h).symm)
noncomputable def B_X12_liked_4 (l0 : Nat) (l1 : Int32) (l2 : Int32) (l3 : Int32) (M : q_Mem) : Option ((Int32 × Int32 × q_Mem) ⊕ (Int32 × q_Mem)) := (if l3 < (4 : Int32) then (q_lp (fun s => B_X12_liked_15 l0 l1 l2 l3 s.1 s.2.1 s.2.2) q_fu ((1 : Int32), (0 : Int32), M)).bind (fun e19 => match e19 with | (w20, M21) => (if w20 = 0 then J_X12_liked_130_4 l0 l1 l3 l2 (0 : Int32) M21 else J_X12_liked_130_4 l0 l1 l3 l2 ((1 : Int32) <<< (l3 &&& 31)) M21)) else some (.inr (l2, M)))
set_option maxRecDepth 100000 in
set_option maxHeartbeats 4000000 in
theorem bW_X12_liked_4 {K : q_K} {Q : State → Prop} (C : q_C K yX12_liked cX12_liked 6 (Option.some Jvm.ClassFile.FieldType.int) 133 0 0) (l0 : Nat) (l1 : Int32) (l2 : Int32) (l3 : Int32) (M : q_Mem) {stp : (Int32 × Int32 × q_Mem) ⊕ (Int32 × q_Mem)} (h : B_X12_liked_4 l0 l1 l2 l3 M = some stp) (kC : ∀ (l2 : Int32) (l3 : Int32) (M : q_Mem), stp = .inl (l2, l3, M) → q_W K 6 Q 0 0 M 4 [some (.ref l0), some (.int l1), some (.int l2), some (.int l3), none, none] []) (kE0 : ∀ (l2 : Int32) (M : q_Mem), stp = .inr (l2, M) → q_W K 6 Q 0 0 M 138 [none, none, some (.int l2), none, none, none] []) : q_W K 6 Q 0 0 M 4 [some (.ref l0), some (.int l1), some (.int l2), some (.int l3), none, none] [] := by
  unfold B_X12_liked_4 at h
  refine q_iload_n C dX12_liked_4 rfl ?_
  refine x_iconst (v := (4 : Int32)) C dX12_liked_5 (by decide) ?_
  refine q_icmp_ge (tgt := 138) C dX12_liked_6 (by decide) h (fun _ h => ?_) (fun _ h => ?_)
  · refine x_iconst (v := (1 : Int32)) C dX12_liked_9 (by decide) ?_
    refine q_istore (L' := [some (.ref l0), some (.int l1), some (.int l2), some (.int l3), some (.int (1 : Int32)), none]) C dX12_liked_10 (by decide) rfl rfl ?_
    refine x_iconst (v := (0 : Int32)) C dX12_liked_12 (by decide) ?_
    refine q_istore (L' := [some (.ref l0), some (.int l1), some (.int l2), some (.int l3), some (.int (1 : Int32)), some (.int (0 : Int32))]) C dX12_liked_13 (by decide) rfl rfl ?_
    obtain ⟨e19, he, h⟩ := q_bind h
    refine q_msk [true, true, true, true, true, true] (lW_X12_liked_15 C l0 l1 l2 l3 q_fu _ _ _ _ he (fun w20 M21 hs => ?_))
    · have hs := hs.symm
      subst hs
      refine q_iload_n C dX12_liked_117 rfl ?_
      refine q_iload C dX12_liked_118 rfl ?_
      refine q_if_eq (tgt := 129) C dX12_liked_120 (by decide) h (fun _ h => ?_) (fun _ h => ?_)
      · refine x_iconst (v := (0 : Int32)) C dX12_liked_129 (by decide) ?_
        exact q_msk [true, true, false, true, false, false] (jW_X12_liked_130_4 C l0 l1 l3 l2 (0 : Int32) M21 h kC kE0)
      · refine x_iconst (v := (1 : Int32)) C dX12_liked_123 (by decide) ?_
        refine q_iload_n C dX12_liked_124 rfl ?_
        refine q_ishl C dX12_liked_125 ?_
        refine q_goto (tgt := 130) C dX12_liked_126 (by decide) ?_
        exact q_msk [true, true, false, true, false, false] (jW_X12_liked_130_4 C l0 l1 l3 l2 ((1 : Int32) <<< (l3 &&& 31)) M21 h kC kE0)
  · exact q_msk [false, false, true, false, false, false] (kE0 _ _ (Option.some.inj h).symm)
set_option maxRecDepth 100000 in
set_option maxHeartbeats 4000000 in
theorem lW_X12_liked_4 {K : q_K} {Q : State → Prop} (C : q_C K yX12_liked cX12_liked 6 (Option.some Jvm.ClassFile.FieldType.int) 133 0 0) (l0 : Nat) (l1 : Int32) (n : Nat) : ∀ (l2 : Int32) (l3 : Int32) (M : q_Mem) (e : (Int32 × q_Mem)), q_lp (fun s => B_X12_liked_4 l0 l1 s.1 s.2.1 s.2.2) n (l2, l3, M) = some e → (∀ (l2 : Int32) (M : q_Mem), e = (l2, M) → q_W K 6 Q 0 0 M 138 [none, none, some (.int l2), none, none, none] []) → q_W K 6 Q 0 0 M 4 [some (.ref l0), some (.int l1), some (.int l2), some (.int l3), none, none] [] := by
  induction n with
  | zero => intro l2 l3 M e h; cases h
  | succ n ih =>
    intro l2 l3 M e h kE0
    obtain ⟨stp, e1, e2⟩ := q_bind h
    refine bW_X12_liked_4 C l0 l1 l2 l3 M e1 (fun a0 a1 a2 hs => ?_) (fun b0 b1 hs => ?_)
    · subst hs; exact ih _ _ _ _ e2 kE0
    · subst hs; exact kE0 _ _ (Option.some.inj e2).symm
noncomputable def F_X12_liked (l0 : Nat) (l1 : Int32) (M : q_Mem) : Option (Int32 × q_Mem) := (q_lp (fun s => B_X12_liked_4 l0 l1 s.1 s.2.1 s.2.2) q_fu ((0 : Int32), (0 : Int32), M)).bind (fun e22 => match e22 with | (w23, M24) => some (w23, M24))
set_option maxRecDepth 100000 in
set_option maxHeartbeats 4000000 in
theorem c_X12_liked (l : Launch) (G : q_G) (l0 : Nat) (l1 : Int32) (M : q_Mem) {r : Int32} {M' : q_Mem} (h : F_X12_liked l0 l1 M = some (r, M')) : q_Met l G yX12_liked cX12_liked 6 (Option.some Jvm.ClassFile.FieldType.int) 133 0 0 [.ref l0, .int l1] M (some (.int r)) M' := by
  unfold F_X12_liked at h
  refine q_enter [some (.ref l0), some (.int l1), none, none, none, none] (by decide) (Nat.le_of_ble_eq_true rfl) rfl (fun K C => ?_)
  refine x_iconst (v := (0 : Int32)) C dX12_liked_0 (by decide) ?_
  refine q_istore_n (L' := [some (.ref l0), some (.int l1), some (.int (0 : Int32)), none, none, none]) C dX12_liked_1 (by decide) rfl rfl ?_
  refine x_iconst (v := (0 : Int32)) C dX12_liked_2 (by decide) ?_
  refine q_istore_n (L' := [some (.ref l0), some (.int l1), some (.int (0 : Int32)), some (.int (0 : Int32)), none, none]) C dX12_liked_3 (by decide) rfl rfl ?_
  obtain ⟨e22, he, h⟩ := q_bind h
  refine q_msk [true, true, true, true, false, false] (lW_X12_liked_4 C l0 l1 q_fu _ _ _ _ he (fun w23 M24 hs => ?_))
  · have hs := hs.symm
    subst hs
    refine q_iload_n C dX12_liked_138 rfl ?_
    exact q_iret C dX12_liked_139 rfl (by decide) (by decide) (Option.some.inj h)
noncomputable def F_X12_likes (l0 : Nat) (l1 : Int32) (M : q_Mem) : Option (Int32 × q_Mem) := (q_pI M l0 12 0 (0 : Int32) (fun M1 => (q_ob M1 l0 12 ((F_X12_isGuest l0 l1 M1).bind (fun u2 => (if u2 = 0 then some ((-1 : Int32), M1) else (q_ob M1 l0 12 ((F_X12_liked l0 l1 M1).bind (fun x => match x with | (u3, M4) => some (u3, M4))))))))))
set_option maxRecDepth 100000 in
set_option maxHeartbeats 4000000 in
theorem c_X12_likes (l : Launch) (G : q_G) (l0 : Nat) (l1 : Int32) (M : q_Mem) {r : Int32} {M' : q_Mem} (h : F_X12_likes l0 l1 M = some (r, M')) : q_Met l G yX12_likes cX12_likes 2 (Option.some Jvm.ClassFile.FieldType.int) 134 0 0 [.ref l0, .int l1] M (some (.int r)) M' := by
  unfold F_X12_likes at h
  refine q_enter [some (.ref l0), some (.int l1)] (by decide) (Nat.le_of_ble_eq_true rfl) rfl (fun K C => ?_)
  refine q_aload_n C dX12_likes_0 rfl ?_
  refine x_iconst (v := (0 : Int32)) C dX12_likes_1 (by decide) ?_
  refine x_putI (ci := 12) (j := 0) C dX12_likes_2 lkF_X12_92 (fun r hr => by cases hr; rfl) rfl h (fun M1 h => ?_)
  refine q_aload_n C dX12_likes_5 rfl ?_
  refine q_iload_n C dX12_likes_6 rfl ?_
  obtain ⟨hk, h⟩ := q_obE h
  obtain ⟨u2, e1, h⟩ := q_bind h
  refine x_callV0 C dX12_likes_7 lkM_X12_360 mV_X12_isGuest ⟨_, rfl, rfl⟩ hk (c_X12_isGuest _ _ _ _ _ e1) rfl rfl (Nat.le_of_ble_eq_true rfl) (by decide) (by decide) ?_
  refine q_if_eq (tgt := 21) C dX12_likes_10 (by decide) h (fun _ h => ?_) (fun _ h => ?_)
  · refine x_iconst (v := (-1 : Int32)) C dX12_likes_21 (by decide) ?_
    exact q_iret C dX12_likes_22 rfl (by decide) (by decide) (Option.some.inj h)
  · refine q_aload_n C dX12_likes_13 rfl ?_
    refine q_iload_n C dX12_likes_14 rfl ?_
    obtain ⟨hk, h⟩ := q_obE h
    obtain ⟨⟨u3, M4⟩, e1, h⟩ := q_bind h
    refine x_callV0 C dX12_likes_15 lkM_X12_434 mV_X12_liked ⟨_, rfl, rfl⟩ hk (c_X12_liked _ _ _ _ _ e1) rfl rfl (Nat.le_of_ble_eq_true rfl) (by decide) (by decide) ?_
    refine q_goto (tgt := 22) C dX12_likes_18 (by decide) ?_
    exact q_iret C dX12_likes_22 rfl (by decide) (by decide) (Option.some.inj h)
noncomputable def J_X12_probe_119_79 (l0 : Nat) (l1 : Int32) (l2 : Int32) (l3 : Int32) (l4 : Int32) (l5 : Int32) (l6 : Int32) (l7 : Int32) (l8 : Int32) (l9 : Int32) (M : q_Mem) : Option ((Int32 × Int32 × q_Mem) ⊕ (Int32 × q_Mem)) := some (.inl (l8, (l9 + (1 : Int32)), M))
set_option maxRecDepth 100000 in
set_option maxHeartbeats 4000000 in
theorem jW_X12_probe_119_79 {K : q_K} {Q : State → Prop} (C : q_C K yX12_probe cX12_probe 10 (Option.some Jvm.ClassFile.FieldType.int) 134 0 0) (l0 : Nat) (l1 : Int32) (l2 : Int32) (l3 : Int32) (l4 : Int32) (l5 : Int32) (l6 : Int32) (l7 : Int32) (l8 : Int32) (l9 : Int32) (M : q_Mem) {stp : (Int32 × Int32 × q_Mem) ⊕ (Int32 × q_Mem)} (h : J_X12_probe_119_79 l0 l1 l2 l3 l4 l5 l6 l7 l8 l9 M = some stp) (kC : ∀ (l8 : Int32) (l9 : Int32) (M : q_Mem), stp = .inl (l8, l9, M) → q_W K 10 Q 0 0 M 79 [some (.ref l0), some (.int l1), some (.int l2), some (.int l3), some (.int l4), some (.int l5), some (.int l6), some (.int l7), some (.int l8), some (.int l9)] []) (kE0 : ∀ (l8 : Int32) (M : q_Mem), stp = .inr (l8, M) → q_W K 10 Q 0 0 M 125 [some (.ref l0), some (.int l1), some (.int l2), some (.int l3), some (.int l4), some (.int l5), some (.int l6), some (.int l7), some (.int l8), none] []) : q_W K 10 Q 0 0 M 119 [some (.ref l0), some (.int l1), some (.int l2), some (.int l3), some (.int l4), some (.int l5), some (.int l6), some (.int l7), some (.int l8), some (.int l9)] [] := by
  unfold J_X12_probe_119_79 at h
  refine x_iinc (w := (1 : Int32)) (L' := [some (.ref l0), some (.int l1), some (.int l2), some (.int l3), some (.int l4), some (.int l5), some (.int l6), some (.int l7), some (.int l8), some (.int (l9 + (1 : Int32)))]) C dX12_probe_119 rfl (by decide) (by decide) rfl rfl ?_
  refine q_goto (tgt := 79) C dX12_probe_122 (by decide) ?_
  exact q_msk [true, true, true, true, true, true, true, true, true, true] (kC _ _ _ (Option.some.inj h).symm)
noncomputable def J_X12_probe_116_79 (l0 : Nat) (l1 : Int32) (l2 : Int32) (l3 : Int32) (l4 : Int32) (l5 : Int32) (l6 : Int32) (l7 : Int32) (l9 : Int32) (s0 : Int32) (s1 : Int32) (M : q_Mem) : Option ((Int32 × Int32 × q_Mem) ⊕ (Int32 × q_Mem)) := J_X12_probe_119_79 l0 l1 l2 l3 l4 l5 l6 l7 (s0 + s1) l9 M
set_option maxRecDepth 100000 in
set_option maxHeartbeats 4000000 in
theorem jW_X12_probe_116_79 {K : q_K} {Q : State → Prop} (C : q_C K yX12_probe cX12_probe 10 (Option.some Jvm.ClassFile.FieldType.int) 134 0 0) (l0 : Nat) (l1 : Int32) (l2 : Int32) (l3 : Int32) (l4 : Int32) (l5 : Int32) (l6 : Int32) (l7 : Int32) (l9 : Int32) (s0 : Int32) (s1 : Int32) (M : q_Mem) {stp : (Int32 × Int32 × q_Mem) ⊕ (Int32 × q_Mem)} (h : J_X12_probe_116_79 l0 l1 l2 l3 l4 l5 l6 l7 l9 s0 s1 M = some stp) (kC : ∀ (l8 : Int32) (l9 : Int32) (M : q_Mem), stp = .inl (l8, l9, M) → q_W K 10 Q 0 0 M 79 [some (.ref l0), some (.int l1), some (.int l2), some (.int l3), some (.int l4), some (.int l5), some (.int l6), some (.int l7), some (.int l8), some (.int l9)] []) (kE0 : ∀ (l8 : Int32) (M : q_Mem), stp = .inr (l8, M) → q_W K 10 Q 0 0 M 125 [some (.ref l0), some (.int l1), some (.int l2), some (.int l3), some (.int l4), some (.int l5), some (.int l6), some (.int l7), some (.int l8), none] []) : q_W K 10 Q 0 0 M 116 [some (.ref l0), some (.int l1), some (.int l2), some (.int l3), some (.int l4), some (.int l5), some (.int l6), some (.int l7), none, some (.int l9)] [.int s1, .int s0] := by
  unfold J_X12_probe_116_79 at h
  refine q_iadd C dX12_probe_116 ?_
  refine q_istore (L' := [some (.ref l0), some (.int l1), some (.int l2), some (.int l3), some (.int l4), some (.int l5), some (.int l6), some (.int l7), some (.int (s0 + s1)), some (.int l9)]) C dX12_probe_117 (by decide) rfl rfl ?_
  exact q_msk [true, true, true, true, true, true, true, true, true, true] (jW_X12_probe_119_79 C l0 l1 l2 l3 l4 l5 l6 l7 (s0 + s1) l9 M h kC kE0)
noncomputable def B_X12_probe_79 (l0 : Nat) (l1 : Int32) (l2 : Int32) (l3 : Int32) (l4 : Int32) (l5 : Int32) (l6 : Int32) (l7 : Int32) (l8 : Int32) (l9 : Int32) (M : q_Mem) : Option ((Int32 × Int32 × q_Mem) ⊕ (Int32 × q_Mem)) := (if l9 < (4 : Int32) then ((F_X12_has l4 l9 M).bind (fun u8 => (if u8 = 0 then J_X12_probe_119_79 l0 l1 l2 l3 l4 l5 l6 l7 l8 l9 M else (q_ob M l0 12 ((F_X12_hasJoy l0 l1 l9 l7 l2 l3 M).bind (fun x => match x with | (u9, M10) => (if u9 = 0 then J_X12_probe_116_79 l0 l1 l2 l3 l4 l5 l6 l7 l9 l8 (-1 : Int32) M10 else J_X12_probe_116_79 l0 l1 l2 l3 l4 l5 l6 l7 l9 l8 (1 : Int32) M10))))))) else some (.inr (l8, M)))
set_option maxRecDepth 100000 in
set_option maxHeartbeats 4000000 in
theorem bW_X12_probe_79 {K : q_K} {Q : State → Prop} (C : q_C K yX12_probe cX12_probe 10 (Option.some Jvm.ClassFile.FieldType.int) 134 0 0) (l0 : Nat) (l1 : Int32) (l2 : Int32) (l3 : Int32) (l4 : Int32) (l5 : Int32) (l6 : Int32) (l7 : Int32) (l8 : Int32) (l9 : Int32) (M : q_Mem) {stp : (Int32 × Int32 × q_Mem) ⊕ (Int32 × q_Mem)} (h : B_X12_probe_79 l0 l1 l2 l3 l4 l5 l6 l7 l8 l9 M = some stp) (kC : ∀ (l8 : Int32) (l9 : Int32) (M : q_Mem), stp = .inl (l8, l9, M) → q_W K 10 Q 0 0 M 79 [some (.ref l0), some (.int l1), some (.int l2), some (.int l3), some (.int l4), some (.int l5), some (.int l6), some (.int l7), some (.int l8), some (.int l9)] []) (kE0 : ∀ (l8 : Int32) (M : q_Mem), stp = .inr (l8, M) → q_W K 10 Q 0 0 M 125 [some (.ref l0), some (.int l1), some (.int l2), some (.int l3), some (.int l4), some (.int l5), some (.int l6), some (.int l7), some (.int l8), none] []) : q_W K 10 Q 0 0 M 79 [some (.ref l0), some (.int l1), some (.int l2), some (.int l3), some (.int l4), some (.int l5), some (.int l6), some (.int l7), some (.int l8), some (.int l9)] [] := by
  unfold B_X12_probe_79 at h
  refine q_iload C dX12_probe_79 rfl ?_
  refine x_iconst (v := (4 : Int32)) C dX12_probe_81 (by decide) ?_
  refine q_icmp_ge (tgt := 125) C dX12_probe_82 (by decide) h (fun _ h => ?_) (fun _ h => ?_)
  · refine q_iload C dX12_probe_85 rfl ?_
    refine q_iload C dX12_probe_87 rfl ?_
    obtain ⟨u8, e1, h⟩ := q_bind h
    refine x_callS0 C dX12_probe_89 lkM_X12_225 mS_X12_has (c_X12_has _ _ _ _ _ e1) rfl rfl (Nat.le_of_ble_eq_true rfl) (by decide) (by decide) ?_
    refine q_if_eq (tgt := 119) C dX12_probe_92 (by decide) h (fun _ h => ?_) (fun _ h => ?_)
    · exact q_msk [true, true, true, true, true, true, true, true, true, true] (jW_X12_probe_119_79 C l0 l1 l2 l3 l4 l5 l6 l7 l8 l9 M h kC kE0)
    · refine q_iload C dX12_probe_95 rfl ?_
      refine q_aload_n C dX12_probe_97 rfl ?_
      refine q_iload_n C dX12_probe_98 rfl ?_
      refine q_iload C dX12_probe_99 rfl ?_
      refine q_iload C dX12_probe_101 rfl ?_
      refine q_iload_n C dX12_probe_103 rfl ?_
      refine q_iload_n C dX12_probe_104 rfl ?_
      obtain ⟨hk, h⟩ := q_obE h
      obtain ⟨⟨u9, M10⟩, e1, h⟩ := q_bind h
      refine x_callV0 C dX12_probe_105 lkM_X12_430 mV_X12_hasJoy ⟨_, rfl, rfl⟩ hk (c_X12_hasJoy _ _ _ _ _ _ _ _ _ e1) rfl rfl (Nat.le_of_ble_eq_true rfl) (by decide) (by decide) ?_
      refine q_if_eq (tgt := 115) C dX12_probe_108 (by decide) h (fun _ h => ?_) (fun _ h => ?_)
      · refine x_iconst (v := (-1 : Int32)) C dX12_probe_115 (by decide) ?_
        exact q_msk [true, true, true, true, true, true, true, true, false, true] (jW_X12_probe_116_79 C l0 l1 l2 l3 l4 l5 l6 l7 l9 l8 (-1 : Int32) M10 h kC kE0)
      · refine x_iconst (v := (1 : Int32)) C dX12_probe_111 (by decide) ?_
        refine q_goto (tgt := 116) C dX12_probe_112 (by decide) ?_
        exact q_msk [true, true, true, true, true, true, true, true, false, true] (jW_X12_probe_116_79 C l0 l1 l2 l3 l4 l5 l6 l7 l9 l8 (1 : Int32) M10 h kC kE0)
  · exact q_msk [true, true, true, true, true, true, true, true, true, false] (kE0 _ _ (Option.some.inj h).symm)
set_option maxRecDepth 100000 in
set_option maxHeartbeats 4000000 in
theorem lW_X12_probe_79 {K : q_K} {Q : State → Prop} (C : q_C K yX12_probe cX12_probe 10 (Option.some Jvm.ClassFile.FieldType.int) 134 0 0) (l0 : Nat) (l1 : Int32) (l2 : Int32) (l3 : Int32) (l4 : Int32) (l5 : Int32) (l6 : Int32) (l7 : Int32) (n : Nat) : ∀ (l8 : Int32) (l9 : Int32) (M : q_Mem) (e : (Int32 × q_Mem)), q_lp (fun s => B_X12_probe_79 l0 l1 l2 l3 l4 l5 l6 l7 s.1 s.2.1 s.2.2) n (l8, l9, M) = some e → (∀ (l8 : Int32) (M : q_Mem), e = (l8, M) → q_W K 10 Q 0 0 M 125 [some (.ref l0), some (.int l1), some (.int l2), some (.int l3), some (.int l4), some (.int l5), some (.int l6), some (.int l7), some (.int l8), none] []) → q_W K 10 Q 0 0 M 79 [some (.ref l0), some (.int l1), some (.int l2), some (.int l3), some (.int l4), some (.int l5), some (.int l6), some (.int l7), some (.int l8), some (.int l9)] [] := by
  induction n with
  | zero => intro l8 l9 M e h; cases h
  | succ n ih =>
    intro l8 l9 M e h kE0
    obtain ⟨stp, e1, e2⟩ := q_bind h
    refine bW_X12_probe_79 C l0 l1 l2 l3 l4 l5 l6 l7 l8 l9 M e1 (fun a0 a1 a2 hs => ?_) (fun b0 b1 hs => ?_)
    · subst hs; exact ih _ _ _ _ e2 kE0
    · subst hs; exact kE0 _ _ (Option.some.inj e2).symm
noncomputable def J_X12_probe_156_64 (l0 : Nat) (l1 : Int32) (l2 : Int32) (l3 : Int32) (l4 : Int32) (l5 : Int32) (l6 : Int32) (l7 : Int32) (M : q_Mem) : Option ((Int32 × Int32 × Int32 × q_Mem) ⊕ (Int32 × q_Mem)) := some (.inl (l5, l6, (l7 + (1 : Int32)), M))
set_option maxRecDepth 100000 in
set_option maxHeartbeats 4000000 in
theorem jW_X12_probe_156_64 {K : q_K} {Q : State → Prop} (C : q_C K yX12_probe cX12_probe 10 (Option.some Jvm.ClassFile.FieldType.int) 134 0 0) (l0 : Nat) (l1 : Int32) (l2 : Int32) (l3 : Int32) (l4 : Int32) (l5 : Int32) (l6 : Int32) (l7 : Int32) (M : q_Mem) {stp : (Int32 × Int32 × Int32 × q_Mem) ⊕ (Int32 × q_Mem)} (h : J_X12_probe_156_64 l0 l1 l2 l3 l4 l5 l6 l7 M = some stp) (kC : ∀ (l5 : Int32) (l6 : Int32) (l7 : Int32) (M : q_Mem), stp = .inl (l5, l6, l7, M) → q_W K 10 Q 0 0 M 64 [some (.ref l0), some (.int l1), some (.int l2), some (.int l3), some (.int l4), some (.int l5), some (.int l6), some (.int l7), none, none] []) (kE0 : ∀ (l5 : Int32) (M : q_Mem), stp = .inr (l5, M) → q_W K 10 Q 0 0 M 162 [none, none, none, none, none, some (.int l5), none, none, none, none] []) : q_W K 10 Q 0 0 M 156 [some (.ref l0), some (.int l1), some (.int l2), some (.int l3), some (.int l4), some (.int l5), some (.int l6), some (.int l7), none, none] [] := by
  unfold J_X12_probe_156_64 at h
  refine x_iinc (w := (1 : Int32)) (L' := [some (.ref l0), some (.int l1), some (.int l2), some (.int l3), some (.int l4), some (.int l5), some (.int l6), some (.int (l7 + (1 : Int32))), none, none]) C dX12_probe_156 rfl (by decide) (by decide) rfl rfl ?_
  refine q_goto (tgt := 64) C dX12_probe_159 (by decide) ?_
  exact q_msk [true, true, true, true, true, true, true, true, false, false] (kC _ _ _ _ (Option.some.inj h).symm)
noncomputable def J_X12_probe_148_64 (l0 : Nat) (l1 : Int32) (l2 : Int32) (l3 : Int32) (l4 : Int32) (l7 : Int32) (l8 : Int32) (M : q_Mem) : Option ((Int32 × Int32 × Int32 × q_Mem) ⊕ (Int32 × q_Mem)) := J_X12_probe_156_64 l0 l1 l2 l3 l4 l7 l8 l7 M
set_option maxRecDepth 100000 in
set_option maxHeartbeats 4000000 in
theorem jW_X12_probe_148_64 {K : q_K} {Q : State → Prop} (C : q_C K yX12_probe cX12_probe 10 (Option.some Jvm.ClassFile.FieldType.int) 134 0 0) (l0 : Nat) (l1 : Int32) (l2 : Int32) (l3 : Int32) (l4 : Int32) (l7 : Int32) (l8 : Int32) (M : q_Mem) {stp : (Int32 × Int32 × Int32 × q_Mem) ⊕ (Int32 × q_Mem)} (h : J_X12_probe_148_64 l0 l1 l2 l3 l4 l7 l8 M = some stp) (kC : ∀ (l5 : Int32) (l6 : Int32) (l7 : Int32) (M : q_Mem), stp = .inl (l5, l6, l7, M) → q_W K 10 Q 0 0 M 64 [some (.ref l0), some (.int l1), some (.int l2), some (.int l3), some (.int l4), some (.int l5), some (.int l6), some (.int l7), none, none] []) (kE0 : ∀ (l5 : Int32) (M : q_Mem), stp = .inr (l5, M) → q_W K 10 Q 0 0 M 162 [none, none, none, none, none, some (.int l5), none, none, none, none] []) : q_W K 10 Q 0 0 M 148 [some (.ref l0), some (.int l1), some (.int l2), some (.int l3), some (.int l4), none, none, some (.int l7), some (.int l8), none] [] := by
  unfold J_X12_probe_148_64 at h
  refine q_iload C dX12_probe_148 rfl ?_
  refine q_istore (L' := [some (.ref l0), some (.int l1), some (.int l2), some (.int l3), some (.int l4), some (.int l7), none, some (.int l7), some (.int l8), none]) C dX12_probe_150 (by decide) rfl rfl ?_
  refine q_iload C dX12_probe_152 rfl ?_
  refine q_istore (L' := [some (.ref l0), some (.int l1), some (.int l2), some (.int l3), some (.int l4), some (.int l7), some (.int l8), some (.int l7), some (.int l8), none]) C dX12_probe_154 (by decide) rfl rfl ?_
  exact q_msk [true, true, true, true, true, true, true, true, false, false] (jW_X12_probe_156_64 C l0 l1 l2 l3 l4 l7 l8 l7 M h kC kE0)
noncomputable def B_X12_probe_64 (l0 : Nat) (l1 : Int32) (l2 : Int32) (l3 : Int32) (l4 : Int32) (l5 : Int32) (l6 : Int32) (l7 : Int32) (M : q_Mem) : Option ((Int32 × Int32 × Int32 × q_Mem) ⊕ (Int32 × q_Mem)) := (q_gI M l0 12 26 (fun v7 => (if l7 < v7 then (q_lp (fun s => B_X12_probe_79 l0 l1 l2 l3 l4 l5 l6 l7 s.1 s.2.1 s.2.2) q_fu ((0 : Int32), (0 : Int32), M)).bind (fun e11 => match e11 with | (w12, M13) => (if l5 = (-1 : Int32) then J_X12_probe_148_64 l0 l1 l2 l3 l4 l7 (q_ab w12) M13 else (if (q_ab w12) < l6 then J_X12_probe_148_64 l0 l1 l2 l3 l4 l7 (q_ab w12) M13 else J_X12_probe_156_64 l0 l1 l2 l3 l4 l5 l6 l7 M13))) else some (.inr (l5, M)))))
set_option maxRecDepth 100000 in
set_option maxHeartbeats 4000000 in
theorem bW_X12_probe_64 {K : q_K} {Q : State → Prop} (C : q_C K yX12_probe cX12_probe 10 (Option.some Jvm.ClassFile.FieldType.int) 134 0 0) (l0 : Nat) (l1 : Int32) (l2 : Int32) (l3 : Int32) (l4 : Int32) (l5 : Int32) (l6 : Int32) (l7 : Int32) (M : q_Mem) {stp : (Int32 × Int32 × Int32 × q_Mem) ⊕ (Int32 × q_Mem)} (h : B_X12_probe_64 l0 l1 l2 l3 l4 l5 l6 l7 M = some stp) (kC : ∀ (l5 : Int32) (l6 : Int32) (l7 : Int32) (M : q_Mem), stp = .inl (l5, l6, l7, M) → q_W K 10 Q 0 0 M 64 [some (.ref l0), some (.int l1), some (.int l2), some (.int l3), some (.int l4), some (.int l5), some (.int l6), some (.int l7), none, none] []) (kE0 : ∀ (l5 : Int32) (M : q_Mem), stp = .inr (l5, M) → q_W K 10 Q 0 0 M 162 [none, none, none, none, none, some (.int l5), none, none, none, none] []) : q_W K 10 Q 0 0 M 64 [some (.ref l0), some (.int l1), some (.int l2), some (.int l3), some (.int l4), some (.int l5), some (.int l6), some (.int l7), none, none] [] := by
  unfold B_X12_probe_64 at h
  refine q_iload C dX12_probe_64 rfl ?_
  refine q_aload_n C dX12_probe_66 rfl ?_
  refine x_getI (ci := 12) (j := 26) C dX12_probe_67 lkF_X12_284 rfl h (fun v7 h => ?_)
  refine q_icmp_ge (tgt := 162) C dX12_probe_70 (by decide) h (fun _ h => ?_) (fun _ h => ?_)
  · refine x_iconst (v := (0 : Int32)) C dX12_probe_73 (by decide) ?_
    refine q_istore (L' := [some (.ref l0), some (.int l1), some (.int l2), some (.int l3), some (.int l4), some (.int l5), some (.int l6), some (.int l7), some (.int (0 : Int32)), none]) C dX12_probe_74 (by decide) rfl rfl ?_
    refine x_iconst (v := (0 : Int32)) C dX12_probe_76 (by decide) ?_
    refine q_istore (L' := [some (.ref l0), some (.int l1), some (.int l2), some (.int l3), some (.int l4), some (.int l5), some (.int l6), some (.int l7), some (.int (0 : Int32)), some (.int (0 : Int32))]) C dX12_probe_77 (by decide) rfl rfl ?_
    obtain ⟨e11, he, h⟩ := q_bind h
    refine q_msk [true, true, true, true, true, true, true, true, true, true] (lW_X12_probe_79 C l0 l1 l2 l3 l4 l5 l6 l7 q_fu _ _ _ _ he (fun w12 M13 hs => ?_))
    · have hs := hs.symm
      subst hs
      refine q_iload C dX12_probe_125 rfl ?_
      refine q_abs C dX12_probe_127 wd_1752 wd_990 wd_15 wd_991 (by decide) (Nat.le_of_ble_eq_true rfl) (by decide) ?_
      refine q_istore (L' := [some (.ref l0), some (.int l1), some (.int l2), some (.int l3), some (.int l4), some (.int l5), some (.int l6), some (.int l7), some (.int (q_ab w12)), none]) C dX12_probe_130 (by decide) rfl rfl ?_
      refine q_iload C dX12_probe_132 rfl ?_
      refine x_iconst (v := (-1 : Int32)) C dX12_probe_134 (by decide) ?_
      refine q_icmp_eq (tgt := 148) C dX12_probe_135 (by decide) h (fun _ h => ?_) (fun _ h => ?_)
      · exact q_msk [true, true, true, true, true, false, false, true, true, false] (jW_X12_probe_148_64 C l0 l1 l2 l3 l4 l7 (q_ab w12) M13 h kC kE0)
      · refine q_iload C dX12_probe_138 rfl ?_
        refine q_iload C dX12_probe_140 rfl ?_
        refine q_icmp_lt (tgt := 148) C dX12_probe_142 (by decide) h (fun _ h => ?_) (fun _ h => ?_)
        · exact q_msk [true, true, true, true, true, false, false, true, true, false] (jW_X12_probe_148_64 C l0 l1 l2 l3 l4 l7 (q_ab w12) M13 h kC kE0)
        · refine q_goto (tgt := 156) C dX12_probe_145 (by decide) ?_
          exact q_msk [true, true, true, true, true, true, true, true, false, false] (jW_X12_probe_156_64 C l0 l1 l2 l3 l4 l5 l6 l7 M13 h kC kE0)
  · exact q_msk [false, false, false, false, false, true, false, false, false, false] (kE0 _ _ (Option.some.inj h).symm)
set_option maxRecDepth 100000 in
set_option maxHeartbeats 4000000 in
theorem lW_X12_probe_64 {K : q_K} {Q : State → Prop} (C : q_C K yX12_probe cX12_probe 10 (Option.some Jvm.ClassFile.FieldType.int) 134 0 0) (l0 : Nat) (l1 : Int32) (l2 : Int32) (l3 : Int32) (l4 : Int32) (n : Nat) : ∀ (l5 : Int32) (l6 : Int32) (l7 : Int32) (M : q_Mem) (e : (Int32 × q_Mem)), q_lp (fun s => B_X12_probe_64 l0 l1 l2 l3 l4 s.1 s.2.1 s.2.2.1 s.2.2.2) n (l5, l6, l7, M) = some e → (∀ (l5 : Int32) (M : q_Mem), e = (l5, M) → q_W K 10 Q 0 0 M 162 [none, none, none, none, none, some (.int l5), none, none, none, none] []) → q_W K 10 Q 0 0 M 64 [some (.ref l0), some (.int l1), some (.int l2), some (.int l3), some (.int l4), some (.int l5), some (.int l6), some (.int l7), none, none] [] := by
  induction n with
  | zero => intro l5 l6 l7 M e h; cases h
  | succ n ih =>
    intro l5 l6 l7 M e h kE0
    obtain ⟨stp, e1, e2⟩ := q_bind h
    refine bW_X12_probe_64 C l0 l1 l2 l3 l4 l5 l6 l7 M e1 (fun a0 a1 a2 a3 hs => ?_) (fun b0 b1 hs => ?_)
    · subst hs; exact ih _ _ _ _ _ e2 kE0
    · subst hs; exact kE0 _ _ (Option.some.inj e2).symm
noncomputable def F_X12_probe (l0 : Nat) (l1 : Int32) (l2 : Int32) (l3 : Int32) (M : q_Mem) : Option (Int32 × q_Mem) := (q_pI M l0 12 0 (0 : Int32) (fun M1 => (q_ob M1 l0 12 ((F_X12_isGuest l0 l1 M1).bind (fun u2 => (if u2 = 0 then some ((-1 : Int32), M1) else ((F_X12_isIn l2.toInt64 (0 : Int64) (20 : Int64) M1).bind (fun u3 => (if u3 = 0 then some ((-1 : Int32), M1) else ((F_X12_isIn l3.toInt64 (-9 : Int64) (20 : Int64) M1).bind (fun u4 => (if u4 = 0 then some ((-1 : Int32), M1) else (q_ob M1 l0 12 ((F_X12_liked l0 l1 M1).bind (fun x => match x with | (u5, M6) => (if u5 = 0 then some ((-1 : Int32), M6) else (q_lp (fun s => B_X12_probe_64 l0 l1 l2 l3 u5 s.1 s.2.1 s.2.2.1 s.2.2.2) q_fu ((-1 : Int32), (0 : Int32), (0 : Int32), M6)).bind (fun e14 => match e14 with | (w15, M16) => some (w15, M16))))))))))))))))))
set_option maxRecDepth 100000 in
set_option maxHeartbeats 4000000 in
theorem c_X12_probe (l : Launch) (G : q_G) (l0 : Nat) (l1 : Int32) (l2 : Int32) (l3 : Int32) (M : q_Mem) {r : Int32} {M' : q_Mem} (h : F_X12_probe l0 l1 l2 l3 M = some (r, M')) : q_Met l G yX12_probe cX12_probe 10 (Option.some Jvm.ClassFile.FieldType.int) 134 0 0 [.ref l0, .int l1, .int l2, .int l3] M (some (.int r)) M' := by
  unfold F_X12_probe at h
  refine q_enter [some (.ref l0), some (.int l1), some (.int l2), some (.int l3), none, none, none, none, none, none] (by decide) (Nat.le_of_ble_eq_true rfl) rfl (fun K C => ?_)
  refine q_aload_n C dX12_probe_0 rfl ?_
  refine x_iconst (v := (0 : Int32)) C dX12_probe_1 (by decide) ?_
  refine x_putI (ci := 12) (j := 0) C dX12_probe_2 lkF_X12_92 (fun r hr => by cases hr; rfl) rfl h (fun M1 h => ?_)
  refine q_aload_n C dX12_probe_5 rfl ?_
  refine q_iload_n C dX12_probe_6 rfl ?_
  obtain ⟨hk, h⟩ := q_obE h
  obtain ⟨u2, e1, h⟩ := q_bind h
  refine x_callV0 C dX12_probe_7 lkM_X12_360 mV_X12_isGuest ⟨_, rfl, rfl⟩ hk (c_X12_isGuest _ _ _ _ _ e1) rfl rfl (Nat.le_of_ble_eq_true rfl) (by decide) (by decide) ?_
  refine q_if_eq (tgt := 39) C dX12_probe_10 (by decide) h (fun _ h => ?_) (fun _ h => ?_)
  · refine x_iconst (v := (-1 : Int32)) C dX12_probe_39 (by decide) ?_
    exact q_iret C dX12_probe_40 rfl (by decide) (by decide) (Option.some.inj h)
  · refine q_iload_n C dX12_probe_13 rfl ?_
    refine q_i2l C dX12_probe_14 ?_
    refine x_lconst (v := (0 : Int64)) C dX12_probe_15 (by decide) ?_
    refine q_ldc2 (v := (20 : Int64)) C dX12_probe_16 wd_1706 ?_
    obtain ⟨u3, e1, h⟩ := q_bind h
    refine x_callS0 C dX12_probe_19 lkM_X12_213 mS_X12_isIn (c_X12_isIn _ _ _ _ _ _ e1) rfl rfl (Nat.le_of_ble_eq_true rfl) (by decide) (by decide) ?_
    refine q_if_eq (tgt := 39) C dX12_probe_22 (by decide) h (fun _ h => ?_) (fun _ h => ?_)
    · refine x_iconst (v := (-1 : Int32)) C dX12_probe_39 (by decide) ?_
      exact q_iret C dX12_probe_40 rfl (by decide) (by decide) (Option.some.inj h)
    · refine q_iload_n C dX12_probe_25 rfl ?_
      refine q_i2l C dX12_probe_26 ?_
      refine q_ldc2 (v := (-9 : Int64)) C dX12_probe_27 wd_1735 ?_
      refine q_ldc2 (v := (20 : Int64)) C dX12_probe_30 wd_1706 ?_
      obtain ⟨u4, e1, h⟩ := q_bind h
      refine x_callS0 C dX12_probe_33 lkM_X12_213 mS_X12_isIn (c_X12_isIn _ _ _ _ _ _ e1) rfl rfl (Nat.le_of_ble_eq_true rfl) (by decide) (by decide) ?_
      refine q_if_ne (tgt := 41) C dX12_probe_36 (by decide) h (fun _ h => ?_) (fun _ h => ?_)
      · refine x_iconst (v := (-1 : Int32)) C dX12_probe_39 (by decide) ?_
        exact q_iret C dX12_probe_40 rfl (by decide) (by decide) (Option.some.inj h)
      · refine q_aload_n C dX12_probe_41 rfl ?_
        refine q_iload_n C dX12_probe_42 rfl ?_
        obtain ⟨hk, h⟩ := q_obE h
        obtain ⟨⟨u5, M6⟩, e1, h⟩ := q_bind h
        refine x_callV0 C dX12_probe_43 lkM_X12_434 mV_X12_liked ⟨_, rfl, rfl⟩ hk (c_X12_liked _ _ _ _ _ e1) rfl rfl (Nat.le_of_ble_eq_true rfl) (by decide) (by decide) ?_
        refine q_istore (L' := [some (.ref l0), some (.int l1), some (.int l2), some (.int l3), some (.int u5), none, none, none, none, none]) C dX12_probe_46 (by decide) rfl rfl ?_
        refine q_iload C dX12_probe_48 rfl ?_
        refine q_if_ne (tgt := 55) C dX12_probe_50 (by decide) h (fun _ h => ?_) (fun _ h => ?_)
        · refine x_iconst (v := (-1 : Int32)) C dX12_probe_53 (by decide) ?_
          exact q_iret C dX12_probe_54 rfl (by decide) (by decide) (Option.some.inj h)
        · refine x_iconst (v := (-1 : Int32)) C dX12_probe_55 (by decide) ?_
          refine q_istore (L' := [some (.ref l0), some (.int l1), some (.int l2), some (.int l3), some (.int u5), some (.int (-1 : Int32)), none, none, none, none]) C dX12_probe_56 (by decide) rfl rfl ?_
          refine x_iconst (v := (0 : Int32)) C dX12_probe_58 (by decide) ?_
          refine q_istore (L' := [some (.ref l0), some (.int l1), some (.int l2), some (.int l3), some (.int u5), some (.int (-1 : Int32)), some (.int (0 : Int32)), none, none, none]) C dX12_probe_59 (by decide) rfl rfl ?_
          refine x_iconst (v := (0 : Int32)) C dX12_probe_61 (by decide) ?_
          refine q_istore (L' := [some (.ref l0), some (.int l1), some (.int l2), some (.int l3), some (.int u5), some (.int (-1 : Int32)), some (.int (0 : Int32)), some (.int (0 : Int32)), none, none]) C dX12_probe_62 (by decide) rfl rfl ?_
          obtain ⟨e14, he, h⟩ := q_bind h
          refine q_msk [true, true, true, true, true, true, true, true, false, false] (lW_X12_probe_64 C l0 l1 l2 l3 u5 q_fu _ _ _ _ _ he (fun w15 M16 hs => ?_))
          · have hs := hs.symm
            subst hs
            refine q_iload C dX12_probe_162 rfl ?_
            exact q_iret C dX12_probe_164 rfl (by decide) (by decide) (Option.some.inj h)
noncomputable def B_X12_leaves_42 (l0 : Nat) (l1 : Int32) (l2 : Int32) (M : q_Mem) : Option ((Int32 × q_Mem) ⊕ ((Int32 × q_Mem) ⊕ (q_Mem))) := (if (60 : Int32) < l2 then some (.inr (.inr M)) else (q_gR M l0 12 33 (fun c12 => q_nn c12 (fun r13 => (q_ob M l0 12 ((F_X12_goDay l0 r13 M).bind (fun x => match x with | (u14, M15) => (q_gR M15 l0 12 33 (fun c16 => q_nn c16 (fun r17 => (q_lI M15 0 r17 (((4 : Int32) * l1) + (3 : Int32)) (fun v18 => (if v18 = (1 : Int32) then some (.inr (.inl (l2, M15))) else some (.inl ((l2 + (1 : Int32)), M15)))))))))))))))
set_option maxRecDepth 100000 in
set_option maxHeartbeats 4000000 in
theorem bW_X12_leaves_42 {K : q_K} {Q : State → Prop} (C : q_C K yX12_leaves cX12_leaves 4 (Option.some Jvm.ClassFile.FieldType.int) 133 0 0) (l0 : Nat) (l1 : Int32) (l2 : Int32) (M : q_Mem) {stp : (Int32 × q_Mem) ⊕ ((Int32 × q_Mem) ⊕ (q_Mem))} (h : B_X12_leaves_42 l0 l1 l2 M = some stp) (kC : ∀ (l2 : Int32) (M : q_Mem), stp = .inl (l2, M) → q_W K 4 Q 0 0 M 42 [some (.ref l0), some (.int l1), some (.int l2), none] []) (kE0 : ∀ (l2 : Int32) (M : q_Mem), stp = .inr (.inl (l2, M)) → q_W K 4 Q 0 0 M 71 [none, none, some (.int l2), none] []) (kE1 : ∀ (M : q_Mem), stp = .inr (.inr M) → q_W K 4 Q 0 0 M 79 [none, none, none, none] []) : q_W K 4 Q 0 0 M 42 [some (.ref l0), some (.int l1), some (.int l2), none] [] := by
  unfold B_X12_leaves_42 at h
  refine q_iload_n C dX12_leaves_42 rfl ?_
  refine x_bipush (v := (60 : Int32)) C dX12_leaves_43 (by decide) ?_
  refine q_icmp_gt (tgt := 79) C dX12_leaves_45 (by decide) h (fun _ h => ?_) (fun _ h => ?_)
  · exact q_msk [false, false, false, false] (kE1 _ (Option.some.inj h).symm)
  · refine q_aload_n C dX12_leaves_48 rfl ?_
    refine q_aload_n C dX12_leaves_49 rfl ?_
    refine x_getR (ci := 12) (j := 33) C dX12_leaves_50 lkF_X12_64 rfl h (fun c12 h => ?_)
    refine x_nn h (fun r13 h => ?_)
    obtain ⟨hk, h⟩ := q_obE h
    obtain ⟨⟨u14, M15⟩, e1, h⟩ := q_bind h
    refine x_callV0 C dX12_leaves_53 lkM_X12_370 mV_X12_goDay ⟨_, rfl, rfl⟩ hk (c_X12_goDay _ _ _ _ _ e1) rfl rfl (Nat.le_of_ble_eq_true rfl) (by decide) (by decide) ?_
    refine q_istore_n (L' := [some (.ref l0), some (.int l1), some (.int l2), some (.int u14)]) C dX12_leaves_56 (by decide) rfl rfl ?_
    refine q_aload_n C dX12_leaves_57 rfl ?_
    refine x_getR (ci := 12) (j := 33) C dX12_leaves_58 lkF_X12_64 rfl h (fun c16 h => ?_)
    refine x_nn h (fun r17 h => ?_)
    refine x_iconst (v := (4 : Int32)) C dX12_leaves_61 (by decide) ?_
    refine q_iload_n C dX12_leaves_62 rfl ?_
    refine q_imul C dX12_leaves_63 ?_
    refine x_iconst (v := (3 : Int32)) C dX12_leaves_64 (by decide) ?_
    refine q_iadd C dX12_leaves_65 ?_
    refine x_iald C dX12_leaves_66 h (fun v18 h => ?_)
    refine x_iconst (v := (1 : Int32)) C dX12_leaves_67 (by decide) ?_
    refine q_icmp_ne (tgt := 73) C dX12_leaves_68 (by decide) h (fun _ h => ?_) (fun _ h => ?_)
    · exact q_msk [false, false, true, false] (kE0 _ _ (Option.some.inj h).symm)
    · refine x_iinc (w := (1 : Int32)) (L' := [some (.ref l0), some (.int l1), some (.int (l2 + (1 : Int32))), some (.int u14)]) C dX12_leaves_73 rfl (by decide) (by decide) rfl rfl ?_
      refine q_goto (tgt := 42) C dX12_leaves_76 (by decide) ?_
      exact q_msk [true, true, true, false] (kC _ _ (Option.some.inj h).symm)
set_option maxRecDepth 100000 in
set_option maxHeartbeats 4000000 in
theorem lW_X12_leaves_42 {K : q_K} {Q : State → Prop} (C : q_C K yX12_leaves cX12_leaves 4 (Option.some Jvm.ClassFile.FieldType.int) 133 0 0) (l0 : Nat) (l1 : Int32) (n : Nat) : ∀ (l2 : Int32) (M : q_Mem) (e : ((Int32 × q_Mem) ⊕ (q_Mem))), q_lp (fun s => B_X12_leaves_42 l0 l1 s.1 s.2) n (l2, M) = some e → (∀ (l2 : Int32) (M : q_Mem), e = (.inl (l2, M)) → q_W K 4 Q 0 0 M 71 [none, none, some (.int l2), none] []) → (∀ (M : q_Mem), e = (.inr M) → q_W K 4 Q 0 0 M 79 [none, none, none, none] []) → q_W K 4 Q 0 0 M 42 [some (.ref l0), some (.int l1), some (.int l2), none] [] := by
  induction n with
  | zero => intro l2 M e h; cases h
  | succ n ih =>
    intro l2 M e h kE0 kE1
    obtain ⟨stp, e1, e2⟩ := q_bind h
    refine bW_X12_leaves_42 C l0 l1 l2 M e1 (fun a0 a1 hs => ?_) (fun b0 b1 hs => ?_) (fun b0 hs => ?_)
    · subst hs; exact ih _ _ _ e2 kE0 kE1
    · subst hs; exact kE0 _ _ (Option.some.inj e2).symm
    · subst hs; exact kE1 _ (Option.some.inj e2).symm
noncomputable def F_X12_leaves (l0 : Nat) (l1 : Int32) (M : q_Mem) : Option (Int32 × q_Mem) := (q_pI M l0 12 0 (0 : Int32) (fun M1 => (q_ob M1 l0 12 ((F_X12_isGuest l0 l1 M1).bind (fun u2 => (if u2 = 0 then some ((-1 : Int32), M1) else (q_gR M1 l0 12 32 (fun c3 => q_nn c3 (fun r4 => (q_lI M1 0 r4 (((4 : Int32) * l1) + (3 : Int32)) (fun v5 => (if v5 = (1 : Int32) then some ((-1 : Int32), M1) else (q_gR M1 l0 12 32 (fun c6 => q_nn c6 (fun r7 => (q_gR M1 l0 12 33 (fun c8 => q_nn c8 (fun r9 => ((F_X12_copy r7 r9 M1).bind (fun x => match x with | (_, M11) => (q_lp (fun s => B_X12_leaves_42 l0 l1 s.1 s.2) q_fu ((1 : Int32), M11)).bind (fun e19 => match e19 with | .inl (w20, M21) => some (w20, M21) | .inr M22 => some ((-1 : Int32), M22))))))))))))))))))))))
set_option maxRecDepth 100000 in
set_option maxHeartbeats 4000000 in
theorem c_X12_leaves (l : Launch) (G : q_G) (l0 : Nat) (l1 : Int32) (M : q_Mem) {r : Int32} {M' : q_Mem} (h : F_X12_leaves l0 l1 M = some (r, M')) : q_Met l G yX12_leaves cX12_leaves 4 (Option.some Jvm.ClassFile.FieldType.int) 133 0 0 [.ref l0, .int l1] M (some (.int r)) M' := by
  unfold F_X12_leaves at h
  refine q_enter [some (.ref l0), some (.int l1), none, none] (by decide) (Nat.le_of_ble_eq_true rfl) rfl (fun K C => ?_)
  refine q_aload_n C dX12_leaves_0 rfl ?_
  refine x_iconst (v := (0 : Int32)) C dX12_leaves_1 (by decide) ?_
  refine x_putI (ci := 12) (j := 0) C dX12_leaves_2 lkF_X12_92 (fun r hr => by cases hr; rfl) rfl h (fun M1 h => ?_)
  refine q_aload_n C dX12_leaves_5 rfl ?_
  refine q_iload_n C dX12_leaves_6 rfl ?_
  obtain ⟨hk, h⟩ := q_obE h
  obtain ⟨u2, e1, h⟩ := q_bind h
  refine x_callV0 C dX12_leaves_7 lkM_X12_360 mV_X12_isGuest ⟨_, rfl, rfl⟩ hk (c_X12_isGuest _ _ _ _ _ e1) rfl rfl (Nat.le_of_ble_eq_true rfl) (by decide) (by decide) ?_
  refine q_if_eq (tgt := 27) C dX12_leaves_10 (by decide) h (fun _ h => ?_) (fun _ h => ?_)
  · refine x_iconst (v := (-1 : Int32)) C dX12_leaves_27 (by decide) ?_
    exact q_iret C dX12_leaves_28 rfl (by decide) (by decide) (Option.some.inj h)
  · refine q_aload_n C dX12_leaves_13 rfl ?_
    refine x_getR (ci := 12) (j := 32) C dX12_leaves_14 lkF_X12_61 rfl h (fun c3 h => ?_)
    refine x_nn h (fun r4 h => ?_)
    refine x_iconst (v := (4 : Int32)) C dX12_leaves_17 (by decide) ?_
    refine q_iload_n C dX12_leaves_18 rfl ?_
    refine q_imul C dX12_leaves_19 ?_
    refine x_iconst (v := (3 : Int32)) C dX12_leaves_20 (by decide) ?_
    refine q_iadd C dX12_leaves_21 ?_
    refine x_iald C dX12_leaves_22 h (fun v5 h => ?_)
    refine x_iconst (v := (1 : Int32)) C dX12_leaves_23 (by decide) ?_
    refine q_icmp_ne (tgt := 29) C dX12_leaves_24 (by decide) h (fun _ h => ?_) (fun _ h => ?_)
    · refine x_iconst (v := (-1 : Int32)) C dX12_leaves_27 (by decide) ?_
      exact q_iret C dX12_leaves_28 rfl (by decide) (by decide) (Option.some.inj h)
    · refine q_aload_n C dX12_leaves_29 rfl ?_
      refine x_getR (ci := 12) (j := 32) C dX12_leaves_30 lkF_X12_61 rfl h (fun c6 h => ?_)
      refine x_nn h (fun r7 h => ?_)
      refine q_aload_n C dX12_leaves_33 rfl ?_
      refine x_getR (ci := 12) (j := 33) C dX12_leaves_34 lkF_X12_64 rfl h (fun c8 h => ?_)
      refine x_nn h (fun r9 h => ?_)
      obtain ⟨⟨_, M11⟩, e1, h⟩ := q_bind h
      refine x_callSv0 C dX12_leaves_37 lkM_X12_409 mS_X12_copy (c_X12_copy _ _ _ _ _ e1) rfl rfl (Nat.le_of_ble_eq_true rfl) (by decide) (by decide) ?_
      refine x_iconst (v := (1 : Int32)) C dX12_leaves_40 (by decide) ?_
      refine q_istore_n (L' := [some (.ref l0), some (.int l1), some (.int (1 : Int32)), none]) C dX12_leaves_41 (by decide) rfl rfl ?_
      obtain ⟨e19, he, h⟩ := q_bind h
      refine q_msk [true, true, true, false] (lW_X12_leaves_42 C l0 l1 q_fu _ _ _ he (fun w20 M21 hs => ?_) (fun M22 hs => ?_))
      · have hs := hs.symm
        subst hs
        refine q_iload_n C dX12_leaves_71 rfl ?_
        exact q_iret C dX12_leaves_72 rfl (by decide) (by decide) (Option.some.inj h)
      · have hs := hs.symm
        subst hs
        refine x_iconst (v := (-1 : Int32)) C dX12_leaves_79 (by decide) ?_
        exact q_iret C dX12_leaves_80 rfl (by decide) (by decide) (Option.some.inj h)
noncomputable def F_X12_isGame (l0 : Nat) (l1 : Int32) (l2 : Int32) (M : q_Mem) : Option (Int32) := (q_ob M l0 12 ((F_X12_isGuest l0 l1 M).bind (fun u1 => (if u1 = 0 then q_rq (0 : Int32) else (q_ob M l0 12 ((F_X12_isGuest l0 l2 M).bind (fun u2 => (if u2 = 0 then q_rq (0 : Int32) else (if l1 = l2 then q_rq (0 : Int32) else (q_gR M l0 12 32 (fun c3 => q_nn c3 (fun r4 => (q_lI M 0 r4 (((4 : Int32) * l1) + (3 : Int32)) (fun v5 => (q_gR M l0 12 32 (fun c6 => q_nn c6 (fun r7 => (q_lI M 0 r7 (((4 : Int32) * l2) + (3 : Int32)) (fun v8 => (if (v5 + v8) = 0 then q_rq (1 : Int32) else q_rq (0 : Int32)))))))))))))))))))))
set_option maxRecDepth 100000 in
set_option maxHeartbeats 4000000 in
theorem c_X12_isGame (l : Launch) (G : q_G) (l0 : Nat) (l1 : Int32) (l2 : Int32) (M : q_Mem) {r : Int32} (h : F_X12_isGame l0 l1 l2 M = some r) : q_Met l G yX12_isGame cX12_isGame 3 (Option.some Jvm.ClassFile.FieldType.boolean) 2 0 0 [.ref l0, .int l1, .int l2] M (some (.int r)) M := by
  unfold F_X12_isGame at h
  refine q_enter [some (.ref l0), some (.int l1), some (.int l2)] (by decide) (Nat.le_of_ble_eq_true rfl) rfl (fun K C => ?_)
  refine q_aload_n C dX12_isGame_0 rfl ?_
  refine q_iload_n C dX12_isGame_1 rfl ?_
  obtain ⟨hk, h⟩ := q_obE h
  obtain ⟨u1, e1, h⟩ := q_bind h
  refine x_callV0 C dX12_isGame_2 lkM_X12_360 mV_X12_isGuest ⟨_, rfl, rfl⟩ hk (c_X12_isGuest _ _ _ _ _ e1) rfl rfl (Nat.le_of_ble_eq_true rfl) (by decide) (by decide) ?_
  refine q_if_eq (tgt := 49) C dX12_isGame_5 (by decide) h (fun _ h => ?_) (fun _ h => ?_)
  · refine x_iconst (v := (0 : Int32)) C dX12_isGame_49 (by decide) ?_
    exact q_zret (res := (r, M)) C dX12_isGame_50 rfl (by decide) (by decide) (q_rqE h).1 (congrArg (fun z => (z, M)) (q_rqE h).2)
  · refine q_aload_n C dX12_isGame_8 rfl ?_
    refine q_iload_n C dX12_isGame_9 rfl ?_
    obtain ⟨hk, h⟩ := q_obE h
    obtain ⟨u2, e1, h⟩ := q_bind h
    refine x_callV0 C dX12_isGame_10 lkM_X12_360 mV_X12_isGuest ⟨_, rfl, rfl⟩ hk (c_X12_isGuest _ _ _ _ _ e1) rfl rfl (Nat.le_of_ble_eq_true rfl) (by decide) (by decide) ?_
    refine q_if_eq (tgt := 49) C dX12_isGame_13 (by decide) h (fun _ h => ?_) (fun _ h => ?_)
    · refine x_iconst (v := (0 : Int32)) C dX12_isGame_49 (by decide) ?_
      exact q_zret (res := (r, M)) C dX12_isGame_50 rfl (by decide) (by decide) (q_rqE h).1 (congrArg (fun z => (z, M)) (q_rqE h).2)
    · refine q_iload_n C dX12_isGame_16 rfl ?_
      refine q_iload_n C dX12_isGame_17 rfl ?_
      refine q_icmp_eq (tgt := 49) C dX12_isGame_18 (by decide) h (fun _ h => ?_) (fun _ h => ?_)
      · refine x_iconst (v := (0 : Int32)) C dX12_isGame_49 (by decide) ?_
        exact q_zret (res := (r, M)) C dX12_isGame_50 rfl (by decide) (by decide) (q_rqE h).1 (congrArg (fun z => (z, M)) (q_rqE h).2)
      · refine q_aload_n C dX12_isGame_21 rfl ?_
        refine x_getR (ci := 12) (j := 32) C dX12_isGame_22 lkF_X12_61 rfl h (fun c3 h => ?_)
        refine x_nn h (fun r4 h => ?_)
        refine x_iconst (v := (4 : Int32)) C dX12_isGame_25 (by decide) ?_
        refine q_iload_n C dX12_isGame_26 rfl ?_
        refine q_imul C dX12_isGame_27 ?_
        refine x_iconst (v := (3 : Int32)) C dX12_isGame_28 (by decide) ?_
        refine q_iadd C dX12_isGame_29 ?_
        refine x_iald C dX12_isGame_30 h (fun v5 h => ?_)
        refine q_aload_n C dX12_isGame_31 rfl ?_
        refine x_getR (ci := 12) (j := 32) C dX12_isGame_32 lkF_X12_61 rfl h (fun c6 h => ?_)
        refine x_nn h (fun r7 h => ?_)
        refine x_iconst (v := (4 : Int32)) C dX12_isGame_35 (by decide) ?_
        refine q_iload_n C dX12_isGame_36 rfl ?_
        refine q_imul C dX12_isGame_37 ?_
        refine x_iconst (v := (3 : Int32)) C dX12_isGame_38 (by decide) ?_
        refine q_iadd C dX12_isGame_39 ?_
        refine x_iald C dX12_isGame_40 h (fun v8 h => ?_)
        refine q_iadd C dX12_isGame_41 ?_
        refine q_if_ne (tgt := 49) C dX12_isGame_42 (by decide) h (fun _ h => ?_) (fun _ h => ?_)
        · refine x_iconst (v := (1 : Int32)) C dX12_isGame_45 (by decide) ?_
          refine q_goto (tgt := 50) C dX12_isGame_46 (by decide) ?_
          exact q_zret (res := (r, M)) C dX12_isGame_50 rfl (by decide) (by decide) (q_rqE h).1 (congrArg (fun z => (z, M)) (q_rqE h).2)
        · refine x_iconst (v := (0 : Int32)) C dX12_isGame_49 (by decide) ?_
          exact q_zret (res := (r, M)) C dX12_isGame_50 rfl (by decide) (by decide) (q_rqE h).1 (congrArg (fun z => (z, M)) (q_rqE h).2)
noncomputable def J_X12_gameOf_119_58 (l0 : Nat) (l6 : Int32) (l7 : Int32) (l8 : Int32) (M : q_Mem) : Option ((Int32 × Int32 × q_Mem) ⊕ (Int32 × q_Mem)) := some (.inl (l7, (l8 + (1 : Int32)), M))
set_option maxRecDepth 100000 in
set_option maxHeartbeats 4000000 in
theorem jW_X12_gameOf_119_58 {K : q_K} {Q : State → Prop} (C : q_C K yX12_gameOf cX12_gameOf 11 (Option.some Jvm.ClassFile.FieldType.int) 133 0 0) (l0 : Nat) (l6 : Int32) (l7 : Int32) (l8 : Int32) (M : q_Mem) {stp : (Int32 × Int32 × q_Mem) ⊕ (Int32 × q_Mem)} (h : J_X12_gameOf_119_58 l0 l6 l7 l8 M = some stp) (kC : ∀ (l7 : Int32) (l8 : Int32) (M : q_Mem), stp = .inl (l7, l8, M) → q_W K 11 Q 0 0 M 58 [some (.ref l0), none, none, none, none, none, some (.int l6), some (.int l7), some (.int l8), none, none] []) (kE0 : ∀ (l7 : Int32) (M : q_Mem), stp = .inr (l7, M) → q_W K 11 Q 0 0 M 125 [some (.ref l0), none, none, none, none, none, some (.int l6), some (.int l7), none, none, none] []) : q_W K 11 Q 0 0 M 119 [some (.ref l0), none, none, none, none, none, some (.int l6), some (.int l7), some (.int l8), none, none] [] := by
  unfold J_X12_gameOf_119_58 at h
  refine x_iinc (w := (1 : Int32)) (L' := [some (.ref l0), none, none, none, none, none, some (.int l6), some (.int l7), some (.int (l8 + (1 : Int32))), none, none]) C dX12_gameOf_119 rfl (by decide) (by decide) rfl rfl ?_
  refine q_goto (tgt := 58) C dX12_gameOf_122 (by decide) ?_
  exact q_msk [true, false, false, false, false, false, true, true, true, false, false] (kC _ _ _ (Option.some.inj h).symm)
noncomputable def J_X12_gameOf_109_58 (l0 : Nat) (l6 : Int32) (l8 : Int32) (s0 : Int32) (s1 : Int32) (M : q_Mem) : Option ((Int32 × Int32 × q_Mem) ⊕ (Int32 × q_Mem)) := (q_ob M l0 12 ((F_X12_pays l0 l6 M).bind (fun u23 => J_X12_gameOf_119_58 l0 l6 (s0 + (s1 - u23)) l8 M)))
set_option maxRecDepth 100000 in
set_option maxHeartbeats 4000000 in
theorem jW_X12_gameOf_109_58 {K : q_K} {Q : State → Prop} (C : q_C K yX12_gameOf cX12_gameOf 11 (Option.some Jvm.ClassFile.FieldType.int) 133 0 0) (l0 : Nat) (l6 : Int32) (l8 : Int32) (s0 : Int32) (s1 : Int32) (M : q_Mem) {stp : (Int32 × Int32 × q_Mem) ⊕ (Int32 × q_Mem)} (h : J_X12_gameOf_109_58 l0 l6 l8 s0 s1 M = some stp) (kC : ∀ (l7 : Int32) (l8 : Int32) (M : q_Mem), stp = .inl (l7, l8, M) → q_W K 11 Q 0 0 M 58 [some (.ref l0), none, none, none, none, none, some (.int l6), some (.int l7), some (.int l8), none, none] []) (kE0 : ∀ (l7 : Int32) (M : q_Mem), stp = .inr (l7, M) → q_W K 11 Q 0 0 M 125 [some (.ref l0), none, none, none, none, none, some (.int l6), some (.int l7), none, none, none] []) : q_W K 11 Q 0 0 M 109 [some (.ref l0), none, none, none, none, none, some (.int l6), none, some (.int l8), none, none] [.int s1, .int s0] := by
  unfold J_X12_gameOf_109_58 at h
  refine q_aload_n C dX12_gameOf_109 rfl ?_
  refine q_iload C dX12_gameOf_110 rfl ?_
  obtain ⟨hk, h⟩ := q_obE h
  obtain ⟨u23, e1, h⟩ := q_bind h
  refine x_callV0 C dX12_gameOf_112 lkM_X12_306 mV_X12_pays ⟨_, rfl, rfl⟩ hk (c_X12_pays _ _ _ _ _ e1) rfl rfl (Nat.le_of_ble_eq_true rfl) (by decide) (by decide) ?_
  refine q_isub C dX12_gameOf_115 ?_
  refine q_iadd C dX12_gameOf_116 ?_
  refine q_istore (L' := [some (.ref l0), none, none, none, none, none, some (.int l6), some (.int (s0 + (s1 - u23))), some (.int l8), none, none]) C dX12_gameOf_117 (by decide) rfl rfl ?_
  exact q_msk [true, false, false, false, false, false, true, true, true, false, false] (jW_X12_gameOf_119_58 C l0 l6 (s0 + (s1 - u23)) l8 M h kC kE0)
noncomputable def B_X12_gameOf_58 (l0 : Nat) (l6 : Int32) (l7 : Int32) (l8 : Int32) (M : q_Mem) : Option ((Int32 × Int32 × q_Mem) ⊕ (Int32 × q_Mem)) := (if l8 < (8 : Int32) then (q_gR M l0 12 33 (fun c15 => q_nn c15 (fun r16 => (q_ob M l0 12 ((F_X12_isThere l0 r16 l6 M).bind (fun u17 => (q_gR M l0 12 33 (fun c18 => q_nn c18 (fun r19 => (q_ob M l0 12 ((F_X12_goDay l0 r19 M).bind (fun x => match x with | (u20, M21) => (if u17 = 0 then J_X12_gameOf_119_58 l0 l6 l7 l8 M21 else ((F_X12_has u20 l6 M21).bind (fun u22 => (if u22 = 0 then J_X12_gameOf_109_58 l0 l6 l8 l7 (0 : Int32) M21 else J_X12_gameOf_109_58 l0 l6 l8 l7 (2 : Int32) M21)))))))))))))))) else some (.inr (l7, M)))
set_option maxRecDepth 100000 in
set_option maxHeartbeats 4000000 in
theorem bW_X12_gameOf_58 {K : q_K} {Q : State → Prop} (C : q_C K yX12_gameOf cX12_gameOf 11 (Option.some Jvm.ClassFile.FieldType.int) 133 0 0) (l0 : Nat) (l6 : Int32) (l7 : Int32) (l8 : Int32) (M : q_Mem) {stp : (Int32 × Int32 × q_Mem) ⊕ (Int32 × q_Mem)} (h : B_X12_gameOf_58 l0 l6 l7 l8 M = some stp) (kC : ∀ (l7 : Int32) (l8 : Int32) (M : q_Mem), stp = .inl (l7, l8, M) → q_W K 11 Q 0 0 M 58 [some (.ref l0), none, none, none, none, none, some (.int l6), some (.int l7), some (.int l8), none, none] []) (kE0 : ∀ (l7 : Int32) (M : q_Mem), stp = .inr (l7, M) → q_W K 11 Q 0 0 M 125 [some (.ref l0), none, none, none, none, none, some (.int l6), some (.int l7), none, none, none] []) : q_W K 11 Q 0 0 M 58 [some (.ref l0), none, none, none, none, none, some (.int l6), some (.int l7), some (.int l8), none, none] [] := by
  unfold B_X12_gameOf_58 at h
  refine q_iload C dX12_gameOf_58 rfl ?_
  refine x_bipush (v := (8 : Int32)) C dX12_gameOf_60 (by decide) ?_
  refine q_icmp_ge (tgt := 125) C dX12_gameOf_62 (by decide) h (fun _ h => ?_) (fun _ h => ?_)
  · refine q_aload_n C dX12_gameOf_65 rfl ?_
    refine q_aload_n C dX12_gameOf_66 rfl ?_
    refine x_getR (ci := 12) (j := 33) C dX12_gameOf_67 lkF_X12_64 rfl h (fun c15 h => ?_)
    refine x_nn h (fun r16 h => ?_)
    refine q_iload C dX12_gameOf_70 rfl ?_
    obtain ⟨hk, h⟩ := q_obE h
    obtain ⟨u17, e1, h⟩ := q_bind h
    refine x_callV0 C dX12_gameOf_72 lkM_X12_302 mV_X12_isThere ⟨_, rfl, rfl⟩ hk (c_X12_isThere _ _ _ _ _ _ e1) rfl rfl (Nat.le_of_ble_eq_true rfl) (by decide) (by decide) ?_
    refine q_istore (L' := [some (.ref l0), none, none, none, none, none, some (.int l6), some (.int l7), some (.int l8), some (.int u17), none]) C dX12_gameOf_75 (by decide) rfl rfl ?_
    refine q_aload_n C dX12_gameOf_77 rfl ?_
    refine q_aload_n C dX12_gameOf_78 rfl ?_
    refine x_getR (ci := 12) (j := 33) C dX12_gameOf_79 lkF_X12_64 rfl h (fun c18 h => ?_)
    refine x_nn h (fun r19 h => ?_)
    obtain ⟨hk, h⟩ := q_obE h
    obtain ⟨⟨u20, M21⟩, e1, h⟩ := q_bind h
    refine x_callV0 C dX12_gameOf_82 lkM_X12_370 mV_X12_goDay ⟨_, rfl, rfl⟩ hk (c_X12_goDay _ _ _ _ _ e1) rfl rfl (Nat.le_of_ble_eq_true rfl) (by decide) (by decide) ?_
    refine q_istore (L' := [some (.ref l0), none, none, none, none, none, some (.int l6), some (.int l7), some (.int l8), some (.int u17), some (.int u20)]) C dX12_gameOf_85 (by decide) rfl rfl ?_
    refine q_iload C dX12_gameOf_87 rfl ?_
    refine q_if_eq (tgt := 119) C dX12_gameOf_89 (by decide) h (fun _ h => ?_) (fun _ h => ?_)
    · exact q_msk [true, false, false, false, false, false, true, true, true, false, false] (jW_X12_gameOf_119_58 C l0 l6 l7 l8 M21 h kC kE0)
    · refine q_iload C dX12_gameOf_92 rfl ?_
      refine q_iload C dX12_gameOf_94 rfl ?_
      refine q_iload C dX12_gameOf_96 rfl ?_
      obtain ⟨u22, e1, h⟩ := q_bind h
      refine x_callS0 C dX12_gameOf_98 lkM_X12_225 mS_X12_has (c_X12_has _ _ _ _ _ e1) rfl rfl (Nat.le_of_ble_eq_true rfl) (by decide) (by decide) ?_
      refine q_if_eq (tgt := 108) C dX12_gameOf_101 (by decide) h (fun _ h => ?_) (fun _ h => ?_)
      · refine x_iconst (v := (0 : Int32)) C dX12_gameOf_108 (by decide) ?_
        exact q_msk [true, false, false, false, false, false, true, false, true, false, false] (jW_X12_gameOf_109_58 C l0 l6 l8 l7 (0 : Int32) M21 h kC kE0)
      · refine x_iconst (v := (2 : Int32)) C dX12_gameOf_104 (by decide) ?_
        refine q_goto (tgt := 109) C dX12_gameOf_105 (by decide) ?_
        exact q_msk [true, false, false, false, false, false, true, false, true, false, false] (jW_X12_gameOf_109_58 C l0 l6 l8 l7 (2 : Int32) M21 h kC kE0)
  · exact q_msk [true, false, false, false, false, false, true, true, false, false, false] (kE0 _ _ (Option.some.inj h).symm)
set_option maxRecDepth 100000 in
set_option maxHeartbeats 4000000 in
theorem lW_X12_gameOf_58 {K : q_K} {Q : State → Prop} (C : q_C K yX12_gameOf cX12_gameOf 11 (Option.some Jvm.ClassFile.FieldType.int) 133 0 0) (l0 : Nat) (l6 : Int32) (n : Nat) : ∀ (l7 : Int32) (l8 : Int32) (M : q_Mem) (e : (Int32 × q_Mem)), q_lp (fun s => B_X12_gameOf_58 l0 l6 s.1 s.2.1 s.2.2) n (l7, l8, M) = some e → (∀ (l7 : Int32) (M : q_Mem), e = (l7, M) → q_W K 11 Q 0 0 M 125 [some (.ref l0), none, none, none, none, none, some (.int l6), some (.int l7), none, none, none] []) → q_W K 11 Q 0 0 M 58 [some (.ref l0), none, none, none, none, none, some (.int l6), some (.int l7), some (.int l8), none, none] [] := by
  induction n with
  | zero => intro l7 l8 M e h; cases h
  | succ n ih =>
    intro l7 l8 M e h kE0
    obtain ⟨stp, e1, e2⟩ := q_bind h
    refine bW_X12_gameOf_58 C l0 l6 l7 l8 M e1 (fun a0 a1 a2 hs => ?_) (fun b0 b1 hs => ?_)
    · subst hs; exact ih _ _ _ _ e2 kE0
    · subst hs; exact kE0 _ _ (Option.some.inj e2).symm
noncomputable def J_X12_gameOf_50 (l0 : Nat) (s0 : Int32) (M : q_Mem) : Option (Int32 × q_Mem) := (q_lp (fun s => B_X12_gameOf_58 l0 s0 s.1 s.2.1 s.2.2) q_fu ((0 : Int32), (0 : Int32), M)).bind (fun e24 => match e24 with | (w25, M26) => (q_gR M26 l0 12 33 (fun c27 => q_nn c27 (fun r28 => (q_lI M26 0 r28 (((4 : Int32) * s0) + (2 : Int32)) (fun v29 => (q_gR M26 l0 12 32 (fun c30 => q_nn c30 (fun r31 => (q_lI M26 0 r31 (((4 : Int32) * s0) + (2 : Int32)) (fun v32 => some (((w25 + v29) - v32), M26))))))))))))
set_option maxRecDepth 100000 in
set_option maxHeartbeats 4000000 in
theorem jW_X12_gameOf_50 {K : q_K} (C : q_C K yX12_gameOf cX12_gameOf 11 (Option.some Jvm.ClassFile.FieldType.int) 133 0 0) (l0 : Nat) (s0 : Int32) (M : q_Mem) {r : Int32} {M' : q_Mem} (h : J_X12_gameOf_50 l0 s0 M = some (r, M')) : q_W K 11 (q_Q K (some (.int r)) M' 0 0) 0 0 M 50 [some (.ref l0), none, none, none, none, none, none, none, none, none, none] [.int s0] := by
  unfold J_X12_gameOf_50 at h
  refine q_istore (L' := [some (.ref l0), none, none, none, none, none, some (.int s0), none, none, none, none]) C dX12_gameOf_50 (by decide) rfl rfl ?_
  refine x_iconst (v := (0 : Int32)) C dX12_gameOf_52 (by decide) ?_
  refine q_istore (L' := [some (.ref l0), none, none, none, none, none, some (.int s0), some (.int (0 : Int32)), none, none, none]) C dX12_gameOf_53 (by decide) rfl rfl ?_
  refine x_iconst (v := (0 : Int32)) C dX12_gameOf_55 (by decide) ?_
  refine q_istore (L' := [some (.ref l0), none, none, none, none, none, some (.int s0), some (.int (0 : Int32)), some (.int (0 : Int32)), none, none]) C dX12_gameOf_56 (by decide) rfl rfl ?_
  obtain ⟨e24, he, h⟩ := q_bind h
  refine q_msk [true, false, false, false, false, false, true, true, true, false, false] (lW_X12_gameOf_58 C l0 s0 q_fu _ _ _ _ he (fun w25 M26 hs => ?_))
  · have hs := hs.symm
    subst hs
    refine q_iload C dX12_gameOf_125 rfl ?_
    refine q_aload_n C dX12_gameOf_127 rfl ?_
    refine x_getR (ci := 12) (j := 33) C dX12_gameOf_128 lkF_X12_64 rfl h (fun c27 h => ?_)
    refine x_nn h (fun r28 h => ?_)
    refine x_iconst (v := (4 : Int32)) C dX12_gameOf_131 (by decide) ?_
    refine q_iload C dX12_gameOf_132 rfl ?_
    refine q_imul C dX12_gameOf_134 ?_
    refine x_iconst (v := (2 : Int32)) C dX12_gameOf_135 (by decide) ?_
    refine q_iadd C dX12_gameOf_136 ?_
    refine x_iald C dX12_gameOf_137 h (fun v29 h => ?_)
    refine q_iadd C dX12_gameOf_138 ?_
    refine q_aload_n C dX12_gameOf_139 rfl ?_
    refine x_getR (ci := 12) (j := 32) C dX12_gameOf_140 lkF_X12_61 rfl h (fun c30 h => ?_)
    refine x_nn h (fun r31 h => ?_)
    refine x_iconst (v := (4 : Int32)) C dX12_gameOf_143 (by decide) ?_
    refine q_iload C dX12_gameOf_144 rfl ?_
    refine q_imul C dX12_gameOf_146 ?_
    refine x_iconst (v := (2 : Int32)) C dX12_gameOf_147 (by decide) ?_
    refine q_iadd C dX12_gameOf_148 ?_
    refine x_iald C dX12_gameOf_149 h (fun v32 h => ?_)
    refine q_isub C dX12_gameOf_150 ?_
    exact q_iret C dX12_gameOf_151 rfl (by decide) (by decide) (Option.some.inj h)
noncomputable def F_X12_gameOf (l0 : Nat) (l1 : Int32) (l2 : Int32) (l3 : Int32) (l4 : Int32) (l5 : Int32) (M : q_Mem) : Option (Int32 × q_Mem) := (q_gR M l0 12 32 (fun c1 => q_nn c1 (fun r2 => (q_gR M l0 12 33 (fun c3 => q_nn c3 (fun r4 => ((F_X12_copy r2 r4 M).bind (fun x => match x with | (_, M6) => (q_gR M6 l0 12 33 (fun c7 => q_nn c7 (fun r8 => (q_lI M6 0 r8 (((4 : Int32) * l1) + (0 : Int32)) (fun v9 => (q_tI M6 r8 (((4 : Int32) * l1) + (0 : Int32)) (v9 + l3) (fun M10 => (q_gR M10 l0 12 33 (fun c11 => q_nn c11 (fun r12 => (q_lI M10 0 r12 (((4 : Int32) * l2) + (0 : Int32)) (fun v13 => (q_tI M10 r12 (((4 : Int32) * l2) + (0 : Int32)) (v13 + l4) (fun M14 => (if l5 = 0 then J_X12_gameOf_50 l0 l1 M14 else J_X12_gameOf_50 l0 l2 M14)))))))))))))))))))))))
set_option maxRecDepth 100000 in
set_option maxHeartbeats 4000000 in
theorem c_X12_gameOf (l : Launch) (G : q_G) (l0 : Nat) (l1 : Int32) (l2 : Int32) (l3 : Int32) (l4 : Int32) (l5 : Int32) (M : q_Mem) {r : Int32} {M' : q_Mem} (h : F_X12_gameOf l0 l1 l2 l3 l4 l5 M = some (r, M')) : q_Met l G yX12_gameOf cX12_gameOf 11 (Option.some Jvm.ClassFile.FieldType.int) 133 0 0 [.ref l0, .int l1, .int l2, .int l3, .int l4, .int l5] M (some (.int r)) M' := by
  unfold F_X12_gameOf at h
  refine q_enter [some (.ref l0), some (.int l1), some (.int l2), some (.int l3), some (.int l4), some (.int l5), none, none, none, none, none] (by decide) (Nat.le_of_ble_eq_true rfl) rfl (fun K C => ?_)
  refine q_aload_n C dX12_gameOf_0 rfl ?_
  refine x_getR (ci := 12) (j := 32) C dX12_gameOf_1 lkF_X12_61 rfl h (fun c1 h => ?_)
  refine x_nn h (fun r2 h => ?_)
  refine q_aload_n C dX12_gameOf_4 rfl ?_
  refine x_getR (ci := 12) (j := 33) C dX12_gameOf_5 lkF_X12_64 rfl h (fun c3 h => ?_)
  refine x_nn h (fun r4 h => ?_)
  obtain ⟨⟨_, M6⟩, e1, h⟩ := q_bind h
  refine x_callSv0 C dX12_gameOf_8 lkM_X12_409 mS_X12_copy (c_X12_copy _ _ _ _ _ e1) rfl rfl (Nat.le_of_ble_eq_true rfl) (by decide) (by decide) ?_
  refine q_aload_n C dX12_gameOf_11 rfl ?_
  refine x_getR (ci := 12) (j := 33) C dX12_gameOf_12 lkF_X12_64 rfl h (fun c7 h => ?_)
  refine x_nn h (fun r8 h => ?_)
  refine x_iconst (v := (4 : Int32)) C dX12_gameOf_15 (by decide) ?_
  refine q_iload_n C dX12_gameOf_16 rfl ?_
  refine q_imul C dX12_gameOf_17 ?_
  refine x_iconst (v := (0 : Int32)) C dX12_gameOf_18 (by decide) ?_
  refine q_iadd C dX12_gameOf_19 ?_
  refine q_dup2 C dX12_gameOf_20 rfl rfl ?_
  refine x_iald C dX12_gameOf_21 h (fun v9 h => ?_)
  refine q_iload_n C dX12_gameOf_22 rfl ?_
  refine q_iadd C dX12_gameOf_23 ?_
  refine x_iast C dX12_gameOf_24 h (fun M10 h => ?_)
  refine q_aload_n C dX12_gameOf_25 rfl ?_
  refine x_getR (ci := 12) (j := 33) C dX12_gameOf_26 lkF_X12_64 rfl h (fun c11 h => ?_)
  refine x_nn h (fun r12 h => ?_)
  refine x_iconst (v := (4 : Int32)) C dX12_gameOf_29 (by decide) ?_
  refine q_iload_n C dX12_gameOf_30 rfl ?_
  refine q_imul C dX12_gameOf_31 ?_
  refine x_iconst (v := (0 : Int32)) C dX12_gameOf_32 (by decide) ?_
  refine q_iadd C dX12_gameOf_33 ?_
  refine q_dup2 C dX12_gameOf_34 rfl rfl ?_
  refine x_iald C dX12_gameOf_35 h (fun v13 h => ?_)
  refine q_iload C dX12_gameOf_36 rfl ?_
  refine q_iadd C dX12_gameOf_38 ?_
  refine x_iast C dX12_gameOf_39 h (fun M14 h => ?_)
  refine q_iload C dX12_gameOf_40 rfl ?_
  refine q_if_ne (tgt := 49) C dX12_gameOf_42 (by decide) h (fun _ h => ?_) (fun _ h => ?_)
  · refine q_iload_n C dX12_gameOf_45 rfl ?_
    refine q_goto (tgt := 50) C dX12_gameOf_46 (by decide) ?_
    exact q_msk [true, false, false, false, false, false, false, false, false, false, false] (jW_X12_gameOf_50 C l0 l1 M14 h)
  · refine q_iload_n C dX12_gameOf_49 rfl ?_
    exact q_msk [true, false, false, false, false, false, false, false, false, false, false] (jW_X12_gameOf_50 C l0 l2 M14 h)
