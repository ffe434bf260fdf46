noncomputable def F_X0_carryOut (l0 : Nat) (l1 : Nat) (l2 : Int32) (l3 : Int32) (l4 : Int32) (M : q_Mem) : Option (Int32 × q_Mem) := (if l2 = (0 : Int32) then (q_gR M l1 8 0 (fun c1 => q_nn c1 (fun r2 => (q_lI M 0 r2 (0 : Int32) (fun v3 => (if v3 < (999 : Int32) then (q_gR M l0 0 1 (fun c4 => q_nn c4 (fun r5 => (q_ob M r5 1 ((F_X1_pass r5 l1 M).bind (fun x => match x with | (_, M7) => q_rz (1 : Int32) M7)))))) else q_rz (0 : Int32) M)))))) else (if l2 = (1 : Int32) then (q_ob M l0 0 ((F_X0_chooseDish l0 l1 l3 M).bind (fun x => match x with | (u8, M9) => q_rz u8 M9))) else (if l2 = (2 : Int32) then (q_ob M l0 0 ((F_X0_fallIll l0 l1 M).bind (fun x => match x with | (u10, M11) => q_rz u10 M11))) else (if l2 = (3 : Int32) then (q_ob M l0 0 ((F_X0_makeHandUp l0 l1 M).bind (fun x => match x with | (u12, M13) => q_rz u12 M13))) else (if l2 = (4 : Int32) then (q_ob M l0 0 ((F_X0_stayLonger l0 l1 l3 l4 M).bind (fun x => match x with | (u14, M15) => q_rz u14 M15))) else (if l2 = (5 : Int32) then (q_ob M l0 0 ((F_X0_likeAnother l0 l1 l3 l4 M).bind (fun x => match x with | (u16, M17) => q_rz u16 M17))) else q_rz (0 : Int32) M))))))
set_option maxRecDepth 100000 in
set_option maxHeartbeats 4000000 in
theorem c_X0_carryOut (l : Launch) (G : q_G) (l0 : Nat) (l1 : Nat) (l2 : Int32) (l3 : Int32) (l4 : Int32) (M : q_Mem) {r : Int32} {M' : q_Mem} (h : F_X0_carryOut l0 l1 l2 l3 l4 M = some (r, M')) : q_Met l G yX0_carryOut cX0_carryOut 5 (Option.some Jvm.ClassFile.FieldType.boolean) 6 0 0 [.ref l0, .ref l1, .int l2, .int l3, .int l4] M (some (.int r)) M' := by
  unfold F_X0_carryOut at h
  refine q_enter [some (.ref l0), some (.ref l1), some (.int l2), some (.int l3), some (.int l4)] (by decide) (Nat.le_of_ble_eq_true rfl) rfl (fun K C => ?_)
  refine q_iload_n C dX0_carryOut_0 rfl ?_
  by_cases hs1_0 : l2 = (0 : Int32)
  · have h := q_iteT h hs1_0
    refine q_tsIn (tgt := 40) C dX0_carryOut_1 hs1_0 (by decide) (by decide) rfl (by decide) ?_
    refine q_aload_n C dX0_carryOut_40 rfl ?_
    refine x_getR (ci := 8) (j := 0) C dX0_carryOut_41 lkF_X0_19 rfl h (fun c1 h => ?_)
    refine x_nn h (fun r2 h => ?_)
    refine x_iconst (v := (0 : Int32)) C dX0_carryOut_44 (by decide) ?_
    refine x_iald C dX0_carryOut_45 h (fun v3 h => ?_)
    refine x_sipush (v := (999 : Int32)) C dX0_carryOut_46 (by decide) ?_
    refine q_icmp_lt (tgt := 54) C dX0_carryOut_49 (by decide) h (fun _ h => ?_) (fun _ h => ?_)
    · refine q_aload_n C dX0_carryOut_54 rfl ?_
      refine x_getR (ci := 0) (j := 1) C dX0_carryOut_55 lkF_X0_15 rfl h (fun c4 h => ?_)
      refine x_nn h (fun r5 h => ?_)
      refine q_aload_n C dX0_carryOut_58 rfl ?_
      obtain ⟨hk, h⟩ := q_obE h
      obtain ⟨⟨_, M7⟩, e1, h⟩ := q_bind h
      refine x_callVv0 C dX0_carryOut_59 lkM_X0_25 mV_X1_pass ⟨_, rfl, rfl⟩ hk (c_X1_pass _ _ _ _ _ e1) rfl rfl (Nat.le_of_ble_eq_true rfl) (by decide) (by decide) ?_
      refine x_iconst (v := (1 : Int32)) C dX0_carryOut_62 (by decide) ?_
      exact q_zret C dX0_carryOut_63 rfl (by decide) (by decide) (q_rzE h).1 (q_rzE h).2
    · refine x_iconst (v := (0 : Int32)) C dX0_carryOut_52 (by decide) ?_
      exact q_zret C dX0_carryOut_53 rfl (by decide) (by decide) (q_rzE h).1 (q_rzE h).2
  have h := q_iteF h hs1_0
  by_cases hs1_1 : l2 = (1 : Int32)
  · have h := q_iteT h hs1_1
    refine q_tsIn (tgt := 64) C dX0_carryOut_1 hs1_1 (by decide) (by decide) rfl (by decide) ?_
    refine q_aload_n C dX0_carryOut_64 rfl ?_
    refine q_aload_n C dX0_carryOut_65 rfl ?_
    refine q_iload_n C dX0_carryOut_66 rfl ?_
    obtain ⟨hk, h⟩ := q_obE h
    obtain ⟨⟨u8, M9⟩, e1, h⟩ := q_bind h
    refine x_callV0 C dX0_carryOut_67 lkM_X0_31 mV_X0_chooseDish ⟨_, rfl, rfl⟩ hk (c_X0_chooseDish _ _ _ _ _ _ e1) rfl rfl (Nat.le_of_ble_eq_true rfl) (by decide) (by decide) ?_
    exact q_zret C dX0_carryOut_70 rfl (by decide) (by decide) (q_rzE h).1 (q_rzE h).2
  have h := q_iteF h hs1_1
  by_cases hs1_2 : l2 = (2 : Int32)
  · have h := q_iteT h hs1_2
    refine q_tsIn (tgt := 71) C dX0_carryOut_1 hs1_2 (by decide) (by decide) rfl (by decide) ?_
    refine q_aload_n C dX0_carryOut_71 rfl ?_
    refine q_aload_n C dX0_carryOut_72 rfl ?_
    obtain ⟨hk, h⟩ := q_obE h
    obtain ⟨⟨u10, M11⟩, e1, h⟩ := q_bind h
    refine x_callV0 C dX0_carryOut_73 lkM_X0_35 mV_X0_fallIll ⟨_, rfl, rfl⟩ hk (c_X0_fallIll _ _ _ _ _ e1) rfl rfl (Nat.le_of_ble_eq_true rfl) (by decide) (by decide) ?_
    exact q_zret C dX0_carryOut_76 rfl (by decide) (by decide) (q_rzE h).1 (q_rzE h).2
  have h := q_iteF h hs1_2
  by_cases hs1_3 : l2 = (3 : Int32)
  · have h := q_iteT h hs1_3
    refine q_tsIn (tgt := 77) C dX0_carryOut_1 hs1_3 (by decide) (by decide) rfl (by decide) ?_
    refine q_aload_n C dX0_carryOut_77 rfl ?_
    refine q_aload_n C dX0_carryOut_78 rfl ?_
    obtain ⟨hk, h⟩ := q_obE h
    obtain ⟨⟨u12, M13⟩, e1, h⟩ := q_bind h
    refine x_callV0 C dX0_carryOut_79 lkM_X0_39 mV_X0_makeHandUp ⟨_, rfl, rfl⟩ hk (c_X0_makeHandUp _ _ _ _ _ e1) rfl rfl (Nat.le_of_ble_eq_true rfl) (by decide) (by decide) ?_
    exact q_zret C dX0_carryOut_82 rfl (by decide) (by decide) (q_rzE h).1 (q_rzE h).2
  have h := q_iteF h hs1_3
  by_cases hs1_4 : l2 = (4 : Int32)
  · have h := q_iteT h hs1_4
    refine q_tsIn (tgt := 83) C dX0_carryOut_1 hs1_4 (by decide) (by decide) rfl (by decide) ?_
    refine q_aload_n C dX0_carryOut_83 rfl ?_
    refine q_aload_n C dX0_carryOut_84 rfl ?_
    refine q_iload_n C dX0_carryOut_85 rfl ?_
    refine q_iload C dX0_carryOut_86 rfl ?_
    obtain ⟨hk, h⟩ := q_obE h
    obtain ⟨⟨u14, M15⟩, e1, h⟩ := q_bind h
    refine x_callV0 C dX0_carryOut_88 lkM_X0_42 mV_X0_stayLonger ⟨_, rfl, rfl⟩ hk (c_X0_stayLonger _ _ _ _ _ _ _ e1) rfl rfl (Nat.le_of_ble_eq_true rfl) (by decide) (by decide) ?_
    exact q_zret C dX0_carryOut_91 rfl (by decide) (by decide) (q_rzE h).1 (q_rzE h).2
  have h := q_iteF h hs1_4
  by_cases hs1_5 : l2 = (5 : Int32)
  · have h := q_iteT h hs1_5
    refine q_tsIn (tgt := 92) C dX0_carryOut_1 hs1_5 (by decide) (by decide) rfl (by decide) ?_
    refine q_aload_n C dX0_carryOut_92 rfl ?_
    refine q_aload_n C dX0_carryOut_93 rfl ?_
    refine q_iload_n C dX0_carryOut_94 rfl ?_
    refine q_iload C dX0_carryOut_95 rfl ?_
    obtain ⟨hk, h⟩ := q_obE h
    obtain ⟨⟨u16, M17⟩, e1, h⟩ := q_bind h
    refine x_callV0 C dX0_carryOut_97 lkM_X0_46 mV_X0_likeAnother ⟨_, rfl, rfl⟩ hk (c_X0_likeAnother _ _ _ _ _ _ _ e1) rfl rfl (Nat.le_of_ble_eq_true rfl) (by decide) (by decide) ?_
    exact q_zret C dX0_carryOut_100 rfl (by decide) (by decide) (q_rzE h).1 (q_rzE h).2
  have h := q_iteF h hs1_5
  have ho1 : (l2 : Int32).toInt < 0 ∨ 5 < (l2 : Int32).toInt := by
    have z0 := lv_neT (a := 0) hs1_0 (by decide)
    have z1 := lv_neT (a := 1) hs1_1 (by decide)
    have z2 := lv_neT (a := 2) hs1_2 (by decide)
    have z3 := lv_neT (a := 3) hs1_3 (by decide)
    have z4 := lv_neT (a := 4) hs1_4 (by decide)
    have z5 := lv_neT (a := 5) hs1_5 (by decide)
    omega
  refine q_tsOut (tgt := 101) C dX0_carryOut_1 ho1 (by decide) ?_
  refine x_iconst (v := (0 : Int32)) C dX0_carryOut_101 (by decide) ?_
  exact q_zret C dX0_carryOut_102 rfl (by decide) (by decide) (q_rzE h).1 (q_rzE h).2
noncomputable def F_X1_init (l0 : Nat) (l1 : Nat) (M : q_Mem) : Option (Unit × q_Mem) := (q_nA M 0 (6 : Int32) 6 (fun k1 M2 => (q_pR M2 l0 1 1 (k1 + 1) (fun M3 => (q_nA M3 0 (6 : Int32) 6 (fun k4 M5 => (q_pR M5 l0 1 2 (k4 + 1) (fun M6 => (q_pR M6 l0 1 3 0 (fun M7 => (q_pI M7 l0 1 4 (0 : Int32) (fun M8 => (q_pI M8 l0 1 5 (-1 : Int32) (fun M9 => (q_pI M9 l0 1 6 (0 : Int32) (fun M10 => (q_pI M10 l0 1 7 (-1 : Int32) (fun M11 => (q_pI M11 l0 1 8 (0 : Int32) (fun M12 => (q_pI M12 l0 1 9 (0 : Int32) (fun M13 => (q_pI M13 l0 1 10 (0 : Int32) (fun M14 => (q_pI M14 l0 1 11 (0 : Int32) (fun M15 => (q_pR M15 l0 1 0 (l1 + 1) (fun M16 => some ((), M16)))))))))))))))))))))))))))))
set_option maxRecDepth 100000 in
set_option maxHeartbeats 4000000 in
theorem c_X1_init (l : Launch) (G : q_G) (l0 : Nat) (l1 : Nat) (M : q_Mem) {r : Unit} {M' : q_Mem} (h : F_X1_init l0 l1 M = some (r, M')) : q_Met l G yX1_init cX1_init 2 (Option.none : Option Jvm.ClassFile.FieldType) 2 2 12 [.ref l0, .ref l1] M none M' := by
  unfold F_X1_init at h
  refine q_enter [some (.ref l0), some (.ref l1)] (by decide) (Nat.le_of_ble_eq_true rfl) rfl (fun K C => ?_)
  refine q_aload_n C dX1_init_0 rfl ?_
  refine q_objI C dX1_init_1 wd_175 wd_33 wd_34 (by decide) (Nat.le_of_ble_eq_true rfl) ?_
  refine q_aload_n C dX1_init_4 rfl ?_
  refine x_bipush (v := (6 : Int32)) C dX1_init_5 (by decide) ?_
  refine x_newa C dX1_init_7 (by simp) wd_103 (by decide) h (by decide) (fun k1 M2 h => ?_)
  refine x_putR (ci := 1) (j := 1) (k1 + 1) C dX1_init_9 lkF_X1_9 (fun r hr => by cases hr; exact Or.inr ⟨rfl, rfl, wd_177⟩) (Or.inr ⟨_, rfl⟩) rfl h (fun M3 h => ?_)
  refine q_aload_n C dX1_init_12 rfl ?_
  refine x_bipush (v := (6 : Int32)) C dX1_init_13 (by decide) ?_
  refine x_newa C dX1_init_15 (by simp) wd_103 (by decide) h (by decide) (fun k4 M5 h => ?_)
  refine x_putR (ci := 1) (j := 2) (k4 + 1) C dX1_init_17 lkF_X1_15 (fun r hr => by cases hr; exact Or.inr ⟨rfl, rfl, wd_179⟩) (Or.inr ⟨_, rfl⟩) rfl h (fun M6 h => ?_)
  refine q_aload_n C dX1_init_20 rfl ?_
  refine q_null C dX1_init_21 ?_
  refine x_putR (ci := 1) (j := 3) 0 C dX1_init_22 lkF_X1_18 (fun r hr => by cases hr; exact Or.inl rfl) (Or.inl ⟨_, rfl⟩) rfl h (fun M7 h => ?_)
  refine q_aload_n C dX1_init_25 rfl ?_
  refine x_iconst (v := (0 : Int32)) C dX1_init_26 (by decide) ?_
  refine x_putI (ci := 1) (j := 4) C dX1_init_27 lkF_X1_22 (fun r hr => by cases hr; rfl) rfl h (fun M8 h => ?_)
  refine q_aload_n C dX1_init_30 rfl ?_
  refine x_iconst (v := (-1 : Int32)) C dX1_init_31 (by decide) ?_
  refine x_putI (ci := 1) (j := 5) C dX1_init_32 lkF_X1_26 (fun r hr => by cases hr; rfl) rfl h (fun M9 h => ?_)
  refine q_aload_n C dX1_init_35 rfl ?_
  refine x_iconst (v := (0 : Int32)) C dX1_init_36 (by decide) ?_
  refine x_putI (ci := 1) (j := 6) C dX1_init_37 lkF_X1_29 (fun r hr => by cases hr; rfl) rfl h (fun M10 h => ?_)
  refine q_aload_n C dX1_init_40 rfl ?_
  refine x_iconst (v := (-1 : Int32)) C dX1_init_41 (by decide) ?_
  refine x_putI (ci := 1) (j := 7) C dX1_init_42 lkF_X1_32 (fun r hr => by cases hr; rfl) rfl h (fun M11 h => ?_)
  refine q_aload_n C dX1_init_45 rfl ?_
  refine x_iconst (v := (0 : Int32)) C dX1_init_46 (by decide) ?_
  refine x_putI (ci := 1) (j := 8) C dX1_init_47 lkF_X1_35 (fun r hr => by cases hr; rfl) rfl h (fun M12 h => ?_)
  refine q_aload_n C dX1_init_50 rfl ?_
  refine x_iconst (v := (0 : Int32)) C dX1_init_51 (by decide) ?_
  refine x_putI (ci := 1) (j := 9) C dX1_init_52 lkF_X1_38 (fun r hr => by cases hr; rfl) rfl h (fun M13 h => ?_)
  refine q_aload_n C dX1_init_55 rfl ?_
  refine x_iconst (v := (0 : Int32)) C dX1_init_56 (by decide) ?_
  refine x_putI (ci := 1) (j := 10) C dX1_init_57 lkF_X1_41 (fun r hr => by cases hr; rfl) rfl h (fun M14 h => ?_)
  refine q_aload_n C dX1_init_60 rfl ?_
  refine x_iconst (v := (0 : Int32)) C dX1_init_61 (by decide) ?_
  refine x_putI (ci := 1) (j := 11) C dX1_init_62 lkF_X1_44 (fun r hr => by cases hr; rfl) rfl h (fun M15 h => ?_)
  refine q_aload_n C dX1_init_65 rfl ?_
  refine q_aload_n C dX1_init_66 rfl ?_
  refine x_putR (ci := 1) (j := 0) (l1 + 1) C dX1_init_67 lkF_X1_47 (fun r hr => by cases hr; exact Or.inr ⟨rfl, rfl, wd_176⟩) (Or.inl ⟨_, rfl⟩) rfl h (fun M16 h => ?_)
  exact q_vret C dX1_init_70 rfl (by decide) (by decide) (Option.some.inj h)
noncomputable def F_X8_init (l0 : Nat) (M : q_Mem) : Option (Unit × q_Mem) := (q_nA M 0 (31 : Int32) 31 (fun k1 M2 => (q_pR M2 l0 8 0 (k1 + 1) (fun M3 => (q_gR M3 l0 8 0 (fun c4 => q_nn c4 (fun r5 => (q_tI M3 r5 (3 : Int32) (-1 : Int32) (fun M6 => some ((), M6))))))))))
set_option maxRecDepth 100000 in
set_option maxHeartbeats 4000000 in
theorem c_X8_init (l : Launch) (G : q_G) (l0 : Nat) (M : q_Mem) {r : Unit} {M' : q_Mem} (h : F_X8_init l0 M = some (r, M')) : q_Met l G yX8_init cX8_init 1 (Option.none : Option Jvm.ClassFile.FieldType) 2 1 31 [.ref l0] M none M' := by
  unfold F_X8_init at h
  refine q_enter [some (.ref l0)] (by decide) (Nat.le_of_ble_eq_true rfl) rfl (fun K C => ?_)
  refine q_aload_n C dX8_init_0 rfl ?_
  refine q_objI C dX8_init_1 wd_129 wd_33 wd_34 (by decide) (Nat.le_of_ble_eq_true rfl) ?_
  refine q_aload_n C dX8_init_4 rfl ?_
  refine x_bipush (v := (31 : Int32)) C dX8_init_5 (by decide) ?_
  refine x_newa C dX8_init_7 (by simp) wd_103 (by decide) h (by decide) (fun k1 M2 h => ?_)
  refine x_putR (ci := 8) (j := 0) (k1 + 1) C dX8_init_9 lkF_X8_9 (fun r hr => by cases hr; exact Or.inr ⟨rfl, rfl, wd_130⟩) (Or.inr ⟨_, rfl⟩) rfl h (fun M3 h => ?_)
  refine q_aload_n C dX8_init_12 rfl ?_
  refine x_getR (ci := 8) (j := 0) C dX8_init_13 lkF_X8_9 rfl h (fun c4 h => ?_)
  refine x_nn h (fun r5 h => ?_)
  refine x_iconst (v := (3 : Int32)) C dX8_init_16 (by decide) ?_
  refine x_iconst (v := (-1 : Int32)) C dX8_init_17 (by decide) ?_
  refine x_iast C dX8_init_18 h (fun M6 h => ?_)
  exact q_vret C dX8_init_19 rfl (by decide) (by decide) (Option.some.inj h)
noncomputable def F_X2_init (l0 : Nat) (l1 : Nat) (l2 : Nat) (l3 : Nat) (M : q_Mem) : Option (Unit × q_Mem) := (q_nO M 8 (fun k1 M2 => ((F_X8_init k1 M2).bind (fun x => match x with | (_, M4) => (q_pR M4 l0 2 3 (k1 + 1) (fun M5 => (q_nA M5 5 (5 : Int32) 5 (fun k6 M7 => (q_pR M7 l0 2 4 (k6 + 1) (fun M8 => (q_nA M8 0 (16 : Int32) 16 (fun k9 M10 => (q_pR M10 l0 2 5 (k9 + 1) (fun M11 => (q_nA M11 0 (16 : Int32) 16 (fun k12 M13 => (q_pR M13 l0 2 6 (k12 + 1) (fun M14 => (q_pI M14 l0 2 7 (0 : Int32) (fun M15 => (q_pI M15 l0 2 8 (0 : Int32) (fun M16 => (q_pI M16 l0 2 9 (0 : Int32) (fun M17 => (q_pI M17 l0 2 10 (0 : Int32) (fun M18 => (q_pI M18 l0 2 11 (0 : Int32) (fun M19 => (q_pR M19 l0 2 0 (l1 + 1) (fun M20 => (q_pR M20 l0 2 1 (l2 + 1) (fun M21 => (q_pR M21 l0 2 2 (l3 + 1) (fun M22 => (if (0 : Int32) < (5 : Int32) then (q_gR M22 l0 2 4 (fun c23 => q_nn c23 (fun r24 => (q_nO M22 8 (fun k25 M26 => ((F_X8_init k25 M26).bind (fun x => match x with | (_, M28) => (q_tR M28 5 r24 (0 : Int32) 8 k25 (fun M29 => (if ((0 : Int32) + (1 : Int32)) < (5 : Int32) then (q_gR M29 l0 2 4 (fun c30 => q_nn c30 (fun r31 => (q_nO M29 8 (fun k32 M33 => ((F_X8_init k32 M33).bind (fun x => match x with | (_, M35) => (q_tR M35 5 r31 ((0 : Int32) + (1 : Int32)) 8 k32 (fun M36 => (if (((0 : Int32) + (1 : Int32)) + (1 : Int32)) < (5 : Int32) then (q_gR M36 l0 2 4 (fun c37 => q_nn c37 (fun r38 => (q_nO M36 8 (fun k39 M40 => ((F_X8_init k39 M40).bind (fun x => match x with | (_, M42) => (q_tR M42 5 r38 (((0 : Int32) + (1 : Int32)) + (1 : Int32)) 8 k39 (fun M43 => (if ((((0 : Int32) + (1 : Int32)) + (1 : Int32)) + (1 : Int32)) < (5 : Int32) then (q_gR M43 l0 2 4 (fun c44 => q_nn c44 (fun r45 => (q_nO M43 8 (fun k46 M47 => ((F_X8_init k46 M47).bind (fun x => match x with | (_, M49) => (q_tR M49 5 r45 ((((0 : Int32) + (1 : Int32)) + (1 : Int32)) + (1 : Int32)) 8 k46 (fun M50 => (if (((((0 : Int32) + (1 : Int32)) + (1 : Int32)) + (1 : Int32)) + (1 : Int32)) < (5 : Int32) then (q_gR M50 l0 2 4 (fun c51 => q_nn c51 (fun r52 => (q_nO M50 8 (fun k53 M54 => ((F_X8_init k53 M54).bind (fun x => match x with | (_, M56) => (q_tR M56 5 r52 (((((0 : Int32) + (1 : Int32)) + (1 : Int32)) + (1 : Int32)) + (1 : Int32)) 8 k53 (fun M57 => (if ((((((0 : Int32) + (1 : Int32)) + (1 : Int32)) + (1 : Int32)) + (1 : Int32)) + (1 : Int32)) < (5 : Int32) then none else some ((), M57))))))))))) else none)))))))))) else none)))))))))) else none)))))))))) else none)))))))))) else none)))))))))))))))))))))))))))))))))))
set_option maxRecDepth 100000 in
set_option maxHeartbeats 4000000 in
theorem c_X2_init (l : Launch) (G : q_G) (l0 : Nat) (l1 : Nat) (l2 : Nat) (l3 : Nat) (M : q_Mem) {r : Unit} {M' : q_Mem} (h : F_X2_init l0 l1 l2 l3 M = some (r, M')) : q_Met l G yX2_init cX2_init 5 (Option.none : Option Jvm.ClassFile.FieldType) 3 15 229 [.ref l0, .ref l1, .ref l2, .ref l3] M none M' := by
  unfold F_X2_init at h
  refine q_enter [some (.ref l0), some (.ref l1), some (.ref l2), some (.ref l3), none] (by decide) (Nat.le_of_ble_eq_true rfl) rfl (fun K C => ?_)
  refine q_aload_n C dX2_init_0 rfl ?_
  refine q_objI C dX2_init_1 wd_247 wd_33 wd_34 (by decide) (Nat.le_of_ble_eq_true rfl) ?_
  refine q_aload_n C dX2_init_4 rfl ?_
  refine x_new (ci := 8) C dX2_init_5 rfl clok_8 wd_248 wd_125 wd_5 df_8 h (by decide) (fun k1 M2 h => ?_)
  refine q_dup C dX2_init_8 rfl ?_
  obtain ⟨⟨_, M4⟩, e1, h⟩ := q_bind h
  refine x_callI C dX2_init_9 lkM_X2_13 mI_X8_init (c_X8_init _ _ _ _ e1) rfl rfl (Nat.le_of_ble_eq_true rfl) (by decide) (by decide) ?_
  refine x_putR (ci := 2) (j := 3) (k1 + 1) C dX2_init_12 lkF_X2_14 (fun r hr => by cases hr; exact Or.inr ⟨rfl, rfl, wd_254⟩) (Or.inl ⟨_, rfl⟩) rfl h (fun M5 h => ?_)
  refine q_aload_n C dX2_init_15 rfl ?_
  refine x_iconst (v := (5 : Int32)) C dX2_init_16 (by decide) ?_
  refine x_newq C dX2_init_17 wd_248 (by decide) (by decide) h (by decide) (fun k6 M7 h => ?_)
  refine x_putR (ci := 2) (j := 4) (k6 + 1) C dX2_init_20 lkF_X2_18 (fun r hr => by cases hr; exact Or.inr ⟨rfl, rfl, wd_255⟩) (Or.inr ⟨_, rfl⟩) rfl h (fun M8 h => ?_)
  refine q_aload_n C dX2_init_23 rfl ?_
  refine x_bipush (v := (16 : Int32)) C dX2_init_24 (by decide) ?_
  refine x_newa C dX2_init_26 (by simp) wd_103 (by decide) h (by decide) (fun k9 M10 h => ?_)
  refine x_putR (ci := 2) (j := 5) (k9 + 1) C dX2_init_28 lkF_X2_22 (fun r hr => by cases hr; exact Or.inr ⟨rfl, rfl, wd_256⟩) (Or.inr ⟨_, rfl⟩) rfl h (fun M11 h => ?_)
  refine q_aload_n C dX2_init_31 rfl ?_
  refine x_bipush (v := (16 : Int32)) C dX2_init_32 (by decide) ?_
  refine x_newa C dX2_init_34 (by simp) wd_103 (by decide) h (by decide) (fun k12 M13 h => ?_)
  refine x_putR (ci := 2) (j := 6) (k12 + 1) C dX2_init_36 lkF_X2_26 (fun r hr => by cases hr; exact Or.inr ⟨rfl, rfl, wd_257⟩) (Or.inr ⟨_, rfl⟩) rfl h (fun M14 h => ?_)
  refine q_aload_n C dX2_init_39 rfl ?_
  refine x_iconst (v := (0 : Int32)) C dX2_init_40 (by decide) ?_
  refine x_putI (ci := 2) (j := 7) C dX2_init_41 lkF_X2_29 (fun r hr => by cases hr; rfl) rfl h (fun M15 h => ?_)
  refine q_aload_n C dX2_init_44 rfl ?_
  refine x_iconst (v := (0 : Int32)) C dX2_init_45 (by decide) ?_
  refine x_putI (ci := 2) (j := 8) C dX2_init_46 lkF_X2_33 (fun r hr => by cases hr; rfl) rfl h (fun M16 h => ?_)
  refine q_aload_n C dX2_init_49 rfl ?_
  refine x_iconst (v := (0 : Int32)) C dX2_init_50 (by decide) ?_
  refine x_putI (ci := 2) (j := 9) C dX2_init_51 lkF_X2_36 (fun r hr => by cases hr; rfl) rfl h (fun M17 h => ?_)
  refine q_aload_n C dX2_init_54 rfl ?_
  refine x_iconst (v := (0 : Int32)) C dX2_init_55 (by decide) ?_
  refine x_putI (ci := 2) (j := 10) C dX2_init_56 lkF_X2_39 (fun r hr => by cases hr; rfl) rfl h (fun M18 h => ?_)
  refine q_aload_n C dX2_init_59 rfl ?_
  refine x_iconst (v := (0 : Int32)) C dX2_init_60 (by decide) ?_
  refine x_putI (ci := 2) (j := 11) C dX2_init_61 lkF_X2_42 (fun r hr => by cases hr; rfl) rfl h (fun M19 h => ?_)
  refine q_aload_n C dX2_init_64 rfl ?_
  refine q_aload_n C dX2_init_65 rfl ?_
  refine x_putR (ci := 2) (j := 0) (l1 + 1) C dX2_init_66 lkF_X2_45 (fun r hr => by cases hr; exact Or.inr ⟨rfl, rfl, wd_251⟩) (Or.inl ⟨_, rfl⟩) rfl h (fun M20 h => ?_)
  refine q_aload_n C dX2_init_69 rfl ?_
  refine q_aload_n C dX2_init_70 rfl ?_
  refine x_putR (ci := 2) (j := 1) (l2 + 1) C dX2_init_71 lkF_X2_49 (fun r hr => by cases hr; exact Or.inr ⟨rfl, rfl, wd_252⟩) (Or.inl ⟨_, rfl⟩) rfl h (fun M21 h => ?_)
  refine q_aload_n C dX2_init_74 rfl ?_
  refine q_aload_n C dX2_init_75 rfl ?_
  refine x_putR (ci := 2) (j := 2) (l3 + 1) C dX2_init_76 lkF_X2_53 (fun r hr => by cases hr; exact Or.inr ⟨rfl, rfl, wd_253⟩) (Or.inl ⟨_, rfl⟩) rfl h (fun M22 h => ?_)
  refine x_iconst (v := (0 : Int32)) C dX2_init_79 (by decide) ?_
  refine q_istore (L' := [some (.ref l0), some (.ref l1), some (.ref l2), some (.ref l3), some (.int (0 : Int32))]) C dX2_init_80 (by decide) rfl rfl ?_
  refine q_iload C dX2_init_82 rfl ?_
  refine x_iconst (v := (5 : Int32)) C dX2_init_84 (by decide) ?_
  refine q_icmp_ge (tgt := 108) C dX2_init_85 (by decide) h (fun _ h => ?_) (fun _ h => ?_)
  · refine q_aload_n C dX2_init_88 rfl ?_
    refine x_getR (ci := 2) (j := 4) C dX2_init_89 lkF_X2_18 rfl h (fun c23 h => ?_)
    refine x_nn h (fun r24 h => ?_)
    refine q_iload C dX2_init_92 rfl ?_
    refine x_new (ci := 8) C dX2_init_94 rfl clok_8 wd_248 wd_125 wd_5 df_8 h (by decide) (fun k25 M26 h => ?_)
    refine q_dup C dX2_init_97 rfl ?_
    obtain ⟨⟨_, M28⟩, e1, h⟩ := q_bind h
    refine x_callI C dX2_init_98 lkM_X2_13 mI_X8_init (c_X8_init _ _ _ _ e1) rfl rfl (Nat.le_of_ble_eq_true rfl) (by decide) (by decide) ?_
    refine x_aast C dX2_init_101 (by decide) h (fun M29 h => ?_)
    refine x_iinc (w := (1 : Int32)) (L' := [some (.ref l0), some (.ref l1), some (.ref l2), some (.ref l3), some (.int ((0 : Int32) + (1 : Int32)))]) C dX2_init_102 rfl (by decide) (by decide) rfl rfl ?_
    refine q_goto (tgt := 82) C dX2_init_105 (by decide) ?_
    refine q_iload C dX2_init_82 rfl ?_
    refine x_iconst (v := (5 : Int32)) C dX2_init_84 (by decide) ?_
    refine q_icmp_ge (tgt := 108) C dX2_init_85 (by decide) h (fun _ h => ?_) (fun _ h => ?_)
    · refine q_aload_n C dX2_init_88 rfl ?_
      refine x_getR (ci := 2) (j := 4) C dX2_init_89 lkF_X2_18 rfl h (fun c30 h => ?_)
      refine x_nn h (fun r31 h => ?_)
      refine q_iload C dX2_init_92 rfl ?_
      refine x_new (ci := 8) C dX2_init_94 rfl clok_8 wd_248 wd_125 wd_5 df_8 h (by decide) (fun k32 M33 h => ?_)
      refine q_dup C dX2_init_97 rfl ?_
      obtain ⟨⟨_, M35⟩, e1, h⟩ := q_bind h
      refine x_callI C dX2_init_98 lkM_X2_13 mI_X8_init (c_X8_init _ _ _ _ e1) rfl rfl (Nat.le_of_ble_eq_true rfl) (by decide) (by decide) ?_
      refine x_aast C dX2_init_101 (by decide) h (fun M36 h => ?_)
      refine x_iinc (w := (1 : Int32)) (L' := [some (.ref l0), some (.ref l1), some (.ref l2), some (.ref l3), some (.int (((0 : Int32) + (1 : Int32)) + (1 : Int32)))]) C dX2_init_102 rfl (by decide) (by decide) rfl rfl ?_
      refine q_goto (tgt := 82) C dX2_init_105 (by decide) ?_
      refine q_iload C dX2_init_82 rfl ?_
      refine x_iconst (v := (5 : Int32)) C dX2_init_84 (by decide) ?_
      refine q_icmp_ge (tgt := 108) C dX2_init_85 (by decide) h (fun _ h => ?_) (fun _ h => ?_)
      · refine q_aload_n C dX2_init_88 rfl ?_
        refine x_getR (ci := 2) (j := 4) C dX2_init_89 lkF_X2_18 rfl h (fun c37 h => ?_)
        refine x_nn h (fun r38 h => ?_)
        refine q_iload C dX2_init_92 rfl ?_
        refine x_new (ci := 8) C dX2_init_94 rfl clok_8 wd_248 wd_125 wd_5 df_8 h (by decide) (fun k39 M40 h => ?_)
        refine q_dup C dX2_init_97 rfl ?_
        obtain ⟨⟨_, M42⟩, e1, h⟩ := q_bind h
        refine x_callI C dX2_init_98 lkM_X2_13 mI_X8_init (c_X8_init _ _ _ _ e1) rfl rfl (Nat.le_of_ble_eq_true rfl) (by decide) (by decide) ?_
        refine x_aast C dX2_init_101 (by decide) h (fun M43 h => ?_)
        refine x_iinc (w := (1 : Int32)) (L' := [some (.ref l0), some (.ref l1), some (.ref l2), some (.ref l3), some (.int ((((0 : Int32) + (1 : Int32)) + (1 : Int32)) + (1 : Int32)))]) C dX2_init_102 rfl (by decide) (by decide) rfl rfl ?_
        refine q_goto (tgt := 82) C dX2_init_105 (by decide) ?_
        refine q_iload C dX2_init_82 rfl ?_
        refine x_iconst (v := (5 : Int32)) C dX2_init_84 (by decide) ?_
        refine q_icmp_ge (tgt := 108) C dX2_init_85 (by decide) h (fun _ h => ?_) (fun _ h => ?_)
        · refine q_aload_n C dX2_init_88 rfl ?_
          refine x_getR (ci := 2) (j := 4) C dX2_init_89 lkF_X2_18 rfl h (fun c44 h => ?_)
          refine x_nn h (fun r45 h => ?_)
          refine q_iload C dX2_init_92 rfl ?_
          refine x_new (ci := 8) C dX2_init_94 rfl clok_8 wd_248 wd_125 wd_5 df_8 h (by decide) (fun k46 M47 h => ?_)
          refine q_dup C dX2_init_97 rfl ?_
          obtain ⟨⟨_, M49⟩, e1, h⟩ := q_bind h
          refine x_callI C dX2_init_98 lkM_X2_13 mI_X8_init (c_X8_init _ _ _ _ e1) rfl rfl (Nat.le_of_ble_eq_true rfl) (by decide) (by decide) ?_
          refine x_aast C dX2_init_101 (by decide) h (fun M50 h => ?_)
          refine x_iinc (w := (1 : Int32)) (L' := [some (.ref l0), some (.ref l1), some (.ref l2), some (.ref l3), some (.int (((((0 : Int32) + (1 : Int32)) + (1 : Int32)) + (1 : Int32)) + (1 : Int32)))]) C dX2_init_102 rfl (by decide) (by decide) rfl rfl ?_
          refine q_goto (tgt := 82) C dX2_init_105 (by decide) ?_
          refine q_iload C dX2_init_82 rfl ?_
          refine x_iconst (v := (5 : Int32)) C dX2_init_84 (by decide) ?_
          refine q_icmp_ge (tgt := 108) C dX2_init_85 (by decide) h (fun _ h => ?_) (fun _ h => ?_)
          · refine q_aload_n C dX2_init_88 rfl ?_
            refine x_getR (ci := 2) (j := 4) C dX2_init_89 lkF_X2_18 rfl h (fun c51 h => ?_)
            refine x_nn h (fun r52 h => ?_)
            refine q_iload C dX2_init_92 rfl ?_
            refine x_new (ci := 8) C dX2_init_94 rfl clok_8 wd_248 wd_125 wd_5 df_8 h (by decide) (fun k53 M54 h => ?_)
            refine q_dup C dX2_init_97 rfl ?_
            obtain ⟨⟨_, M56⟩, e1, h⟩ := q_bind h
            refine x_callI C dX2_init_98 lkM_X2_13 mI_X8_init (c_X8_init _ _ _ _ e1) rfl rfl (Nat.le_of_ble_eq_true rfl) (by decide) (by decide) ?_
            refine x_aast C dX2_init_101 (by decide) h (fun M57 h => ?_)
            refine x_iinc (w := (1 : Int32)) (L' := [some (.ref l0), some (.ref l1), some (.ref l2), some (.ref l3), some (.int ((((((0 : Int32) + (1 : Int32)) + (1 : Int32)) + (1 : Int32)) + (1 : Int32)) + (1 : Int32)))]) C dX2_init_102 rfl (by decide) (by decide) rfl rfl ?_
            refine q_goto (tgt := 82) C dX2_init_105 (by decide) ?_
            refine q_iload C dX2_init_82 rfl ?_
            refine x_iconst (v := (5 : Int32)) C dX2_init_84 (by decide) ?_
            refine q_icmp_ge (tgt := 108) C dX2_init_85 (by decide) h (fun _ h => ?_) (fun _ h => ?_)
            · cases h
            · exact q_vret C dX2_init_108 rfl (by decide) (by decide) (Option.some.inj h)
          · cases h
        · cases h
      · cases h
    · cases h
  · cases h
noncomputable def F_X8_copyFrom (l0 : Nat) (l1 : Nat) (M : q_Mem) : Option (Unit × q_Mem) := (q_gR M l1 8 0 (fun c1 => q_nn c1 (fun r2 => (q_gR M l0 8 0 (fun c3 => q_nn c3 (fun r4 => (q_cp M r2 (0 : Int32) r4 (0 : Int32) (31 : Int32) (fun M5 => some ((), M5)))))))))
set_option maxRecDepth 100000 in
set_option maxHeartbeats 4000000 in
theorem c_X8_copyFrom (l : Launch) (G : q_G) (l0 : Nat) (l1 : Nat) (M : q_Mem) {r : Unit} {M' : q_Mem} (h : F_X8_copyFrom l0 l1 M = some (r, M')) : q_Met l G yX8_copyFrom cX8_copyFrom 2 (Option.none : Option Jvm.ClassFile.FieldType) 2 0 0 [.ref l0, .ref l1] M none M' := by
  unfold F_X8_copyFrom at h
  refine q_enter [some (.ref l0), some (.ref l1)] (by decide) (Nat.le_of_ble_eq_true rfl) rfl (fun K C => ?_)
  refine q_aload_n C dX8_copyFrom_0 rfl ?_
  refine x_getR (ci := 8) (j := 0) C dX8_copyFrom_1 lkF_X8_9 rfl h (fun c1 h => ?_)
  refine x_nn h (fun r2 h => ?_)
  refine x_iconst (v := (0 : Int32)) C dX8_copyFrom_4 (by decide) ?_
  refine q_aload_n C dX8_copyFrom_5 rfl ?_
  refine x_getR (ci := 8) (j := 0) C dX8_copyFrom_6 lkF_X8_9 rfl h (fun c3 h => ?_)
  refine x_nn h (fun r4 h => ?_)
  refine x_iconst (v := (0 : Int32)) C dX8_copyFrom_9 (by decide) ?_
  refine x_bipush (v := (31 : Int32)) C dX8_copyFrom_10 (by decide) ?_
  refine x_copy C dX8_copyFrom_12 wd_711 wd_626 wd_625 wd_19 (by decide) (Nat.le_of_ble_eq_true rfl) h (fun M5 h => ?_)
  exact q_vret C dX8_copyFrom_15 rfl (by decide) (by decide) (Option.some.inj h)
noncomputable def F_X10_ofStep (l0 : Nat) (l1 : Int32) (l2 : Int32) (M : q_Mem) : Option (Int32) := (if ((l1 * (3 : Int32)) + l2) < 0 then some (-1 : Int32) else (q_gR M l0 10 0 (fun c1 => q_nn c1 (fun r2 => (q_al M r2 (fun v3 => (if ((l1 * (3 : Int32)) + l2) < v3 then (q_gR M l0 10 0 (fun c4 => q_nn c4 (fun r5 => (q_lI M 0 r5 ((l1 * (3 : Int32)) + l2) (fun v6 => some v6))))) else some (-1 : Int32))))))))
set_option maxRecDepth 100000 in
set_option maxHeartbeats 4000000 in
theorem c_X10_ofStep (l : Launch) (G : q_G) (l0 : Nat) (l1 : Int32) (l2 : Int32) (M : q_Mem) {r : Int32} (h : F_X10_ofStep l0 l1 l2 M = some r) : q_Met l G yX10_ofStep cX10_ofStep 4 (Option.some Jvm.ClassFile.FieldType.int) 1 0 0 [.ref l0, .int l1, .int l2] M (some (.int r)) M := by
  unfold F_X10_ofStep at h
  refine q_enter [some (.ref l0), some (.int l1), some (.int l2), none] (by decide) (Nat.le_of_ble_eq_true rfl) rfl (fun K C => ?_)
  refine q_iload_n C dX10_ofStep_0 rfl ?_
  refine x_iconst (v := (3 : Int32)) C dX10_ofStep_1 (by decide) ?_
  refine q_imul C dX10_ofStep_2 ?_
  refine q_iload_n C dX10_ofStep_3 rfl ?_
  refine q_iadd C dX10_ofStep_4 ?_
  refine q_istore_n (L' := [some (.ref l0), some (.int l1), some (.int l2), some (.int ((l1 * (3 : Int32)) + l2))]) C dX10_ofStep_5 (by decide) rfl rfl ?_
  refine q_iload_n C dX10_ofStep_6 rfl ?_
  refine q_if_lt (tgt := 28) C dX10_ofStep_7 (by decide) h (fun _ h => ?_) (fun _ h => ?_)
  · refine x_iconst (v := (-1 : Int32)) C dX10_ofStep_28 (by decide) ?_
    exact q_iret (res := (r, M)) C dX10_ofStep_29 rfl (by decide) (by decide) (congrArg (fun z => (z, M)) (Option.some.inj h))
  · refine q_iload_n C dX10_ofStep_10 rfl ?_
    refine q_aload_n C dX10_ofStep_11 rfl ?_
    refine x_getR (ci := 10) (j := 0) C dX10_ofStep_12 lkF_X10_11 rfl h (fun c1 h => ?_)
    refine x_nn h (fun r2 h => ?_)
    refine x_alen C dX10_ofStep_15 h (fun v3 h => ?_)
    refine q_icmp_ge (tgt := 28) C dX10_ofStep_16 (by decide) h (fun _ h => ?_) (fun _ h => ?_)
    · refine q_aload_n C dX10_ofStep_19 rfl ?_
      refine x_getR (ci := 10) (j := 0) C dX10_ofStep_20 lkF_X10_11 rfl h (fun c4 h => ?_)
      refine x_nn h (fun r5 h => ?_)
      refine q_iload_n C dX10_ofStep_23 rfl ?_
      refine x_iald C dX10_ofStep_24 h (fun v6 h => ?_)
      refine q_goto (tgt := 29) C dX10_ofStep_25 (by decide) ?_
      exact q_iret (res := (r, M)) C dX10_ofStep_29 rfl (by decide) (by decide) (congrArg (fun z => (z, M)) (Option.some.inj h))
    · refine x_iconst (v := (-1 : Int32)) C dX10_ofStep_28 (by decide) ?_
      exact q_iret (res := (r, M)) C dX10_ofStep_29 rfl (by decide) (by decide) (congrArg (fun z => (z, M)) (Option.some.inj h))
noncomputable def B_X8_joyOfAll_4 (l0 : Nat) (l1 : Int32) (l2 : Int32) (M : q_Mem) : Option ((Int32 × Int32) ⊕ (Int32)) := (if l2 < (6 : Int32) then (q_gR M l0 8 0 (fun c1 => q_nn c1 (fun r2 => (q_lI M 0 r2 ((25 : Int32) + l2) (fun v3 => some (.inl ((l1 + v3), (l2 + (1 : Int32))))))))) else some (.inr l1))
set_option maxRecDepth 100000 in
set_option maxHeartbeats 4000000 in
theorem bW_X8_joyOfAll_4 {K : q_K} {Q : State → Prop} (C : q_C K yX8_joyOfAll cX8_joyOfAll 3 (Option.some Jvm.ClassFile.FieldType.int) 1 0 0) (l0 : Nat) (l1 : Int32) (l2 : Int32) (M : q_Mem) {stp : (Int32 × Int32) ⊕ (Int32)} (h : B_X8_joyOfAll_4 l0 l1 l2 M = some stp) (kC : ∀ (l1 : Int32) (l2 : Int32), stp = .inl (l1, l2) → q_W K 3 Q 0 0 M 4 [some (.ref l0), some (.int l1), some (.int l2)] []) (kE0 : ∀ (l1 : Int32), stp = .inr l1 → q_W K 3 Q 0 0 M 28 [none, some (.int l1), none] []) : q_W K 3 Q 0 0 M 4 [some (.ref l0), some (.int l1), some (.int l2)] [] := by
  unfold B_X8_joyOfAll_4 at h
  refine q_iload_n C dX8_joyOfAll_4 rfl ?_
  refine x_bipush (v := (6 : Int32)) C dX8_joyOfAll_5 (by decide) ?_
  refine q_icmp_ge (tgt := 28) C dX8_joyOfAll_7 (by decide) h (fun _ h => ?_) (fun _ h => ?_)
  · refine q_iload_n C dX8_joyOfAll_10 rfl ?_
    refine q_aload_n C dX8_joyOfAll_11 rfl ?_
    refine x_getR (ci := 8) (j := 0) C dX8_joyOfAll_12 lkF_X8_9 rfl h (fun c1 h => ?_)
    refine x_nn h (fun r2 h => ?_)
    refine x_bipush (v := (25 : Int32)) C dX8_joyOfAll_15 (by decide) ?_
    refine q_iload_n C dX8_joyOfAll_17 rfl ?_
    refine q_iadd C dX8_joyOfAll_18 ?_
    refine x_iald C dX8_joyOfAll_19 h (fun v3 h => ?_)
    refine q_iadd C dX8_joyOfAll_20 ?_
    refine q_istore_n (L' := [some (.ref l0), some (.int (l1 + v3)), some (.int l2)]) C dX8_joyOfAll_21 (by decide) rfl rfl ?_
    refine x_iinc (w := (1 : Int32)) (L' := [some (.ref l0), some (.int (l1 + v3)), some (.int (l2 + (1 : Int32)))]) C dX8_joyOfAll_22 rfl (by decide) (by decide) rfl rfl ?_
    refine q_goto (tgt := 4) C dX8_joyOfAll_25 (by decide) ?_
    exact q_msk [true, true, true] (kC _ _ (Option.some.inj h).symm)
  · exact q_msk [false, true, false] (kE0 _ (Option.some.inj h).symm)
set_option maxRecDepth 100000 in
set_option maxHeartbeats 4000000 in
theorem lW_X8_joyOfAll_4 {K : q_K} {Q : State → Prop} (C : q_C K yX8_joyOfAll cX8_joyOfAll 3 (Option.some Jvm.ClassFile.FieldType.int) 1 0 0) (l0 : Nat) (M : q_Mem) (n : Nat) : ∀ (l1 : Int32) (l2 : Int32) (e : (Int32)), q_lp (fun s => B_X8_joyOfAll_4 l0 s.1 s.2 M) n (l1, l2) = some e → (∀ (l1 : Int32), e = l1 → q_W K 3 Q 0 0 M 28 [none, some (.int l1), none] []) → q_W K 3 Q 0 0 M 4 [some (.ref l0), some (.int l1), some (.int l2)] [] := by
  induction n with
  | zero => intro l1 l2 e h; cases h
  | succ n ih =>
    intro l1 l2 e h kE0
    obtain ⟨stp, e1, e2⟩ := q_bind h
    refine bW_X8_joyOfAll_4 C l0 l1 l2 M e1 (fun a0 a1 hs => ?_) (fun b0 hs => ?_)
    · subst hs; exact ih _ _ _ e2 kE0
    · subst hs; exact kE0 _ (Option.some.inj e2).symm
noncomputable def F_X8_joyOfAll (l0 : Nat) (M : q_Mem) : Option (Int32) := (q_lp (fun s => B_X8_joyOfAll_4 l0 s.1 s.2 M) q_fu ((0 : Int32), (0 : Int32))).bind (fun e4 => match e4 with | w5 => some w5)
set_option maxRecDepth 100000 in
set_option maxHeartbeats 4000000 in
theorem c_X8_joyOfAll (l : Launch) (G : q_G) (l0 : Nat) (M : q_Mem) {r : Int32} (h : F_X8_joyOfAll l0 M = some r) : q_Met l G yX8_joyOfAll cX8_joyOfAll 3 (Option.some Jvm.ClassFile.FieldType.int) 1 0 0 [.ref l0] M (some (.int r)) M := by
  unfold F_X8_joyOfAll at h
  refine q_enter [some (.ref l0), none, none] (by decide) (Nat.le_of_ble_eq_true rfl) rfl (fun K C => ?_)
  refine x_iconst (v := (0 : Int32)) C dX8_joyOfAll_0 (by decide) ?_
  refine q_istore_n (L' := [some (.ref l0), some (.int (0 : Int32)), none]) C dX8_joyOfAll_1 (by decide) rfl rfl ?_
  refine x_iconst (v := (0 : Int32)) C dX8_joyOfAll_2 (by decide) ?_
  refine q_istore_n (L' := [some (.ref l0), some (.int (0 : Int32)), some (.int (0 : Int32))]) C dX8_joyOfAll_3 (by decide) rfl rfl ?_
  obtain ⟨e4, he, h⟩ := q_bind h
  refine q_msk [true, true, true] (lW_X8_joyOfAll_4 C l0 M q_fu _ _ _ he (fun w5 hs => ?_))
  · have hs := hs.symm
    subst hs
    refine q_iload_n C dX8_joyOfAll_28 rfl ?_
    exact q_iret (res := (r, M)) C dX8_joyOfAll_29 rfl (by decide) (by decide) (congrArg (fun z => (z, M)) (Option.some.inj h))
noncomputable def B_X2_stepsDone_13 (l0 : Nat) (l1 : Nat) (l2 : Nat) (l3 : Int32) (l4 : Int32) (M : q_Mem) : Option ((Int32 × Int32 × q_Mem) ⊕ ((Int32 × q_Mem) ⊕ (Int32 × q_Mem))) := (q_gI M l2 10 1 (fun v5 => (if l4 < v5 then (q_gR M l0 2 2 (fun c6 => q_nn c6 (fun r7 => (q_gR M l0 2 3 (fun c8 => q_nn c8 (fun r9 => (q_ob M l2 10 ((F_X10_ofStep l2 l4 (0 : Int32) M).bind (fun u10 => (q_ob M l2 10 ((F_X10_ofStep l2 l4 (1 : Int32) M).bind (fun u11 => (q_ob M l2 10 ((F_X10_ofStep l2 l4 (2 : Int32) M).bind (fun u12 => (q_ob M r7 0 ((F_X0_carryOut r7 r9 u10 u11 u12 M).bind (fun x => match x with | (u13, M14) => (if u13 = 0 then some (.inr (.inl (l3, M14))) else some (.inl ((l3 + (1 : Int32)), (l4 + (1 : Int32)), M14))))))))))))))))))))) else some (.inr (.inr (l3, M))))))
set_option maxRecDepth 100000 in
set_option maxHeartbeats 4000000 in
theorem bW_X2_stepsDone_13 {K : q_K} {Q : State → Prop} (C : q_C K yX2_stepsDone cX2_stepsDone 5 (Option.some Jvm.ClassFile.FieldType.int) 7 0 0) (l0 : Nat) (l1 : Nat) (l2 : Nat) (l3 : Int32) (l4 : Int32) (M : q_Mem) {stp : (Int32 × Int32 × q_Mem) ⊕ ((Int32 × q_Mem) ⊕ (Int32 × q_Mem))} (h : B_X2_stepsDone_13 l0 l1 l2 l3 l4 M = some stp) (kC : ∀ (l3 : Int32) (l4 : Int32) (M : q_Mem), stp = .inl (l3, l4, M) → q_W K 5 Q 0 0 M 13 [some (.ref l0), some (.ref l1), some (.ref l2), some (.int l3), some (.int l4)] []) (kE0 : ∀ (l3 : Int32) (M : q_Mem), stp = .inr (.inl (l3, M)) → q_W K 5 Q 0 0 M 57 [some (.ref l0), some (.ref l1), none, some (.int l3), none] []) (kE1 : ∀ (l3 : Int32) (M : q_Mem), stp = .inr (.inr (l3, M)) → q_W K 5 Q 0 0 M 69 [some (.ref l0), some (.ref l1), none, some (.int l3), none] []) : q_W K 5 Q 0 0 M 13 [some (.ref l0), some (.ref l1), some (.ref l2), some (.int l3), some (.int l4)] [] := by
  unfold B_X2_stepsDone_13 at h
  refine q_iload C dX2_stepsDone_13 rfl ?_
  refine q_aload_n C dX2_stepsDone_15 rfl ?_
  refine x_getI (ci := 10) (j := 1) C dX2_stepsDone_16 lkF_X2_61 rfl h (fun v5 h => ?_)
  refine q_icmp_ge (tgt := 69) C dX2_stepsDone_19 (by decide) h (fun _ h => ?_) (fun _ h => ?_)
  · refine q_aload_n C dX2_stepsDone_22 rfl ?_
    refine x_getR (ci := 2) (j := 2) C dX2_stepsDone_23 lkF_X2_53 rfl h (fun c6 h => ?_)
    refine x_nn h (fun r7 h => ?_)
    refine q_aload_n C dX2_stepsDone_26 rfl ?_
    refine x_getR (ci := 2) (j := 3) C dX2_stepsDone_27 lkF_X2_14 rfl h (fun c8 h => ?_)
    refine x_nn h (fun r9 h => ?_)
    refine q_aload_n C dX2_stepsDone_30 rfl ?_
    refine q_iload C dX2_stepsDone_31 rfl ?_
    refine x_iconst (v := (0 : Int32)) C dX2_stepsDone_33 (by decide) ?_
    obtain ⟨hk, h⟩ := q_obE h
    obtain ⟨u10, e1, h⟩ := q_bind h
    refine x_callV0 C dX2_stepsDone_34 lkM_X2_66 mV_X10_ofStep ⟨_, rfl, rfl⟩ hk (c_X10_ofStep _ _ _ _ _ _ e1) rfl rfl (Nat.le_of_ble_eq_true rfl) (by decide) (by decide) ?_
    refine q_aload_n C dX2_stepsDone_37 rfl ?_
    refine q_iload C dX2_stepsDone_38 rfl ?_
    refine x_iconst (v := (1 : Int32)) C dX2_stepsDone_40 (by decide) ?_
    obtain ⟨hk, h⟩ := q_obE h
    obtain ⟨u11, e1, h⟩ := q_bind h
    refine x_callV0 C dX2_stepsDone_41 lkM_X2_66 mV_X10_ofStep ⟨_, rfl, rfl⟩ hk (c_X10_ofStep _ _ _ _ _ _ e1) rfl rfl (Nat.le_of_ble_eq_true rfl) (by decide) (by decide) ?_
    refine q_aload_n C dX2_stepsDone_44 rfl ?_
    refine q_iload C dX2_stepsDone_45 rfl ?_
    refine x_iconst (v := (2 : Int32)) C dX2_stepsDone_47 (by decide) ?_
    obtain ⟨hk, h⟩ := q_obE h
    obtain ⟨u12, e1, h⟩ := q_bind h
    refine x_callV0 C dX2_stepsDone_48 lkM_X2_66 mV_X10_ofStep ⟨_, rfl, rfl⟩ hk (c_X10_ofStep _ _ _ _ _ _ e1) rfl rfl (Nat.le_of_ble_eq_true rfl) (by decide) (by decide) ?_
    obtain ⟨hk, h⟩ := q_obE h
    obtain ⟨⟨u13, M14⟩, e1, h⟩ := q_bind h
    refine x_callV0 C dX2_stepsDone_51 lkM_X2_70 mV_X0_carryOut ⟨_, rfl, rfl⟩ hk (c_X0_carryOut _ _ _ _ _ _ _ _ e1) rfl rfl (Nat.le_of_ble_eq_true rfl) (by decide) (by decide) ?_
    refine q_if_ne (tgt := 60) C dX2_stepsDone_54 (by decide) h (fun _ h => ?_) (fun _ h => ?_)
    · exact q_msk [true, true, false, true, false] (kE0 _ _ (Option.some.inj h).symm)
    · refine x_iinc (w := (1 : Int32)) (L' := [some (.ref l0), some (.ref l1), some (.ref l2), some (.int (l3 + (1 : Int32))), some (.int l4)]) C dX2_stepsDone_60 rfl (by decide) (by decide) rfl rfl ?_
      refine x_iinc (w := (1 : Int32)) (L' := [some (.ref l0), some (.ref l1), some (.ref l2), some (.int (l3 + (1 : Int32))), some (.int (l4 + (1 : Int32)))]) C dX2_stepsDone_63 rfl (by decide) (by decide) rfl rfl ?_
      refine q_goto (tgt := 13) C dX2_stepsDone_66 (by decide) ?_
      exact q_msk [true, true, true, true, true] (kC _ _ _ (Option.some.inj h).symm)
  · exact q_msk [true, true, false, true, false] (kE1 _ _ (Option.some.inj h).symm)
set_option maxRecDepth 100000 in
set_option maxHeartbeats 4000000 in
theorem lW_X2_stepsDone_13 {K : q_K} {Q : State → Prop} (C : q_C K yX2_stepsDone cX2_stepsDone 5 (Option.some Jvm.ClassFile.FieldType.int) 7 0 0) (l0 : Nat) (l1 : Nat) (l2 : Nat) (n : Nat) : ∀ (l3 : Int32) (l4 : Int32) (M : q_Mem) (e : ((Int32 × q_Mem) ⊕ (Int32 × q_Mem))), q_lp (fun s => B_X2_stepsDone_13 l0 l1 l2 s.1 s.2.1 s.2.2) n (l3, l4, M) = some e → (∀ (l3 : Int32) (M : q_Mem), e = (.inl (l3, M)) → q_W K 5 Q 0 0 M 57 [some (.ref l0), some (.ref l1), none, some (.int l3), none] []) → (∀ (l3 : Int32) (M : q_Mem), e = (.inr (l3, M)) → q_W K 5 Q 0 0 M 69 [some (.ref l0), some (.ref l1), none, some (.int l3), none] []) → q_W K 5 Q 0 0 M 13 [some (.ref l0), some (.ref l1), some (.ref l2), some (.int l3), some (.int l4)] [] := by
  induction n with
  | zero => intro l3 l4 M e h; cases h
  | succ n ih =>
    intro l3 l4 M e h kE0 kE1
    obtain ⟨stp, e1, e2⟩ := q_bind h
    refine bW_X2_stepsDone_13 C l0 l1 l2 l3 l4 M e1 (fun a0 a1 a2 hs => ?_) (fun b0 b1 hs => ?_) (fun b0 b1 hs => ?_)
    · subst hs; exact ih _ _ _ _ e2 kE0 kE1
    · subst hs; exact kE0 _ _ (Option.some.inj e2).symm
    · subst hs; exact kE1 _ _ (Option.some.inj e2).symm
noncomputable def J_X2_stepsDone_69 (l0 : Nat) (l1 : Nat) (l3 : Int32) (M : q_Mem) : Option (Int32 × q_Mem) := (q_gR M l0 2 3 (fun c18 => q_nn c18 (fun r19 => (q_ob M r19 8 ((F_X8_joyOfAll r19 M).bind (fun u20 => (q_ob M l1 8 ((F_X8_joyOfAll l1 M).bind (fun u21 => (q_pI M l0 2 7 (u20 - u21) (fun M22 => some (l3, M22))))))))))))
set_option maxRecDepth 100000 in
set_option maxHeartbeats 4000000 in
theorem jW_X2_stepsDone_69 {K : q_K} (C : q_C K yX2_stepsDone cX2_stepsDone 5 (Option.some Jvm.ClassFile.FieldType.int) 7 0 0) (l0 : Nat) (l1 : Nat) (l3 : Int32) (M : q_Mem) {r : Int32} {M' : q_Mem} (h : J_X2_stepsDone_69 l0 l1 l3 M = some (r, M')) : q_W K 5 (q_Q K (some (.int r)) M' 0 0) 0 0 M 69 [some (.ref l0), some (.ref l1), none, some (.int l3), none] [] := by
  unfold J_X2_stepsDone_69 at h
  refine q_aload_n C dX2_stepsDone_69 rfl ?_
  refine q_aload_n C dX2_stepsDone_70 rfl ?_
  refine x_getR (ci := 2) (j := 3) C dX2_stepsDone_71 lkF_X2_14 rfl h (fun c18 h => ?_)
  refine x_nn h (fun r19 h => ?_)
  obtain ⟨hk, h⟩ := q_obE h
  obtain ⟨u20, e1, h⟩ := q_bind h
  refine x_callV0 C dX2_stepsDone_74 lkM_X2_76 mV_X8_joyOfAll ⟨_, rfl, rfl⟩ hk (c_X8_joyOfAll _ _ _ _ e1) rfl rfl (Nat.le_of_ble_eq_true rfl) (by decide) (by decide) ?_
  refine q_aload_n C dX2_stepsDone_77 rfl ?_
  obtain ⟨hk, h⟩ := q_obE h
  obtain ⟨u21, e1, h⟩ := q_bind h
  refine x_callV0 C dX2_stepsDone_78 lkM_X2_76 mV_X8_joyOfAll ⟨_, rfl, rfl⟩ hk (c_X8_joyOfAll _ _ _ _ e1) rfl rfl (Nat.le_of_ble_eq_true rfl) (by decide) (by decide) ?_
  refine q_isub C dX2_stepsDone_81 ?_
  refine x_putI (ci := 2) (j := 7) C dX2_stepsDone_82 lkF_X2_29 (fun r hr => by cases hr; rfl) rfl h (fun M22 h => ?_)
  refine q_iload_n C dX2_stepsDone_85 rfl ?_
  exact q_iret C dX2_stepsDone_86 rfl (by decide) (by decide) (Option.some.inj h)
noncomputable def F_X2_stepsDone (l0 : Nat) (l1 : Nat) (l2 : Nat) (M : q_Mem) : Option (Int32 × q_Mem) := (q_gR M l0 2 3 (fun c1 => q_nn c1 (fun r2 => (q_ob M r2 8 ((F_X8_copyFrom r2 l1 M).bind (fun x => match x with | (_, M4) => (q_lp (fun s => B_X2_stepsDone_13 l0 l1 l2 s.1 s.2.1 s.2.2) q_fu ((0 : Int32), (0 : Int32), M4)).bind (fun e15 => match e15 with | .inl (w16, M17) => J_X2_stepsDone_69 l0 l1 w16 M17 | .inr (w23, M24) => J_X2_stepsDone_69 l0 l1 w23 M24)))))))
set_option maxRecDepth 100000 in
set_option maxHeartbeats 4000000 in
theorem c_X2_stepsDone (l : Launch) (G : q_G) (l0 : Nat) (l1 : Nat) (l2 : Nat) (M : q_Mem) {r : Int32} {M' : q_Mem} (h : F_X2_stepsDone l0 l1 l2 M = some (r, M')) : q_Met l G yX2_stepsDone cX2_stepsDone 5 (Option.some Jvm.ClassFile.FieldType.int) 7 0 0 [.ref l0, .ref l1, .ref l2] M (some (.int r)) M' := by
  unfold F_X2_stepsDone at h
  refine q_enter [some (.ref l0), some (.ref l1), some (.ref l2), none, none] (by decide) (Nat.le_of_ble_eq_true rfl) rfl (fun K C => ?_)
  refine q_aload_n C dX2_stepsDone_0 rfl ?_
  refine x_getR (ci := 2) (j := 3) C dX2_stepsDone_1 lkF_X2_14 rfl h (fun c1 h => ?_)
  refine x_nn h (fun r2 h => ?_)
  refine q_aload_n C dX2_stepsDone_4 rfl ?_
  obtain ⟨hk, h⟩ := q_obE h
  obtain ⟨⟨_, M4⟩, e1, h⟩ := q_bind h
  refine x_callVv0 C dX2_stepsDone_5 lkM_X2_57 mV_X8_copyFrom ⟨_, rfl, rfl⟩ hk (c_X8_copyFrom _ _ _ _ _ e1) rfl rfl (Nat.le_of_ble_eq_true rfl) (by decide) (by decide) ?_
  refine x_iconst (v := (0 : Int32)) C dX2_stepsDone_8 (by decide) ?_
  refine q_istore_n (L' := [some (.ref l0), some (.ref l1), some (.ref l2), some (.int (0 : Int32)), none]) C dX2_stepsDone_9 (by decide) rfl rfl ?_
  refine x_iconst (v := (0 : Int32)) C dX2_stepsDone_10 (by decide) ?_
  refine q_istore (L' := [some (.ref l0), some (.ref l1), some (.ref l2), some (.int (0 : Int32)), some (.int (0 : Int32))]) C dX2_stepsDone_11 (by decide) rfl rfl ?_
  obtain ⟨e15, he, h⟩ := q_bind h
  refine q_msk [true, true, true, true, true] (lW_X2_stepsDone_13 C l0 l1 l2 q_fu _ _ _ _ he (fun w16 M17 hs => ?_) (fun w23 M24 hs => ?_))
  · have hs := hs.symm
    subst hs
    refine q_goto (tgt := 69) C dX2_stepsDone_57 (by decide) ?_
    exact q_msk [true, true, false, true, false] (jW_X2_stepsDone_69 C l0 l1 w16 M17 h)
  · have hs := hs.symm
    subst hs
    exact q_msk [true, true, false, true, false] (jW_X2_stepsDone_69 C l0 l1 w23 M24 h)
noncomputable def B_X2_layAhead_10 (l0 : Nat) (l2 : Int32) (l3 : Int32) (M : q_Mem) : Option ((Int32 × q_Mem) ⊕ (q_Mem)) := (if l3 < l2 then (q_gR M l0 2 1 (fun c5 => q_nn c5 (fun r6 => (q_gR M l0 2 3 (fun c7 => q_nn c7 (fun r8 => (q_ob M r6 1 ((F_X1_pass r6 r8 M).bind (fun x => match x with | (_, M10) => some (.inl ((l3 + (1 : Int32)), M10))))))))))) else some (.inr M))
set_option maxRecDepth 100000 in
set_option maxHeartbeats 4000000 in
theorem bW_X2_layAhead_10 {K : q_K} {Q : State → Prop} (C : q_C K yX2_layAhead cX2_layAhead 4 (Option.none : Option Jvm.ClassFile.FieldType) 6 0 0) (l0 : Nat) (l2 : Int32) (l3 : Int32) (M : q_Mem) {stp : (Int32 × q_Mem) ⊕ (q_Mem)} (h : B_X2_layAhead_10 l0 l2 l3 M = some stp) (kC : ∀ (l3 : Int32) (M : q_Mem), stp = .inl (l3, M) → q_W K 4 Q 0 0 M 10 [some (.ref l0), none, some (.int l2), some (.int l3)] []) (kE0 : ∀ (M : q_Mem), stp = .inr M → q_W K 4 Q 0 0 M 32 [some (.ref l0), none, none, none] []) : q_W K 4 Q 0 0 M 10 [some (.ref l0), none, some (.int l2), some (.int l3)] [] := by
  unfold B_X2_layAhead_10 at h
  refine q_iload_n C dX2_layAhead_10 rfl ?_
  refine q_iload_n C dX2_layAhead_11 rfl ?_
  refine q_icmp_ge (tgt := 32) C dX2_layAhead_12 (by decide) h (fun _ h => ?_) (fun _ h => ?_)
  · refine q_aload_n C dX2_layAhead_15 rfl ?_
    refine x_getR (ci := 2) (j := 1) C dX2_layAhead_16 lkF_X2_49 rfl h (fun c5 h => ?_)
    refine x_nn h (fun r6 h => ?_)
    refine q_aload_n C dX2_layAhead_19 rfl ?_
    refine x_getR (ci := 2) (j := 3) C dX2_layAhead_20 lkF_X2_14 rfl h (fun c7 h => ?_)
    refine x_nn h (fun r8 h => ?_)
    obtain ⟨hk, h⟩ := q_obE h
    obtain ⟨⟨_, M10⟩, e1, h⟩ := q_bind h
    refine x_callVv0 C dX2_layAhead_23 lkM_X2_80 mV_X1_pass ⟨_, rfl, rfl⟩ hk (c_X1_pass _ _ _ _ _ e1) rfl rfl (Nat.le_of_ble_eq_true rfl) (by decide) (by decide) ?_
    refine x_iinc (w := (1 : Int32)) (L' := [some (.ref l0), none, some (.int l2), some (.int (l3 + (1 : Int32)))]) C dX2_layAhead_26 rfl (by decide) (by decide) rfl rfl ?_
    refine q_goto (tgt := 10) C dX2_layAhead_29 (by decide) ?_
    exact q_msk [true, false, true, true] (kC _ _ (Option.some.inj h).symm)
  · exact q_msk [true, false, false, false] (kE0 _ (Option.some.inj h).symm)
set_option maxRecDepth 100000 in
set_option maxHeartbeats 4000000 in
theorem lW_X2_layAhead_10 {K : q_K} {Q : State → Prop} (C : q_C K yX2_layAhead cX2_layAhead 4 (Option.none : Option Jvm.ClassFile.FieldType) 6 0 0) (l0 : Nat) (l2 : Int32) (n : Nat) : ∀ (l3 : Int32) (M : q_Mem) (e : (q_Mem)), q_lp (fun s => B_X2_layAhead_10 l0 l2 s.1 s.2) n (l3, M) = some e → (∀ (M : q_Mem), e = M → q_W K 4 Q 0 0 M 32 [some (.ref l0), none, none, none] []) → q_W K 4 Q 0 0 M 10 [some (.ref l0), none, some (.int l2), some (.int l3)] [] := by
  induction n with
  | zero => intro l3 M e h; cases h
  | succ n ih =>
    intro l3 M e h kE0
    obtain ⟨stp, e1, e2⟩ := q_bind h
    refine bW_X2_layAhead_10 C l0 l2 l3 M e1 (fun a0 a1 hs => ?_) (fun b0 hs => ?_)
    · subst hs; exact ih _ _ _ e2 kE0
    · subst hs; exact kE0 _ (Option.some.inj e2).symm
noncomputable def F_X2_layAhead (l0 : Nat) (l1 : Nat) (l2 : Int32) (M : q_Mem) : Option (Unit × q_Mem) := (q_gR M l0 2 3 (fun c1 => q_nn c1 (fun r2 => (q_ob M r2 8 ((F_X8_copyFrom r2 l1 M).bind (fun x => match x with | (_, M4) => (q_lp (fun s => B_X2_layAhead_10 l0 l2 s.1 s.2) q_fu ((0 : Int32), M4)).bind (fun e11 => match e11 with | M12 => (q_gR M12 l0 2 1 (fun c13 => q_nn c13 (fun r14 => (q_gR M12 l0 2 3 (fun c15 => q_nn c15 (fun r16 => (q_ob M12 r14 1 ((F_X1_lay r14 r16 M12).bind (fun x => match x with | (_, M18) => some ((), M18)))))))))))))))))
set_option maxRecDepth 100000 in
set_option maxHeartbeats 4000000 in
theorem c_X2_layAhead (l : Launch) (G : q_G) (l0 : Nat) (l1 : Nat) (l2 : Int32) (M : q_Mem) {r : Unit} {M' : q_Mem} (h : F_X2_layAhead l0 l1 l2 M = some (r, M')) : q_Met l G yX2_layAhead cX2_layAhead 4 (Option.none : Option Jvm.ClassFile.FieldType) 6 0 0 [.ref l0, .ref l1, .int l2] M none M' := by
  unfold F_X2_layAhead at h
  refine q_enter [some (.ref l0), some (.ref l1), some (.int l2), none] (by decide) (Nat.le_of_ble_eq_true rfl) rfl (fun K C => ?_)
  refine q_aload_n C dX2_layAhead_0 rfl ?_
  refine x_getR (ci := 2) (j := 3) C dX2_layAhead_1 lkF_X2_14 rfl h (fun c1 h => ?_)
  refine x_nn h (fun r2 h => ?_)
  refine q_aload_n C dX2_layAhead_4 rfl ?_
  obtain ⟨hk, h⟩ := q_obE h
  obtain ⟨⟨_, M4⟩, e1, h⟩ := q_bind h
  refine x_callVv0 C dX2_layAhead_5 lkM_X2_57 mV_X8_copyFrom ⟨_, rfl, rfl⟩ hk (c_X8_copyFrom _ _ _ _ _ e1) rfl rfl (Nat.le_of_ble_eq_true rfl) (by decide) (by decide) ?_
  refine x_iconst (v := (0 : Int32)) C dX2_layAhead_8 (by decide) ?_
  refine q_istore_n (L' := [some (.ref l0), some (.ref l1), some (.int l2), some (.int (0 : Int32))]) C dX2_layAhead_9 (by decide) rfl rfl ?_
  obtain ⟨e11, he, h⟩ := q_bind h
  refine q_msk [true, false, true, true] (lW_X2_layAhead_10 C l0 l2 q_fu _ _ _ he (fun M12 hs => ?_))
  · have hs := hs.symm
    subst hs
    refine q_aload_n C dX2_layAhead_32 rfl ?_
    refine x_getR (ci := 2) (j := 1) C dX2_layAhead_33 lkF_X2_49 rfl h (fun c13 h => ?_)
    refine x_nn h (fun r14 h => ?_)
    refine q_aload_n C dX2_layAhead_36 rfl ?_
    refine x_getR (ci := 2) (j := 3) C dX2_layAhead_37 lkF_X2_14 rfl h (fun c15 h => ?_)
    refine x_nn h (fun r16 h => ?_)
    obtain ⟨hk, h⟩ := q_obE h
    obtain ⟨⟨_, M18⟩, e1, h⟩ := q_bind h
    refine x_callVv0 C dX2_layAhead_40 lkM_X2_85 mV_X1_lay ⟨_, rfl, rfl⟩ hk (c_X1_lay _ _ _ _ _ e1) rfl rfl (Nat.le_of_ble_eq_true rfl) (by decide) (by decide) ?_
    exact q_vret C dX2_layAhead_43 rfl (by decide) (by decide) (Option.some.inj h)
noncomputable def F_X2_weighRow (l0 : Nat) (l1 : Int32) (l2 : Int32) (M : q_Mem) : Option (Unit × q_Mem) := (q_gI M l0 2 9 (fun v1 => (if v1 < l2 then (q_pI M l0 2 9 l2 (fun M2 => (q_pI M2 l0 2 8 l1 (fun M3 => some ((), M3))))) else some ((), M))))
set_option maxRecDepth 100000 in
set_option maxHeartbeats 4000000 in
theorem c_X2_weighRow (l : Launch) (G : q_G) (l0 : Nat) (l1 : Int32) (l2 : Int32) (M : q_Mem) {r : Unit} {M' : q_Mem} (h : F_X2_weighRow l0 l1 l2 M = some (r, M')) : q_Met l G yX2_weighRow cX2_weighRow 3 (Option.none : Option Jvm.ClassFile.FieldType) 1 0 0 [.ref l0, .int l1, .int l2] M none M' := by
  unfold F_X2_weighRow at h
  refine q_enter [some (.ref l0), some (.int l1), some (.int l2)] (by decide) (Nat.le_of_ble_eq_true rfl) rfl (fun K C => ?_)
  refine q_iload_n C dX2_weighRow_0 rfl ?_
  refine q_aload_n C dX2_weighRow_1 rfl ?_
  refine x_getI (ci := 2) (j := 9) C dX2_weighRow_2 lkF_X2_36 rfl h (fun v1 h => ?_)
  refine q_icmp_le (tgt := 18) C dX2_weighRow_5 (by decide) h (fun _ h => ?_) (fun _ h => ?_)
  · refine q_aload_n C dX2_weighRow_8 rfl ?_
    refine q_iload_n C dX2_weighRow_9 rfl ?_
    refine x_putI (ci := 2) (j := 9) C dX2_weighRow_10 lkF_X2_36 (fun r hr => by cases hr; rfl) rfl h (fun M2 h => ?_)
    refine q_aload_n C dX2_weighRow_13 rfl ?_
    refine q_iload_n C dX2_weighRow_14 rfl ?_
    refine x_putI (ci := 2) (j := 8) C dX2_weighRow_15 lkF_X2_33 (fun r hr => by cases hr; rfl) rfl h (fun M3 h => ?_)
    exact q_vret C dX2_weighRow_18 rfl (by decide) (by decide) (Option.some.inj h)
  · exact q_vret C dX2_weighRow_18 rfl (by decide) (by decide) (Option.some.inj h)
def Hr_X2_tryRows (n0 : Nat) (rec : (Nat → Nat → Int32 → Int32 → Int32 → q_Mem → Option (Unit × q_Mem))) : Prop := ∀ (l : Launch) (G : q_G), (∀ (a0 : Nat) (a1 : Int32) (a2 : Int32) (a3 : Int32) (M : q_Mem) (r : Unit) (M' : q_Mem), rec 0 a0 a1 a2 a3 M = some (r, M') → q_Met l G yX2_tryRows cX2_tryRows 8 (Option.none : Option Jvm.ClassFile.FieldType) (n0 + 6) 0 0 [.ref a0, .int a1, .int a2, .int a3] M none M')
noncomputable def J_X2_tryRows_139_35 (rec : (Nat → Nat → Int32 → Int32 → Int32 → q_Mem → Option (Unit × q_Mem))) (l0 : Nat) (l1 : Int32) (l2 : Int32) (l3 : Int32) (l4 : Nat) (l5 : Int32) (l6 : Int32) (M : q_Mem) : Option ((Int32 × q_Mem) ⊕ (q_Mem)) := some (.inl ((l6 + (1 : Int32)), M))
set_option maxRecDepth 100000 in
set_option maxHeartbeats 4000000 in
theorem jW_X2_tryRows_139_35 {K : q_K} {Q : State → Prop} {n0 : Nat} (C : q_C K yX2_tryRows cX2_tryRows 8 (Option.none : Option Jvm.ClassFile.FieldType) (n0 + 6 + 1) 0 0) {rec : (Nat → Nat → Int32 → Int32 → Int32 → q_Mem → Option (Unit × q_Mem))} (hr : Hr_X2_tryRows n0 rec) (l0 : Nat) (l1 : Int32) (l2 : Int32) (l3 : Int32) (l4 : Nat) (l5 : Int32) (l6 : Int32) (M : q_Mem) {stp : (Int32 × q_Mem) ⊕ (q_Mem)} (h : J_X2_tryRows_139_35 rec l0 l1 l2 l3 l4 l5 l6 M = some stp) (kC : ∀ (l6 : Int32) (M : q_Mem), stp = .inl (l6, M) → q_W K 8 Q 0 0 M 35 [some (.ref l0), some (.int l1), some (.int l2), some (.int l3), some (.ref l4), some (.int l5), some (.int l6), none] []) (kE0 : ∀ (M : q_Mem), stp = .inr M → q_W K 8 Q 0 0 M 145 [none, none, none, none, none, none, none, none] []) : q_W K 8 Q 0 0 M 139 [some (.ref l0), some (.int l1), some (.int l2), some (.int l3), some (.ref l4), some (.int l5), some (.int l6), none] [] := by
  unfold J_X2_tryRows_139_35 at h
  refine x_iinc (w := (1 : Int32)) (L' := [some (.ref l0), some (.int l1), some (.int l2), some (.int l3), some (.ref l4), some (.int l5), some (.int (l6 + (1 : Int32))), none]) C dX2_tryRows_139 rfl (by decide) (by decide) rfl rfl ?_
  refine q_goto (tgt := 35) C dX2_tryRows_142 (by decide) ?_
  exact q_msk [true, true, true, true, true, true, true, false] (kC _ _ (Option.some.inj h).symm)
noncomputable def B_X2_tryRows_102 (rec : (Nat → Nat → Int32 → Int32 → Int32 → q_Mem → Option (Unit × q_Mem))) (l0 : Nat) (l1 : Int32) (l2 : Int32) (l3 : Int32) (l4 : Nat) (l5 : Int32) (l6 : Int32) (l7 : Int32) (M : q_Mem) : Option ((Int32 × q_Mem) ⊕ (q_Mem)) := (if l7 < (3 : Int32) then (q_gR M l0 2 1 (fun c23 => q_nn c23 (fun r24 => (q_ob M r24 1 ((F_X1_pass r24 l4 M).bind (fun x => match x with | (_, M26) => some (.inl ((l7 + (1 : Int32)), M26)))))))) else some (.inr M))
set_option maxRecDepth 100000 in
set_option maxHeartbeats 4000000 in
theorem bW_X2_tryRows_102 {K : q_K} {Q : State → Prop} {n0 : Nat} (C : q_C K yX2_tryRows cX2_tryRows 8 (Option.none : Option Jvm.ClassFile.FieldType) (n0 + 6 + 1) 0 0) {rec : (Nat → Nat → Int32 → Int32 → Int32 → q_Mem → Option (Unit × q_Mem))} (hr : Hr_X2_tryRows n0 rec) (l0 : Nat) (l1 : Int32) (l2 : Int32) (l3 : Int32) (l4 : Nat) (l5 : Int32) (l6 : Int32) (l7 : Int32) (M : q_Mem) {stp : (Int32 × q_Mem) ⊕ (q_Mem)} (h : B_X2_tryRows_102 rec l0 l1 l2 l3 l4 l5 l6 l7 M = some stp) (kC : ∀ (l7 : Int32) (M : q_Mem), stp = .inl (l7, M) → q_W K 8 Q 0 0 M 102 [some (.ref l0), some (.int l1), some (.int l2), some (.int l3), some (.ref l4), some (.int l5), some (.int l6), some (.int l7)] []) (kE0 : ∀ (M : q_Mem), stp = .inr M → q_W K 8 Q 0 0 M 123 [some (.ref l0), some (.int l1), some (.int l2), some (.int l3), some (.ref l4), some (.int l5), some (.int l6), none] []) : q_W K 8 Q 0 0 M 102 [some (.ref l0), some (.int l1), some (.int l2), some (.int l3), some (.ref l4), some (.int l5), some (.int l6), some (.int l7)] [] := by
  unfold B_X2_tryRows_102 at h
  refine q_iload C dX2_tryRows_102 rfl ?_
  refine x_iconst (v := (3 : Int32)) C dX2_tryRows_104 (by decide) ?_
  refine q_icmp_ge (tgt := 123) C dX2_tryRows_105 (by decide) h (fun _ h => ?_) (fun _ h => ?_)
  · refine q_aload_n C dX2_tryRows_108 rfl ?_
    refine x_getR (ci := 2) (j := 1) C dX2_tryRows_109 lkF_X2_49 rfl h (fun c23 h => ?_)
    refine x_nn h (fun r24 h => ?_)
    refine q_aload C dX2_tryRows_112 rfl ?_
    obtain ⟨hk, h⟩ := q_obE h
    obtain ⟨⟨_, M26⟩, e1, h⟩ := q_bind h
    refine x_callVv0 C dX2_tryRows_114 lkM_X2_80 mV_X1_pass ⟨_, rfl, rfl⟩ hk (c_X1_pass _ _ _ _ _ e1) rfl rfl (Nat.le_of_ble_eq_true rfl) (⟨by omega, by decide⟩) (by decide) ?_
    refine x_iinc (w := (1 : Int32)) (L' := [some (.ref l0), some (.int l1), some (.int l2), some (.int l3), some (.ref l4), some (.int l5), some (.int l6), some (.int (l7 + (1 : Int32)))]) C dX2_tryRows_117 rfl (by decide) (by decide) rfl rfl ?_
    refine q_goto (tgt := 102) C dX2_tryRows_120 (by decide) ?_
    exact q_msk [true, true, true, true, true, true, true, true] (kC _ _ (Option.some.inj h).symm)
  · exact q_msk [true, true, true, true, true, true, true, false] (kE0 _ (Option.some.inj h).symm)
set_option maxRecDepth 100000 in
set_option maxHeartbeats 4000000 in
theorem lW_X2_tryRows_102 {K : q_K} {Q : State → Prop} {n0 : Nat} (C : q_C K yX2_tryRows cX2_tryRows 8 (Option.none : Option Jvm.ClassFile.FieldType) (n0 + 6 + 1) 0 0) {rec : (Nat → Nat → Int32 → Int32 → Int32 → q_Mem → Option (Unit × q_Mem))} (hr : Hr_X2_tryRows n0 rec) (l0 : Nat) (l1 : Int32) (l2 : Int32) (l3 : Int32) (l4 : Nat) (l5 : Int32) (l6 : Int32) (n : Nat) : ∀ (l7 : Int32) (M : q_Mem) (e : (q_Mem)), q_lp (fun s => B_X2_tryRows_102 rec l0 l1 l2 l3 l4 l5 l6 s.1 s.2) n (l7, M) = some e → (∀ (M : q_Mem), e = M → q_W K 8 Q 0 0 M 123 [some (.ref l0), some (.int l1), some (.int l2), some (.int l3), some (.ref l4), some (.int l5), some (.int l6), none] []) → q_W K 8 Q 0 0 M 102 [some (.ref l0), some (.int l1), some (.int l2), some (.int l3), some (.ref l4), some (.int l5), some (.int l6), some (.int l7)] [] := by
  induction n with
  | zero => intro l7 M e h; cases h
  | succ n ih =>
    intro l7 M e h kE0
    obtain ⟨stp, e1, e2⟩ := q_bind h
    refine bW_X2_tryRows_102 C hr l0 l1 l2 l3 l4 l5 l6 l7 M e1 (fun a0 a1 hs => ?_) (fun b0 hs => ?_)
    · subst hs; exact ih _ _ _ e2 kE0
    · subst hs; exact kE0 _ (Option.some.inj e2).symm
noncomputable def B_X2_tryRows_35 (rec : (Nat → Nat → Int32 → Int32 → Int32 → q_Mem → Option (Unit × q_Mem))) (l0 : Nat) (l1 : Int32) (l2 : Int32) (l3 : Int32) (l4 : Nat) (l5 : Int32) (l6 : Int32) (M : q_Mem) : Option ((Int32 × q_Mem) ⊕ (q_Mem)) := (q_gR M l0 2 0 (fun c5 => q_nn c5 (fun r6 => (q_gI M r6 3 4 (fun v7 => (if l6 < v7 then (q_gR M l0 2 4 (fun c8 => q_nn c8 (fun r9 => (q_lR M 5 r9 l1 (fun c10 => q_nn c10 (fun r11 => (q_ob M l4 8 ((F_X8_copyFrom l4 r11 M).bind (fun x => match x with | (_, M13) => (q_gR M13 l4 8 0 (fun c14 => q_nn c14 (fun r15 => (q_tI M13 r15 (3 : Int32) l6 (fun M16 => (q_gR M16 l0 2 1 (fun c17 => q_nn c17 (fun r18 => (q_ob M16 r18 1 ((F_X1_pass r18 l4 M16).bind (fun x => match x with | (_, M20) => (if l5 = 0 then (q_ob M20 l0 2 ((rec 0 l0 (l1 + (1 : Int32)) l2 ((l3 * (10 : Int32)) + l6) M20).bind (fun x => match x with | (_, M22) => J_X2_tryRows_139_35 rec l0 l1 l2 l3 l4 l5 l6 M22))) else (q_lp (fun s => B_X2_tryRows_102 rec l0 l1 l2 l3 l4 l5 l6 s.1 s.2) q_fu ((0 : Int32), M20)).bind (fun e27 => match e27 with | M28 => (q_ob M28 l4 8 ((F_X8_joyOfAll l4 M28).bind (fun u29 => (q_ob M28 l0 2 ((F_X2_weighRow l0 ((l3 * (10 : Int32)) + l6) u29 M28).bind (fun x => match x with | (_, M31) => J_X2_tryRows_139_35 rec l0 l1 l2 l3 l4 l5 l6 M31)))))))))))))))))))))))))))) else some (.inr M)))))))
set_option maxRecDepth 100000 in
set_option maxHeartbeats 4000000 in
theorem bW_X2_tryRows_35 {K : q_K} {Q : State → Prop} {n0 : Nat} (C : q_C K yX2_tryRows cX2_tryRows 8 (Option.none : Option Jvm.ClassFile.FieldType) (n0 + 6 + 1) 0 0) {rec : (Nat → Nat → Int32 → Int32 → Int32 → q_Mem → Option (Unit × q_Mem))} (hr : Hr_X2_tryRows n0 rec) (l0 : Nat) (l1 : Int32) (l2 : Int32) (l3 : Int32) (l4 : Nat) (l5 : Int32) (l6 : Int32) (M : q_Mem) {stp : (Int32 × q_Mem) ⊕ (q_Mem)} (h : B_X2_tryRows_35 rec l0 l1 l2 l3 l4 l5 l6 M = some stp) (kC : ∀ (l6 : Int32) (M : q_Mem), stp = .inl (l6, M) → q_W K 8 Q 0 0 M 35 [some (.ref l0), some (.int l1), some (.int l2), some (.int l3), some (.ref l4), some (.int l5), some (.int l6), none] []) (kE0 : ∀ (M : q_Mem), stp = .inr M → q_W K 8 Q 0 0 M 145 [none, none, none, none, none, none, none, none] []) : q_W K 8 Q 0 0 M 35 [some (.ref l0), some (.int l1), some (.int l2), some (.int l3), some (.ref l4), some (.int l5), some (.int l6), none] [] := by
  unfold B_X2_tryRows_35 at h
  refine q_iload C dX2_tryRows_35 rfl ?_
  refine q_aload_n C dX2_tryRows_37 rfl ?_
  refine x_getR (ci := 2) (j := 0) C dX2_tryRows_38 lkF_X2_45 rfl h (fun c5 h => ?_)
  refine x_nn h (fun r6 h => ?_)
  refine x_getI (ci := 3) (j := 4) C dX2_tryRows_41 lkF_X2_93 rfl h (fun v7 h => ?_)
  refine q_icmp_ge (tgt := 145) C dX2_tryRows_44 (by decide) h (fun _ h => ?_) (fun _ h => ?_)
  · refine q_aload C dX2_tryRows_47 rfl ?_
    refine q_aload_n C dX2_tryRows_49 rfl ?_
    refine x_getR (ci := 2) (j := 4) C dX2_tryRows_50 lkF_X2_18 rfl h (fun c8 h => ?_)
    refine x_nn h (fun r9 h => ?_)
    refine q_iload_n C dX2_tryRows_53 rfl ?_
    refine x_aald C dX2_tryRows_54 (by decide) h (fun c10 h => ?_)
    refine x_nn h (fun r11 h => ?_)
    obtain ⟨hk, h⟩ := q_obE h
    obtain ⟨⟨_, M13⟩, e1, h⟩ := q_bind h
    refine x_callVv0 C dX2_tryRows_55 lkM_X2_57 mV_X8_copyFrom ⟨_, rfl, rfl⟩ hk (c_X8_copyFrom _ _ _ _ _ e1) rfl rfl (Nat.le_of_ble_eq_true rfl) (⟨by omega, by decide⟩) (by decide) ?_
    refine q_aload C dX2_tryRows_58 rfl ?_
    refine x_getR (ci := 8) (j := 0) C dX2_tryRows_60 lkF_X2_98 rfl h (fun c14 h => ?_)
    refine x_nn h (fun r15 h => ?_)
    refine x_iconst (v := (3 : Int32)) C dX2_tryRows_63 (by decide) ?_
    refine q_iload C dX2_tryRows_64 rfl ?_
    refine x_iast C dX2_tryRows_66 h (fun M16 h => ?_)
    refine q_aload_n C dX2_tryRows_67 rfl ?_
    refine x_getR (ci := 2) (j := 1) C dX2_tryRows_68 lkF_X2_49 rfl h (fun c17 h => ?_)
    refine x_nn h (fun r18 h => ?_)
    refine q_aload C dX2_tryRows_71 rfl ?_
    obtain ⟨hk, h⟩ := q_obE h
    obtain ⟨⟨_, M20⟩, e1, h⟩ := q_bind h
    refine x_callVv0 C dX2_tryRows_73 lkM_X2_80 mV_X1_pass ⟨_, rfl, rfl⟩ hk (c_X1_pass _ _ _ _ _ e1) rfl rfl (Nat.le_of_ble_eq_true rfl) (⟨by omega, by decide⟩) (by decide) ?_
    refine q_iload C dX2_tryRows_76 rfl ?_
    refine q_if_ne (tgt := 99) C dX2_tryRows_78 (by decide) h (fun _ h => ?_) (fun _ h => ?_)
    · refine q_aload_n C dX2_tryRows_81 rfl ?_
      refine q_iload_n C dX2_tryRows_82 rfl ?_
      refine x_iconst (v := (1 : Int32)) C dX2_tryRows_83 (by decide) ?_
      refine q_iadd C dX2_tryRows_84 ?_
      refine q_iload_n C dX2_tryRows_85 rfl ?_
      refine q_iload_n C dX2_tryRows_86 rfl ?_
      refine x_bipush (v := (10 : Int32)) C dX2_tryRows_87 (by decide) ?_
      refine q_imul C dX2_tryRows_89 ?_
      refine q_iload C dX2_tryRows_90 rfl ?_
      refine q_iadd C dX2_tryRows_92 ?_
      obtain ⟨hk, h⟩ := q_obE h
      obtain ⟨⟨_, M22⟩, e1, h⟩ := q_bind h
      refine x_callVv0 C dX2_tryRows_93 lkM_X2_89 mV_X2_tryRows ⟨_, rfl, rfl⟩ hk ((hr _ _) _ _ _ _ _ _ _ e1) rfl rfl (Nat.le_of_ble_eq_true rfl) (⟨by omega, by decide⟩) (by decide) ?_
      refine q_goto (tgt := 139) C dX2_tryRows_96 (by decide) ?_
      exact q_msk [true, true, true, true, true, true, true, false] (jW_X2_tryRows_139_35 C hr l0 l1 l2 l3 l4 l5 l6 M22 h kC kE0)
    · refine x_iconst (v := (0 : Int32)) C dX2_tryRows_99 (by decide) ?_
      refine q_istore (L' := [some (.ref l0), some (.int l1), some (.int l2), some (.int l3), some (.ref l4), some (.int l5), some (.int l6), some (.int (0 : Int32))]) C dX2_tryRows_100 (by decide) rfl rfl ?_
      obtain ⟨e27, he, h⟩ := q_bind h
      refine q_msk [true, true, true, true, true, true, true, true] (lW_X2_tryRows_102 C hr l0 l1 l2 l3 l4 l5 l6 q_fu _ _ _ he (fun M28 hs => ?_))
      · have hs := hs.symm
        subst hs
        refine q_aload_n C dX2_tryRows_123 rfl ?_
        refine q_iload_n C dX2_tryRows_124 rfl ?_
        refine x_bipush (v := (10 : Int32)) C dX2_tryRows_125 (by decide) ?_
        refine q_imul C dX2_tryRows_127 ?_
        refine q_iload C dX2_tryRows_128 rfl ?_
        refine q_iadd C dX2_tryRows_130 ?_
        refine q_aload C dX2_tryRows_131 rfl ?_
        obtain ⟨hk, h⟩ := q_obE h
        obtain ⟨u29, e1, h⟩ := q_bind h
        refine x_callV0 C dX2_tryRows_133 lkM_X2_76 mV_X8_joyOfAll ⟨_, rfl, rfl⟩ hk (c_X8_joyOfAll _ _ _ _ e1) rfl rfl (Nat.le_of_ble_eq_true rfl) (⟨by omega, by decide⟩) (by decide) ?_
        obtain ⟨hk, h⟩ := q_obE h
        obtain ⟨⟨_, M31⟩, e1, h⟩ := q_bind h
        refine x_callVv0 C dX2_tryRows_136 lkM_X2_101 mV_X2_weighRow ⟨_, rfl, rfl⟩ hk (c_X2_weighRow _ _ _ _ _ _ e1) rfl rfl (Nat.le_of_ble_eq_true rfl) (⟨by omega, by decide⟩) (by decide) ?_
        exact q_msk [true, true, true, true, true, true, true, false] (jW_X2_tryRows_139_35 C hr l0 l1 l2 l3 l4 l5 l6 M31 h kC kE0)
  · exact q_msk [false, false, false, false, false, false, false, false] (kE0 _ (Option.some.inj h).symm)
set_option maxRecDepth 100000 in
set_option maxHeartbeats 4000000 in
theorem lW_X2_tryRows_35 {K : q_K} {Q : State → Prop} {n0 : Nat} (C : q_C K yX2_tryRows cX2_tryRows 8 (Option.none : Option Jvm.ClassFile.FieldType) (n0 + 6 + 1) 0 0) {rec : (Nat → Nat → Int32 → Int32 → Int32 → q_Mem → Option (Unit × q_Mem))} (hr : Hr_X2_tryRows n0 rec) (l0 : Nat) (l1 : Int32) (l2 : Int32) (l3 : Int32) (l4 : Nat) (l5 : Int32) (n : Nat) : ∀ (l6 : Int32) (M : q_Mem) (e : (q_Mem)), q_lp (fun s => B_X2_tryRows_35 rec l0 l1 l2 l3 l4 l5 s.1 s.2) n (l6, M) = some e → (∀ (M : q_Mem), e = M → q_W K 8 Q 0 0 M 145 [none, none, none, none, none, none, none, none] []) → q_W K 8 Q 0 0 M 35 [some (.ref l0), some (.int l1), some (.int l2), some (.int l3), some (.ref l4), some (.int l5), some (.int l6), none] [] := by
  induction n with
  | zero => intro l6 M e h; cases h
  | succ n ih =>
    intro l6 M e h kE0
    obtain ⟨stp, e1, e2⟩ := q_bind h
    refine bW_X2_tryRows_35 C hr l0 l1 l2 l3 l4 l5 l6 M e1 (fun a0 a1 hs => ?_) (fun b0 hs => ?_)
    · subst hs; exact ih _ _ _ e2 kE0
    · subst hs; exact kE0 _ (Option.some.inj e2).symm
noncomputable def J_X2_tryRows_30 (rec : (Nat → Nat → Int32 → Int32 → Int32 → q_Mem → Option (Unit × q_Mem))) (l0 : Nat) (l1 : Int32) (l2 : Int32) (l3 : Int32) (l4 : Nat) (s0 : Int32) (M : q_Mem) : Option (Unit × q_Mem) := (q_lp (fun s => B_X2_tryRows_35 rec l0 l1 l2 l3 l4 s0 s.1 s.2) q_fu ((0 : Int32), M)).bind (fun e32 => match e32 with | M33 => some ((), M33))
set_option maxRecDepth 100000 in
set_option maxHeartbeats 4000000 in
theorem jW_X2_tryRows_30 {K : q_K} {n0 : Nat} (C : q_C K yX2_tryRows cX2_tryRows 8 (Option.none : Option Jvm.ClassFile.FieldType) (n0 + 6 + 1) 0 0) {rec : (Nat → Nat → Int32 → Int32 → Int32 → q_Mem → Option (Unit × q_Mem))} (hr : Hr_X2_tryRows n0 rec) (l0 : Nat) (l1 : Int32) (l2 : Int32) (l3 : Int32) (l4 : Nat) (s0 : Int32) (M : q_Mem) {r : Unit} {M' : q_Mem} (h : J_X2_tryRows_30 rec l0 l1 l2 l3 l4 s0 M = some (r, M')) : q_W K 8 (q_Q K none M' 0 0) 0 0 M 30 [some (.ref l0), some (.int l1), some (.int l2), some (.int l3), some (.ref l4), none, none, none] [.int s0] := by
  unfold J_X2_tryRows_30 at h
  refine q_istore (L' := [some (.ref l0), some (.int l1), some (.int l2), some (.int l3), some (.ref l4), some (.int s0), none, none]) C dX2_tryRows_30 (by decide) rfl rfl ?_
  refine x_iconst (v := (0 : Int32)) C dX2_tryRows_32 (by decide) ?_
  refine q_istore (L' := [some (.ref l0), some (.int l1), some (.int l2), some (.int l3), some (.ref l4), some (.int s0), some (.int (0 : Int32)), none]) C dX2_tryRows_33 (by decide) rfl rfl ?_
  obtain ⟨e32, he, h⟩ := q_bind h
  refine q_msk [true, true, true, true, true, true, true, false] (lW_X2_tryRows_35 C hr l0 l1 l2 l3 l4 s0 q_fu _ _ _ he (fun M33 hs => ?_))
  · have hs := hs.symm
    subst hs
    exact q_vret C dX2_tryRows_145 rfl (by decide) (by decide) (Option.some.inj h)
noncomputable def F_X2_tryRows (rec : (Nat → Nat → Int32 → Int32 → Int32 → q_Mem → Option (Unit × q_Mem))) (l0 : Nat) (l1 : Int32) (l2 : Int32) (l3 : Int32) (M : q_Mem) : Option (Unit × q_Mem) := (if (l1 + (1 : Int32)) < (5 : Int32) then (q_gR M l0 2 4 (fun c1 => q_nn c1 (fun r2 => (q_lR M 5 r2 (l1 + (1 : Int32)) (fun c3 => q_nn c3 (fun r4 => (if (l1 + (1 : Int32)) < l2 then J_X2_tryRows_30 rec l0 l1 l2 l3 r4 (0 : Int32) M else J_X2_tryRows_30 rec l0 l1 l2 l3 r4 (1 : Int32) M))))))) else some ((), M))
set_option maxRecDepth 100000 in
set_option maxHeartbeats 4000000 in
theorem cr_X2_tryRows {l : Launch} {G : q_G} {n0 : Nat} {rec : (Nat → Nat → Int32 → Int32 → Int32 → q_Mem → Option (Unit × q_Mem))} (hr : Hr_X2_tryRows n0 rec) (l0 : Nat) (l1 : Int32) (l2 : Int32) (l3 : Int32) (M : q_Mem) {r : Unit} {M' : q_Mem} (h : F_X2_tryRows rec l0 l1 l2 l3 M = some (r, M')) : q_Met l G yX2_tryRows cX2_tryRows 8 (Option.none : Option Jvm.ClassFile.FieldType) (n0 + 6 + 1) 0 0 [.ref l0, .int l1, .int l2, .int l3] M none M' := by
  unfold F_X2_tryRows at h
  refine q_enter [some (.ref l0), some (.int l1), some (.int l2), some (.int l3), none, none, none, none] (by decide) (Nat.le_of_ble_eq_true rfl) rfl (fun K C => ?_)
  refine q_iload_n C dX2_tryRows_0 rfl ?_
  refine x_iconst (v := (1 : Int32)) C dX2_tryRows_1 (by decide) ?_
  refine q_iadd C dX2_tryRows_2 ?_
  refine x_iconst (v := (5 : Int32)) C dX2_tryRows_3 (by decide) ?_
  refine q_icmp_lt (tgt := 8) C dX2_tryRows_4 (by decide) h (fun _ h => ?_) (fun _ h => ?_)
  · refine q_aload_n C dX2_tryRows_8 rfl ?_
    refine x_getR (ci := 2) (j := 4) C dX2_tryRows_9 lkF_X2_18 rfl h (fun c1 h => ?_)
    refine x_nn h (fun r2 h => ?_)
    refine q_iload_n C dX2_tryRows_12 rfl ?_
    refine x_iconst (v := (1 : Int32)) C dX2_tryRows_13 (by decide) ?_
    refine q_iadd C dX2_tryRows_14 ?_
    refine x_aald C dX2_tryRows_15 (by decide) h (fun c3 h => ?_)
    refine x_nn h (fun r4 h => ?_)
    refine q_astore (L' := [some (.ref l0), some (.int l1), some (.int l2), some (.int l3), some (.ref r4), none, none, none]) C dX2_tryRows_16 (by decide) rfl rfl ?_
    refine q_iload_n C dX2_tryRows_18 rfl ?_
    refine x_iconst (v := (1 : Int32)) C dX2_tryRows_19 (by decide) ?_
    refine q_iadd C dX2_tryRows_20 ?_
    refine q_iload_n C dX2_tryRows_21 rfl ?_
    refine q_icmp_lt (tgt := 29) C dX2_tryRows_22 (by decide) h (fun _ h => ?_) (fun _ h => ?_)
    · refine x_iconst (v := (0 : Int32)) C dX2_tryRows_29 (by decide) ?_
      exact q_msk [true, true, true, true, true, false, false, false] (jW_X2_tryRows_30 C hr l0 l1 l2 l3 r4 (0 : Int32) M h)
    · refine x_iconst (v := (1 : Int32)) C dX2_tryRows_25 (by decide) ?_
      refine q_goto (tgt := 30) C dX2_tryRows_26 (by decide) ?_
      exact q_msk [true, true, true, true, true, false, false, false] (jW_X2_tryRows_30 C hr l0 l1 l2 l3 r4 (1 : Int32) M h)
  · exact q_vret C dX2_tryRows_7 rfl (by decide) (by decide) (Option.some.inj h)
noncomputable def R_X2_tryRows : Nat → Nat → Nat → Int32 → Int32 → Int32 → q_Mem → Option (Unit × q_Mem)
  | 0 => fun _ _ _ _ _ _ => none
  | n + 1 => fun tag a0 b0 b1 b2 M => match tag with | _ => F_X2_tryRows (R_X2_tryRows n) a0 b0 b1 b2 M
set_option maxRecDepth 100000 in
theorem Rok_X2_tryRows (n : Nat) : Hr_X2_tryRows n (R_X2_tryRows n) := by
  induction n with
  | zero => exact fun l G => (fun a0 a1 a2 a3 M r M' h => by cases h)
  | succ n ih => exact fun l G => (fun a0 a1 a2 a3 M r M' h => cr_X2_tryRows ih a0 a1 a2 a3 M h)
theorem c_X2_tryRows (l : Launch) (G : q_G) (a0 : Nat) (a1 : Int32) (a2 : Int32) (a3 : Int32) (M : q_Mem) {r : Unit} {M' : q_Mem} (h : R_X2_tryRows 60 0 a0 a1 a2 a3 M = some (r, M')) : q_Met l G yX2_tryRows cX2_tryRows 8 (Option.none : Option Jvm.ClassFile.FieldType) 66 0 0 [.ref a0, .int a1, .int a2, .int a3] M none M' := (Rok_X2_tryRows 60 l G) a0 a1 a2 a3 M r M' h
