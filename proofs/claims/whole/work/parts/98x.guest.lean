noncomputable def F_X11_guest (l0 : Nat) (l1 : Int32) (l2 : Int32) (M : q_Mem) : Option (Int32 × q_Mem) := (q_gR M l0 11 1 (fun c1 => q_nn c1 (fun r2 => (q_ob M r2 3 ((F_X3_hasGuest r2 l1 M).bind (fun u3 => (if u3 = 0 then none else (if l2 = (0 : Int32) then (q_gR M l0 11 1 (fun c4 => q_nn c4 (fun r5 => (q_ob M r5 3 ((F_X3_ofGuest r5 l1 (0 : Int32) M).bind (fun u6 => some (u6, M))))))) else (if l2 = (1 : Int32) then (q_gR M l0 11 6 (fun c7 => q_nn c7 (fun r8 => (q_gR M r8 8 0 (fun c9 => q_nn c9 (fun r10 => (q_lI M 0 r10 ((13 : Int32) + l1) (fun v11 => some (v11, M))))))))) else (if l2 = (2 : Int32) then (q_gR M l0 11 6 (fun c12 => q_nn c12 (fun r13 => (q_gR M r13 8 0 (fun c14 => q_nn c14 (fun r15 => (q_lI M 0 r15 ((19 : Int32) + l1) (fun v16 => some (v16, M))))))))) else (if l2 = (3 : Int32) then (q_gR M l0 11 1 (fun c17 => q_nn c17 (fun r18 => (q_ob M r18 3 ((F_X3_ofGuest r18 l1 (3 : Int32) M).bind (fun u19 => some (u19, M))))))) else (if l2 = (4 : Int32) then (q_gR M l0 11 6 (fun c20 => q_nn c20 (fun r21 => (q_gR M r21 8 0 (fun c22 => q_nn c22 (fun r23 => (q_lI M 0 r23 ((25 : Int32) + l1) (fun v24 => some (v24, M))))))))) else (if l2 = (5 : Int32) then (q_gR M l0 11 6 (fun c25 => q_nn c25 (fun r26 => (q_ob M r26 8 ((F_X8_hasLeft r26 l1 M).bind (fun u27 => (if u27 = 0 then some ((0 : Int32), M) else some ((1 : Int32), M)))))))) else none)))))))))))))
set_option maxRecDepth 100000 in
set_option maxHeartbeats 4000000 in
theorem c_X11_guest (l : Launch) (G : q_G) (l0 : Nat) (l1 : Int32) (l2 : Int32) (M : q_Mem) {r : Int32} {M' : q_Mem} (h : F_X11_guest l0 l1 l2 M = some (r, M')) : q_Met l G yX11_guest cX11_guest 3 (Option.some Jvm.ClassFile.FieldType.int) 2 0 0 [.ref l0, .int l1, .int l2] M (some (.int r)) M' := by
  unfold F_X11_guest at h
  refine q_enter [some (.ref l0), some (.int l1), some (.int l2)] (by decide) (Nat.le_of_ble_eq_true rfl) rfl (fun K C => ?_)
  refine q_aload_n C dX11_guest_0 rfl ?_
  refine x_getR (ci := 11) (j := 1) C dX11_guest_1 lkF_X11_19 rfl h (fun c1 h => ?_)
  refine x_nn h (fun r2 h => ?_)
  refine q_iload_n C dX11_guest_4 rfl ?_
  obtain ⟨hk, h⟩ := q_obE h
  obtain ⟨u3, e1, h⟩ := q_bind h
  refine x_callV0 C dX11_guest_5 lkM_X11_170 mV_X3_hasGuest ⟨_, rfl, rfl⟩ hk (c_X3_hasGuest _ _ _ _ _ e1) rfl rfl (Nat.le_of_ble_eq_true rfl) (by decide) (by decide) ?_
  refine q_if_ne (tgt := 21) C dX11_guest_8 (by decide) h (fun _ h => ?_) (fun _ h => ?_)
  · cases h
  · refine q_iload_n C dX11_guest_21 rfl ?_
    by_cases hs22_0 : l2 = (0 : Int32)
    · have h := q_iteT h hs22_0
      refine q_tsIn (tgt := 60) C dX11_guest_22 hs22_0 (by decide) (by decide) rfl (by decide) ?_
      refine q_aload_n C dX11_guest_60 rfl ?_
      refine x_getR (ci := 11) (j := 1) C dX11_guest_61 lkF_X11_19 rfl h (fun c4 h => ?_)
      refine x_nn h (fun r5 h => ?_)
      refine q_iload_n C dX11_guest_64 rfl ?_
      refine x_iconst (v := (0 : Int32)) C dX11_guest_65 (by decide) ?_
      obtain ⟨hk, h⟩ := q_obE h
      obtain ⟨u6, e1, h⟩ := q_bind h
      refine x_callV0 C dX11_guest_66 lkM_X11_180 mV_X3_ofGuest ⟨_, rfl, rfl⟩ hk (c_X3_ofGuest _ _ _ _ _ _ e1) rfl rfl (Nat.le_of_ble_eq_true rfl) (by decide) (by decide) ?_
      exact q_iret C dX11_guest_69 rfl (by decide) (by decide) (Option.some.inj h)
    have h := q_iteF h hs22_0
    by_cases hs22_1 : l2 = (1 : Int32)
    · have h := q_iteT h hs22_1
      refine q_tsIn (tgt := 70) C dX11_guest_22 hs22_1 (by decide) (by decide) rfl (by decide) ?_
      refine q_aload_n C dX11_guest_70 rfl ?_
      refine x_getR (ci := 11) (j := 6) C dX11_guest_71 lkF_X11_50 rfl h (fun c7 h => ?_)
      refine x_nn h (fun r8 h => ?_)
      refine x_getR (ci := 8) (j := 0) C dX11_guest_74 lkF_X11_156 rfl h (fun c9 h => ?_)
      refine x_nn h (fun r10 h => ?_)
      refine x_bipush (v := (13 : Int32)) C dX11_guest_77 (by decide) ?_
      refine q_iload_n C dX11_guest_79 rfl ?_
      refine q_iadd C dX11_guest_80 ?_
      refine x_iald C dX11_guest_81 h (fun v11 h => ?_)
      exact q_iret C dX11_guest_82 rfl (by decide) (by decide) (Option.some.inj h)
    have h := q_iteF h hs22_1
    by_cases hs22_2 : l2 = (2 : Int32)
    · have h := q_iteT h hs22_2
      refine q_tsIn (tgt := 83) C dX11_guest_22 hs22_2 (by decide) (by decide) rfl (by decide) ?_
      refine q_aload_n C dX11_guest_83 rfl ?_
      refine x_getR (ci := 11) (j := 6) C dX11_guest_84 lkF_X11_50 rfl h (fun c12 h => ?_)
      refine x_nn h (fun r13 h => ?_)
      refine x_getR (ci := 8) (j := 0) C dX11_guest_87 lkF_X11_156 rfl h (fun c14 h => ?_)
      refine x_nn h (fun r15 h => ?_)
      refine x_bipush (v := (19 : Int32)) C dX11_guest_90 (by decide) ?_
      refine q_iload_n C dX11_guest_92 rfl ?_
      refine q_iadd C dX11_guest_93 ?_
      refine x_iald C dX11_guest_94 h (fun v16 h => ?_)
      exact q_iret C dX11_guest_95 rfl (by decide) (by decide) (Option.some.inj h)
    have h := q_iteF h hs22_2
    by_cases hs22_3 : l2 = (3 : Int32)
    · have h := q_iteT h hs22_3
      refine q_tsIn (tgt := 96) C dX11_guest_22 hs22_3 (by decide) (by decide) rfl (by decide) ?_
      refine q_aload_n C dX11_guest_96 rfl ?_
      refine x_getR (ci := 11) (j := 1) C dX11_guest_97 lkF_X11_19 rfl h (fun c17 h => ?_)
      refine x_nn h (fun r18 h => ?_)
      refine q_iload_n C dX11_guest_100 rfl ?_
      refine x_iconst (v := (3 : Int32)) C dX11_guest_101 (by decide) ?_
      obtain ⟨hk, h⟩ := q_obE h
      obtain ⟨u19, e1, h⟩ := q_bind h
      refine x_callV0 C dX11_guest_102 lkM_X11_180 mV_X3_ofGuest ⟨_, rfl, rfl⟩ hk (c_X3_ofGuest _ _ _ _ _ _ e1) rfl rfl (Nat.le_of_ble_eq_true rfl) (by decide) (by decide) ?_
      exact q_iret C dX11_guest_105 rfl (by decide) (by decide) (Option.some.inj h)
    have h := q_iteF h hs22_3
    by_cases hs22_4 : l2 = (4 : Int32)
    · have h := q_iteT h hs22_4
      refine q_tsIn (tgt := 106) C dX11_guest_22 hs22_4 (by decide) (by decide) rfl (by decide) ?_
      refine q_aload_n C dX11_guest_106 rfl ?_
      refine x_getR (ci := 11) (j := 6) C dX11_guest_107 lkF_X11_50 rfl h (fun c20 h => ?_)
      refine x_nn h (fun r21 h => ?_)
      refine x_getR (ci := 8) (j := 0) C dX11_guest_110 lkF_X11_156 rfl h (fun c22 h => ?_)
      refine x_nn h (fun r23 h => ?_)
      refine x_bipush (v := (25 : Int32)) C dX11_guest_113 (by decide) ?_
      refine q_iload_n C dX11_guest_115 rfl ?_
      refine q_iadd C dX11_guest_116 ?_
      refine x_iald C dX11_guest_117 h (fun v24 h => ?_)
      exact q_iret C dX11_guest_118 rfl (by decide) (by decide) (Option.some.inj h)
    have h := q_iteF h hs22_4
    by_cases hs22_5 : l2 = (5 : Int32)
    · have h := q_iteT h hs22_5
      refine q_tsIn (tgt := 119) C dX11_guest_22 hs22_5 (by decide) (by decide) rfl (by decide) ?_
      refine q_aload_n C dX11_guest_119 rfl ?_
      refine x_getR (ci := 11) (j := 6) C dX11_guest_120 lkF_X11_50 rfl h (fun c25 h => ?_)
      refine x_nn h (fun r26 h => ?_)
      refine q_iload_n C dX11_guest_123 rfl ?_
      obtain ⟨hk, h⟩ := q_obE h
      obtain ⟨u27, e1, h⟩ := q_bind h
      refine x_callV0 C dX11_guest_124 lkM_X11_183 mV_X8_hasLeft ⟨_, rfl, rfl⟩ hk (c_X8_hasLeft _ _ _ _ _ e1) rfl rfl (Nat.le_of_ble_eq_true rfl) (by decide) (by decide) ?_
      refine q_if_eq (tgt := 134) C dX11_guest_127 (by decide) h (fun _ h => ?_) (fun _ h => ?_)
      · refine x_iconst (v := (0 : Int32)) C dX11_guest_134 (by decide) ?_
        exact q_iret C dX11_guest_135 rfl (by decide) (by decide) (Option.some.inj h)
      · refine x_iconst (v := (1 : Int32)) C dX11_guest_130 (by decide) ?_
        refine q_goto (tgt := 135) C dX11_guest_131 (by decide) ?_
        exact q_iret C dX11_guest_135 rfl (by decide) (by decide) (Option.some.inj h)
    have h := q_iteF h hs22_5
    have ho22 : (l2 : Int32).toInt < 0 ∨ 5 < (l2 : Int32).toInt := by
      have z0 := lv_neT (a := 0) hs22_0 (by decide)
      have z1 := lv_neT (a := 1) hs22_1 (by decide)
      have z2 := lv_neT (a := 2) hs22_2 (by decide)
      have z3 := lv_neT (a := 3) hs22_3 (by decide)
      have z4 := lv_neT (a := 4) hs22_4 (by decide)
      have z5 := lv_neT (a := 5) hs22_5 (by decide)
      omega
    refine q_tsOut (tgt := 136) C dX11_guest_22 ho22 (by decide) ?_
    cases h
