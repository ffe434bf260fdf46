noncomputable def F_X11_hasRoomFor (l0 : Nat) (l1 : Int32) (M : q_Mem) : Option (Int32) := (if l1 = (1 : Int32) then (q_gI M l0 11 14 (fun v1 => (if v1 < (4 : Int32) then q_rq (1 : Int32) else q_rq (0 : Int32)))) else (if l1 = (2 : Int32) then (q_gI M l0 11 15 (fun v2 => (if v2 < (4 : Int32) then q_rq (1 : Int32) else q_rq (0 : Int32)))) else q_rq (1 : Int32)))
set_option maxRecDepth 100000 in
set_option maxHeartbeats 4000000 in
theorem c_X11_hasRoomFor (l : Launch) (G : q_G) (l0 : Nat) (l1 : Int32) (M : q_Mem) {r : Int32} (h : F_X11_hasRoomFor l0 l1 M = some r) : q_Met l G yX11_hasRoomFor cX11_hasRoomFor 2 (Option.some Jvm.ClassFile.FieldType.boolean) 1 0 0 [.ref l0, .int l1] M (some (.int r)) M := by
  unfold F_X11_hasRoomFor at h
  refine q_enter [some (.ref l0), some (.int l1)] (by decide) (Nat.le_of_ble_eq_true rfl) rfl (fun K C => ?_)
  refine q_iload_n C dX11_hasRoomFor_0 rfl ?_
  by_cases hs1_0 : l1 = (1 : Int32)
  · have h := q_iteT h hs1_0
    refine q_lks (off := 27) (tgt := 28) C dX11_hasRoomFor_1 (by decide) (by first | (rw [hs1_0]; done) | (rw [hs1_0]; rfl)) (by decide) ?_
    refine q_aload_n C dX11_hasRoomFor_28 rfl ?_
    refine x_getI (ci := 11) (j := 14) C dX11_hasRoomFor_29 lkF_X11_103 rfl h (fun v1 h => ?_)
    refine x_iconst (v := (4 : Int32)) C dX11_hasRoomFor_32 (by decide) ?_
    refine q_icmp_ge (tgt := 40) C dX11_hasRoomFor_33 (by decide) h (fun _ h => ?_) (fun _ h => ?_)
    · refine x_iconst (v := (1 : Int32)) C dX11_hasRoomFor_36 (by decide) ?_
      refine q_goto (tgt := 41) C dX11_hasRoomFor_37 (by decide) ?_
      exact q_zret (res := (r, M)) C dX11_hasRoomFor_41 rfl (by decide) (by decide) (q_rqE h).1 (congrArg (fun z => (z, M)) (q_rqE h).2)
    · refine x_iconst (v := (0 : Int32)) C dX11_hasRoomFor_40 (by decide) ?_
      exact q_zret (res := (r, M)) C dX11_hasRoomFor_41 rfl (by decide) (by decide) (q_rqE h).1 (congrArg (fun z => (z, M)) (q_rqE h).2)
  have h := q_iteF h hs1_0
  by_cases hs1_1 : l1 = (2 : Int32)
  · have h := q_iteT h hs1_1
    refine q_lks (off := 41) (tgt := 42) C dX11_hasRoomFor_1 (by decide) (by first | (rw [hs1_1]; done) | (rw [hs1_1]; rfl)) (by decide) ?_
    refine q_aload_n C dX11_hasRoomFor_42 rfl ?_
    refine x_getI (ci := 11) (j := 15) C dX11_hasRoomFor_43 lkF_X11_107 rfl h (fun v2 h => ?_)
    refine x_iconst (v := (4 : Int32)) C dX11_hasRoomFor_46 (by decide) ?_
    refine q_icmp_ge (tgt := 54) C dX11_hasRoomFor_47 (by decide) h (fun _ h => ?_) (fun _ h => ?_)
    · refine x_iconst (v := (1 : Int32)) C dX11_hasRoomFor_50 (by decide) ?_
      refine q_goto (tgt := 55) C dX11_hasRoomFor_51 (by decide) ?_
      exact q_zret (res := (r, M)) C dX11_hasRoomFor_55 rfl (by decide) (by decide) (q_rqE h).1 (congrArg (fun z => (z, M)) (q_rqE h).2)
    · refine x_iconst (v := (0 : Int32)) C dX11_hasRoomFor_54 (by decide) ?_
      exact q_zret (res := (r, M)) C dX11_hasRoomFor_55 rfl (by decide) (by decide) (q_rqE h).1 (congrArg (fun z => (z, M)) (q_rqE h).2)
  have h := q_iteF h hs1_1
  refine q_lks (off := 55) (tgt := 56) C dX11_hasRoomFor_1 (by decide) (by first | (rw [lv_osw hs1_0 (by decide)]; rw [lv_osw hs1_1 (by decide)]; done) | (rw [lv_osw hs1_0 (by decide)]; rw [lv_osw hs1_1 (by decide)]; rfl)) (by decide) ?_
  refine x_iconst (v := (1 : Int32)) C dX11_hasRoomFor_56 (by decide) ?_
  exact q_zret (res := (r, M)) C dX11_hasRoomFor_57 rfl (by decide) (by decide) (q_rqE h).1 (congrArg (fun z => (z, M)) (q_rqE h).2)
noncomputable def F_X11_moveIn (l0 : Nat) (M : q_Mem) : Option (Int32 × q_Mem) := (q_gR M l0 11 1 (fun c1 => q_nn c1 (fun r2 => (q_gR M l0 11 2 (fun c3 => q_nn c3 (fun r4 => (q_ob M r2 3 ((F_X3_copyFrom r2 r4 M).bind (fun x => match x with | (_, M6) => (q_pZ M6 l0 11 18 (1 : Int32) (fun M7 => (q_gR M7 l0 11 6 (fun c8 => q_nn c8 (fun r9 => (q_gR M7 l0 11 1 (fun c10 => q_nn c10 (fun r11 => (q_ob M7 r9 8 ((F_X8_begin r9 r11 M7).bind (fun x => match x with | (_, M13) => (q_gR M13 l0 11 8 (fun c14 => q_nn c14 (fun r15 => (q_ob M13 r15 6 ((F_X6_forget r15 M13).bind (fun x => match x with | (_, M17) => (q_gR M17 l0 11 12 (fun c18 => q_nn c18 (fun r19 => (q_pI M17 r19 7 3 (0 : Int32) (fun M20 => (q_gR M20 l0 11 1 (fun c21 => q_nn c21 (fun r22 => (q_gI M20 r22 3 5 (fun v23 => some (v23, M20)))))))))))))))))))))))))))))))))))))
set_option maxRecDepth 100000 in
set_option maxHeartbeats 4000000 in
theorem c_X11_moveIn (l : Launch) (G : q_G) (l0 : Nat) (M : q_Mem) {r : Int32} {M' : q_Mem} (h : F_X11_moveIn l0 M = some (r, M')) : q_Met l G yX11_moveIn cX11_moveIn 1 (Option.some Jvm.ClassFile.FieldType.int) 4 0 0 [.ref l0] M (some (.int r)) M' := by
  unfold F_X11_moveIn at h
  refine q_enter [some (.ref l0)] (by decide) (Nat.le_of_ble_eq_true rfl) rfl (fun K C => ?_)
  refine q_aload_n C dX11_moveIn_0 rfl ?_
  refine x_getR (ci := 11) (j := 1) C dX11_moveIn_1 lkF_X11_19 rfl h (fun c1 h => ?_)
  refine x_nn h (fun r2 h => ?_)
  refine q_aload_n C dX11_moveIn_4 rfl ?_
  refine x_getR (ci := 11) (j := 2) C dX11_moveIn_5 lkF_X11_23 rfl h (fun c3 h => ?_)
  refine x_nn h (fun r4 h => ?_)
  obtain ⟨hk, h⟩ := q_obE h
  obtain ⟨⟨_, M6⟩, e1, h⟩ := q_bind h
  refine x_callVv0 C dX11_moveIn_8 lkM_X11_403 mV_X3_copyFrom ⟨_, rfl, rfl⟩ hk (c_X3_copyFrom _ _ _ _ _ e1) rfl rfl (Nat.le_of_ble_eq_true rfl) (by decide) (by decide) ?_
  refine q_aload_n C dX11_moveIn_11 rfl ?_
  refine x_iconst (v := (1 : Int32)) C dX11_moveIn_12 (by decide) ?_
  refine x_putZ (ci := 11) (j := 18) C dX11_moveIn_13 lkF_X11_116 (fun r hr => by cases hr; rfl) rfl h (fun M7 h => ?_)
  refine q_aload_n C dX11_moveIn_16 rfl ?_
  refine x_getR (ci := 11) (j := 6) C dX11_moveIn_17 lkF_X11_50 rfl h (fun c8 h => ?_)
  refine x_nn h (fun r9 h => ?_)
  refine q_aload_n C dX11_moveIn_20 rfl ?_
  refine x_getR (ci := 11) (j := 1) C dX11_moveIn_21 lkF_X11_19 rfl h (fun c10 h => ?_)
  refine x_nn h (fun r11 h => ?_)
  obtain ⟨hk, h⟩ := q_obE h
  obtain ⟨⟨_, M13⟩, e1, h⟩ := q_bind h
  refine x_callVv0 C dX11_moveIn_24 lkM_X11_405 mV_X8_begin ⟨_, rfl, rfl⟩ hk (c_X8_begin _ _ _ _ _ e1) rfl rfl (Nat.le_of_ble_eq_true rfl) (by decide) (by decide) ?_
  refine q_aload_n C dX11_moveIn_27 rfl ?_
  refine x_getR (ci := 11) (j := 8) C dX11_moveIn_28 lkF_X11_60 rfl h (fun c14 h => ?_)
  refine x_nn h (fun r15 h => ?_)
  obtain ⟨hk, h⟩ := q_obE h
  obtain ⟨⟨_, M17⟩, e1, h⟩ := q_bind h
  refine x_callVv0 C dX11_moveIn_31 lkM_X11_408 mV_X6_forget ⟨_, rfl, rfl⟩ hk (c_X6_forget _ _ _ _ e1) rfl rfl (Nat.le_of_ble_eq_true rfl) (by decide) (by decide) ?_
  refine q_aload_n C dX11_moveIn_34 rfl ?_
  refine x_getR (ci := 11) (j := 12) C dX11_moveIn_35 lkF_X11_94 rfl h (fun c18 h => ?_)
  refine x_nn h (fun r19 h => ?_)
  refine x_iconst (v := (0 : Int32)) C dX11_moveIn_38 (by decide) ?_
  refine x_putI (ci := 7) (j := 3) C dX11_moveIn_39 lkF_X11_391 (fun r hr => by cases hr; rfl) rfl h (fun M20 h => ?_)
  refine q_aload_n C dX11_moveIn_42 rfl ?_
  refine x_getR (ci := 11) (j := 1) C dX11_moveIn_43 lkF_X11_19 rfl h (fun c21 h => ?_)
  refine x_nn h (fun r22 h => ?_)
  refine x_getI (ci := 3) (j := 5) C dX11_moveIn_46 lkF_X11_336 rfl h (fun v23 h => ?_)
  exact q_iret C dX11_moveIn_49 rfl (by decide) (by decide) (Option.some.inj h)
noncomputable def F_X11_text (l0 : Nat) (l1 : Int32) (M : q_Mem) : Option (Int32 × q_Mem) := (if l1 < 0 then some ((-1 : Int32), M) else (if (2 : Int32) < l1 then some ((-1 : Int32), M) else (q_ob M l0 11 ((F_X11_hasRoomFor l0 l1 M).bind (fun u1 => (if u1 = 0 then some ((-1 : Int32), M) else (q_ob M l0 11 ((F_X11_readTape l0 l1 M).bind (fun x => match x with | (u2, M3) => (if u2 = 0 then some ((-1 : Int32), M3) else (q_gR M3 l0 11 0 (fun c4 => q_nn c4 (fun r5 => (q_pI M3 r5 9 1 (0 : Int32) (fun M6 => (if l1 = (0 : Int32) then (q_ob M6 l0 11 ((F_X11_moveIn l0 M6).bind (fun x => match x with | (u7, M8) => some (u7, M8)))) else (if l1 = (1 : Int32) then (q_gR M6 l0 11 4 (fun c9 => q_nn c9 (fun r10 => (q_gI M6 l0 11 14 (fun v11 => (q_nO M6 4 (fun k12 M13 => (q_gR M13 l0 11 3 (fun c14 => q_nn c14 (fun r15 => (q_ob M13 r15 5 ((F_X5_written r15 M13).bind (fun x => match x with | (u16, M18) => q_nn u16 (fun r17 => ((F_X4_init k12 r17 M18).bind (fun x => match x with | (_, M20) => (q_tR M20 3 r10 v11 4 k12 (fun M21 => (q_gI M21 l0 11 14 (fun v22 => (q_pI M21 l0 11 14 (v22 + (1 : Int32)) (fun M23 => some (v22, M23))))))))))))))))))))))) else (q_gR M6 l0 11 5 (fun c24 => q_nn c24 (fun r25 => (q_gI M6 l0 11 15 (fun v26 => (q_gR M6 l0 11 13 (fun c27 => q_nn c27 (fun r28 => (q_tR M6 4 r25 v26 10 r28 (fun M29 => (q_nO M29 10 (fun k30 M31 => ((F_X10_init k30 M31).bind (fun x => match x with | (_, M33) => (q_pR M33 l0 11 13 (k30 + 1) (fun M34 => (q_gI M34 l0 11 15 (fun v35 => (q_pI M34 l0 11 15 (v35 + (1 : Int32)) (fun M36 => some (v35, M36))))))))))))))))))))))))))))))))))))))
set_option maxRecDepth 100000 in
set_option maxHeartbeats 4000000 in
theorem c_X11_text (l : Launch) (G : q_G) (l0 : Nat) (l1 : Int32) (M : q_Mem) {r : Int32} {M' : q_Mem} (h : F_X11_text l0 l1 M = some (r, M')) : q_Met l G yX11_text cX11_text 2 (Option.some Jvm.ClassFile.FieldType.int) 131 5 324 [.ref l0, .int l1] M (some (.int r)) M' := by
  unfold F_X11_text at h
  refine q_enter [some (.ref l0), some (.int l1)] (by decide) (Nat.le_of_ble_eq_true rfl) rfl (fun K C => ?_)
  refine q_iload_n C dX11_text_0 rfl ?_
  refine q_if_lt (tgt := 25) C dX11_text_1 (by decide) h (fun _ h => ?_) (fun _ h => ?_)
  · refine x_iconst (v := (-1 : Int32)) C dX11_text_25 (by decide) ?_
    exact q_iret C dX11_text_26 rfl (by decide) (by decide) (Option.some.inj h)
  · refine q_iload_n C dX11_text_4 rfl ?_
    refine x_iconst (v := (2 : Int32)) C dX11_text_5 (by decide) ?_
    refine q_icmp_gt (tgt := 25) C dX11_text_6 (by decide) h (fun _ h => ?_) (fun _ h => ?_)
    · refine x_iconst (v := (-1 : Int32)) C dX11_text_25 (by decide) ?_
      exact q_iret C dX11_text_26 rfl (by decide) (by decide) (Option.some.inj h)
    · refine q_aload_n C dX11_text_9 rfl ?_
      refine q_iload_n C dX11_text_10 rfl ?_
      obtain ⟨hk, h⟩ := q_obE h
      obtain ⟨u1, e1, h⟩ := q_bind h
      refine x_callV0 C dX11_text_11 lkM_X11_142 mV_X11_hasRoomFor ⟨_, rfl, rfl⟩ hk (c_X11_hasRoomFor _ _ _ _ _ e1) rfl rfl (Nat.le_of_ble_eq_true rfl) (by decide) (by decide) ?_
      refine q_if_eq (tgt := 25) C dX11_text_14 (by decide) h (fun _ h => ?_) (fun _ h => ?_)
      · refine x_iconst (v := (-1 : Int32)) C dX11_text_25 (by decide) ?_
        exact q_iret C dX11_text_26 rfl (by decide) (by decide) (Option.some.inj h)
      · refine q_aload_n C dX11_text_17 rfl ?_
        refine q_iload_n C dX11_text_18 rfl ?_
        obtain ⟨hk, h⟩ := q_obE h
        obtain ⟨⟨u2, M3⟩, e1, h⟩ := q_bind h
        refine x_callV0 C dX11_text_19 lkM_X11_135 mV_X11_readTape ⟨_, rfl, rfl⟩ hk (c_X11_readTape _ _ _ _ _ e1) rfl rfl (Nat.le_of_ble_eq_true rfl) (by decide) (by decide) ?_
        refine q_if_ne (tgt := 27) C dX11_text_22 (by decide) h (fun _ h => ?_) (fun _ h => ?_)
        · refine x_iconst (v := (-1 : Int32)) C dX11_text_25 (by decide) ?_
          exact q_iret C dX11_text_26 rfl (by decide) (by decide) (Option.some.inj h)
        · refine q_aload_n C dX11_text_27 rfl ?_
          refine x_getR (ci := 11) (j := 0) C dX11_text_28 lkF_X11_12 rfl h (fun c4 h => ?_)
          refine x_nn h (fun r5 h => ?_)
          refine x_iconst (v := (0 : Int32)) C dX11_text_31 (by decide) ?_
          refine x_putI (ci := 9) (j := 1) C dX11_text_32 lkF_X11_128 (fun r hr => by cases hr; rfl) rfl h (fun M6 h => ?_)
          refine q_iload_n C dX11_text_35 rfl ?_
          by_cases hs36_0 : l1 = (0 : Int32)
          · have h := q_iteT h hs36_0
            refine q_lks (off := 28) (tgt := 64) C dX11_text_36 (by decide) (by first | (rw [hs36_0]; done) | (rw [hs36_0]; rfl)) (by decide) ?_
            refine q_aload_n C dX11_text_64 rfl ?_
            obtain ⟨hk, h⟩ := q_obE h
            obtain ⟨⟨u7, M8⟩, e1, h⟩ := q_bind h
            refine x_callV0 C dX11_text_65 lkM_X11_145 mV_X11_moveIn ⟨_, rfl, rfl⟩ hk (c_X11_moveIn _ _ _ _ e1) rfl rfl (Nat.le_of_ble_eq_true rfl) (by decide) (by decide) ?_
            exact q_iret C dX11_text_68 rfl (by decide) (by decide) (Option.some.inj h)
          have h := q_iteF h hs36_0
          by_cases hs36_1 : l1 = (1 : Int32)
          · have h := q_iteT h hs36_1
            refine q_lks (off := 33) (tgt := 69) C dX11_text_36 (by decide) (by first | (rw [hs36_1]; done) | (rw [hs36_1]; rfl)) (by decide) ?_
            refine q_aload_n C dX11_text_69 rfl ?_
            refine x_getR (ci := 11) (j := 4) C dX11_text_70 lkF_X11_37 rfl h (fun c9 h => ?_)
            refine x_nn h (fun r10 h => ?_)
            refine q_aload_n C dX11_text_73 rfl ?_
            refine x_getI (ci := 11) (j := 14) C dX11_text_74 lkF_X11_103 rfl h (fun v11 h => ?_)
            refine x_new (ci := 4) C dX11_text_77 rfl clok_4 wd_120 wd_647 wd_21 df_4 h (by decide) (fun k12 M13 h => ?_)
            refine q_dup C dX11_text_80 rfl ?_
            refine q_aload_n C dX11_text_81 rfl ?_
            refine x_getR (ci := 11) (j := 3) C dX11_text_82 lkF_X11_31 rfl h (fun c14 h => ?_)
            refine x_nn h (fun r15 h => ?_)
            obtain ⟨hk, h⟩ := q_obE h
            obtain ⟨⟨u16, M18⟩, e1, h⟩ := q_bind h
            refine x_callV C dX11_text_85 lkM_X11_149 mV_X5_written ⟨_, rfl, rfl⟩ hk (c_X5_written _ _ _ _ e1) rfl rfl (Nat.le_of_ble_eq_true rfl) (by decide) (by decide) ?_
            refine x_nn h (fun r17 h => ?_)
            obtain ⟨⟨_, M20⟩, e1, h⟩ := q_bind h
            refine x_callI C dX11_text_88 lkM_X11_153 mI_X4_init (c_X4_init _ _ _ _ _ e1) rfl rfl (Nat.le_of_ble_eq_true rfl) (by decide) (by decide) ?_
            refine x_aast C dX11_text_91 (by decide) h (fun M21 h => ?_)
            refine q_aload_n C dX11_text_92 rfl ?_
            refine q_dup C dX11_text_93 rfl ?_
            refine x_getI (ci := 11) (j := 14) C dX11_text_94 lkF_X11_103 rfl h (fun v22 h => ?_)
            refine q_dup_x1 C dX11_text_97 rfl rfl ?_
            refine x_iconst (v := (1 : Int32)) C dX11_text_98 (by decide) ?_
            refine q_iadd C dX11_text_99 ?_
            refine x_putI (ci := 11) (j := 14) C dX11_text_100 lkF_X11_103 (fun r hr => by cases hr; rfl) rfl h (fun M23 h => ?_)
            exact q_iret C dX11_text_103 rfl (by decide) (by decide) (Option.some.inj h)
          have h := q_iteF h hs36_1
          refine q_lks (off := 68) (tgt := 104) C dX11_text_36 (by decide) (by first | (rw [lv_osw hs36_0 (by decide)]; rw [lv_osw hs36_1 (by decide)]; done) | (rw [lv_osw hs36_0 (by decide)]; rw [lv_osw hs36_1 (by decide)]; rfl)) (by decide) ?_
          refine q_aload_n C dX11_text_104 rfl ?_
          refine x_getR (ci := 11) (j := 5) C dX11_text_105 lkF_X11_43 rfl h (fun c24 h => ?_)
          refine x_nn h (fun r25 h => ?_)
          refine q_aload_n C dX11_text_108 rfl ?_
          refine x_getI (ci := 11) (j := 15) C dX11_text_109 lkF_X11_107 rfl h (fun v26 h => ?_)
          refine q_aload_n C dX11_text_112 rfl ?_
          refine x_getR (ci := 11) (j := 13) C dX11_text_113 lkF_X11_99 rfl h (fun c27 h => ?_)
          refine x_nn h (fun r28 h => ?_)
          refine x_aast C dX11_text_116 (by decide) h (fun M29 h => ?_)
          refine q_aload_n C dX11_text_117 rfl ?_
          refine x_new (ci := 10) C dX11_text_118 rfl clok_10 wd_122 wd_313 wd_11 df_10 h (by decide) (fun k30 M31 h => ?_)
          refine q_dup C dX11_text_121 rfl ?_
          obtain ⟨⟨_, M33⟩, e1, h⟩ := q_bind h
          refine x_callI C dX11_text_122 lkM_X11_98 mI_X10_init (c_X10_init _ _ _ _ e1) rfl rfl (Nat.le_of_ble_eq_true rfl) (by decide) (by decide) ?_
          refine x_putR (ci := 11) (j := 13) (k30 + 1) C dX11_text_125 lkF_X11_99 (fun r hr => by cases hr; exact Or.inl rfl) (Or.inl ⟨_, rfl⟩) rfl h (fun M34 h => ?_)
          refine q_aload_n C dX11_text_128 rfl ?_
          refine q_dup C dX11_text_129 rfl ?_
          refine x_getI (ci := 11) (j := 15) C dX11_text_130 lkF_X11_107 rfl h (fun v35 h => ?_)
          refine q_dup_x1 C dX11_text_133 rfl rfl ?_
          refine x_iconst (v := (1 : Int32)) C dX11_text_134 (by decide) ?_
          refine q_iadd C dX11_text_135 ?_
          refine x_putI (ci := 11) (j := 15) C dX11_text_136 lkF_X11_107 (fun r hr => by cases hr; rfl) rfl h (fun M36 h => ?_)
          exact q_iret C dX11_text_139 rfl (by decide) (by decide) (Option.some.inj h)
noncomputable def F_X11_rule (l0 : Nat) (l1 : Int32) (M : q_Mem) : Option (Int32) := (q_gI M l0 11 18 (fun v1 => (if v1 = 0 then some (-1 : Int32) else (if l1 = (0 : Int32) then (q_gR M l0 11 6 (fun c2 => q_nn c2 (fun r3 => (q_gR M r3 8 0 (fun c4 => q_nn c4 (fun r5 => (q_lI M 0 r5 (1 : Int32) (fun v6 => some v6)))))))) else (if l1 = (1 : Int32) then (q_gR M l0 11 1 (fun c7 => q_nn c7 (fun r8 => (q_gR M r8 3 0 (fun c9 => q_nn c9 (fun r10 => (q_lI M 0 r10 (1 : Int32) (fun v11 => some v11)))))))) else (if l1 = (2 : Int32) then (q_gR M l0 11 6 (fun c12 => q_nn c12 (fun r13 => (q_gR M r13 8 0 (fun c14 => q_nn c14 (fun r15 => (q_lI M 0 r15 (2 : Int32) (fun v16 => some v16)))))))) else some (-1 : Int32)))))))
set_option maxRecDepth 100000 in
set_option maxHeartbeats 4000000 in
theorem c_X11_rule (l : Launch) (G : q_G) (l0 : Nat) (l1 : Int32) (M : q_Mem) {r : Int32} (h : F_X11_rule l0 l1 M = some r) : q_Met l G yX11_rule cX11_rule 2 (Option.some Jvm.ClassFile.FieldType.int) 1 0 0 [.ref l0, .int l1] M (some (.int r)) M := by
  unfold F_X11_rule at h
  refine q_enter [some (.ref l0), some (.int l1)] (by decide) (Nat.le_of_ble_eq_true rfl) rfl (fun K C => ?_)
  refine q_aload_n C dX11_rule_0 rfl ?_
  refine x_getI (ci := 11) (j := 18) C dX11_rule_1 lkF_X11_116 rfl h (fun v1 h => ?_)
  refine q_if_ne (tgt := 9) C dX11_rule_4 (by decide) h (fun _ h => ?_) (fun _ h => ?_)
  · refine x_iconst (v := (-1 : Int32)) C dX11_rule_7 (by decide) ?_
    exact q_iret (res := (r, M)) C dX11_rule_8 rfl (by decide) (by decide) (congrArg (fun z => (z, M)) (Option.some.inj h))
  · refine q_iload_n C dX11_rule_9 rfl ?_
    by_cases hs10_0 : l1 = (0 : Int32)
    · have h := q_iteT h hs10_0
      refine q_tsIn (tgt := 36) C dX11_rule_10 hs10_0 (by decide) (by decide) rfl (by decide) ?_
      refine q_aload_n C dX11_rule_36 rfl ?_
      refine x_getR (ci := 11) (j := 6) C dX11_rule_37 lkF_X11_50 rfl h (fun c2 h => ?_)
      refine x_nn h (fun r3 h => ?_)
      refine x_getR (ci := 8) (j := 0) C dX11_rule_40 lkF_X11_156 rfl h (fun c4 h => ?_)
      refine x_nn h (fun r5 h => ?_)
      refine x_iconst (v := (1 : Int32)) C dX11_rule_43 (by decide) ?_
      refine x_iald C dX11_rule_44 h (fun v6 h => ?_)
      exact q_iret (res := (r, M)) C dX11_rule_45 rfl (by decide) (by decide) (congrArg (fun z => (z, M)) (Option.some.inj h))
    have h := q_iteF h hs10_0
    by_cases hs10_1 : l1 = (1 : Int32)
    · have h := q_iteT h hs10_1
      refine q_tsIn (tgt := 46) C dX11_rule_10 hs10_1 (by decide) (by decide) rfl (by decide) ?_
      refine q_aload_n C dX11_rule_46 rfl ?_
      refine x_getR (ci := 11) (j := 1) C dX11_rule_47 lkF_X11_19 rfl h (fun c7 h => ?_)
      refine x_nn h (fun r8 h => ?_)
      refine x_getR (ci := 3) (j := 0) C dX11_rule_50 lkF_X11_160 rfl h (fun c9 h => ?_)
      refine x_nn h (fun r10 h => ?_)
      refine x_iconst (v := (1 : Int32)) C dX11_rule_53 (by decide) ?_
      refine x_iald C dX11_rule_54 h (fun v11 h => ?_)
      exact q_iret (res := (r, M)) C dX11_rule_55 rfl (by decide) (by decide) (congrArg (fun z => (z, M)) (Option.some.inj h))
    have h := q_iteF h hs10_1
    by_cases hs10_2 : l1 = (2 : Int32)
    · have h := q_iteT h hs10_2
      refine q_tsIn (tgt := 56) C dX11_rule_10 hs10_2 (by decide) (by decide) rfl (by decide) ?_
      refine q_aload_n C dX11_rule_56 rfl ?_
      refine x_getR (ci := 11) (j := 6) C dX11_rule_57 lkF_X11_50 rfl h (fun c12 h => ?_)
      refine x_nn h (fun r13 h => ?_)
      refine x_getR (ci := 8) (j := 0) C dX11_rule_60 lkF_X11_156 rfl h (fun c14 h => ?_)
      refine x_nn h (fun r15 h => ?_)
      refine x_iconst (v := (2 : Int32)) C dX11_rule_63 (by decide) ?_
      refine x_iald C dX11_rule_64 h (fun v16 h => ?_)
      exact q_iret (res := (r, M)) C dX11_rule_65 rfl (by decide) (by decide) (congrArg (fun z => (z, M)) (Option.some.inj h))
    have h := q_iteF h hs10_2
    have ho10 : (l1 : Int32).toInt < 0 ∨ 2 < (l1 : Int32).toInt := by
      have z0 := lv_neT (a := 0) hs10_0 (by decide)
      have z1 := lv_neT (a := 1) hs10_1 (by decide)
      have z2 := lv_neT (a := 2) hs10_2 (by decide)
      omega
    refine q_tsOut (tgt := 66) C dX11_rule_10 ho10 (by decide) ?_
    refine x_iconst (v := (-1 : Int32)) C dX11_rule_66 (by decide) ?_
    exact q_iret (res := (r, M)) C dX11_rule_67 rfl (by decide) (by decide) (congrArg (fun z => (z, M)) (Option.some.inj h))
noncomputable def F_X11_dish (l0 : Nat) (l1 : Int32) (l2 : Int32) (M : q_Mem) : Option (Int32) := (q_gR M l0 11 1 (fun c1 => q_nn c1 (fun r2 => (q_ob M r2 3 ((F_X3_hasDish r2 l1 M).bind (fun u3 => (if u3 = 0 then some (-1 : Int32) else (if l2 < 0 then some (-1 : Int32) else (if l2 < (3 : Int32) then (q_gR M l0 11 1 (fun c4 => q_nn c4 (fun r5 => (q_ob M r5 3 ((F_X3_ofDish r5 l1 l2 M).bind (fun u6 => some u6)))))) else some (-1 : Int32))))))))))
set_option maxRecDepth 100000 in
set_option maxHeartbeats 4000000 in
theorem c_X11_dish (l : Launch) (G : q_G) (l0 : Nat) (l1 : Int32) (l2 : Int32) (M : q_Mem) {r : Int32} (h : F_X11_dish l0 l1 l2 M = some r) : q_Met l G yX11_dish cX11_dish 3 (Option.some Jvm.ClassFile.FieldType.int) 2 0 0 [.ref l0, .int l1, .int l2] M (some (.int r)) M := by
  unfold F_X11_dish at h
  refine q_enter [some (.ref l0), some (.int l1), some (.int l2)] (by decide) (Nat.le_of_ble_eq_true rfl) rfl (fun K C => ?_)
  refine q_aload_n C dX11_dish_0 rfl ?_
  refine x_getR (ci := 11) (j := 1) C dX11_dish_1 lkF_X11_19 rfl h (fun c1 h => ?_)
  refine x_nn h (fun r2 h => ?_)
  refine q_iload_n C dX11_dish_4 rfl ?_
  obtain ⟨hk, h⟩ := q_obE h
  obtain ⟨u3, e1, h⟩ := q_bind h
  refine x_callV0 C dX11_dish_5 lkM_X11_163 mV_X3_hasDish ⟨_, rfl, rfl⟩ hk (c_X3_hasDish _ _ _ _ _ e1) rfl rfl (Nat.le_of_ble_eq_true rfl) (by decide) (by decide) ?_
  refine q_if_eq (tgt := 20) C dX11_dish_8 (by decide) h (fun _ h => ?_) (fun _ h => ?_)
  · refine x_iconst (v := (-1 : Int32)) C dX11_dish_20 (by decide) ?_
    exact q_iret (res := (r, M)) C dX11_dish_21 rfl (by decide) (by decide) (congrArg (fun z => (z, M)) (Option.some.inj h))
  · refine q_iload_n C dX11_dish_11 rfl ?_
    refine q_if_lt (tgt := 20) C dX11_dish_12 (by decide) h (fun _ h => ?_) (fun _ h => ?_)
    · refine x_iconst (v := (-1 : Int32)) C dX11_dish_20 (by decide) ?_
      exact q_iret (res := (r, M)) C dX11_dish_21 rfl (by decide) (by decide) (congrArg (fun z => (z, M)) (Option.some.inj h))
    · refine q_iload_n C dX11_dish_15 rfl ?_
      refine x_iconst (v := (3 : Int32)) C dX11_dish_16 (by decide) ?_
      refine q_icmp_lt (tgt := 22) C dX11_dish_17 (by decide) h (fun _ h => ?_) (fun _ h => ?_)
      · refine q_aload_n C dX11_dish_22 rfl ?_
        refine x_getR (ci := 11) (j := 1) C dX11_dish_23 lkF_X11_19 rfl h (fun c4 h => ?_)
        refine x_nn h (fun r5 h => ?_)
        refine q_iload_n C dX11_dish_26 rfl ?_
        refine q_iload_n C dX11_dish_27 rfl ?_
        obtain ⟨hk, h⟩ := q_obE h
        obtain ⟨u6, e1, h⟩ := q_bind h
        refine x_callV0 C dX11_dish_28 lkM_X11_166 mV_X3_ofDish ⟨_, rfl, rfl⟩ hk (c_X3_ofDish _ _ _ _ _ _ e1) rfl rfl (Nat.le_of_ble_eq_true rfl) (by decide) (by decide) ?_
        exact q_iret (res := (r, M)) C dX11_dish_31 rfl (by decide) (by decide) (congrArg (fun z => (z, M)) (Option.some.inj h))
      · refine x_iconst (v := (-1 : Int32)) C dX11_dish_20 (by decide) ?_
        exact q_iret (res := (r, M)) C dX11_dish_21 rfl (by decide) (by decide) (congrArg (fun z => (z, M)) (Option.some.inj h))
noncomputable def J_X11_law_39 (s0 : Nat) (s1 : Nat) (M : q_Mem) : Option (Int32 × q_Mem) := (q_pR M s0 1 3 s1 (fun M5 => q_rz (1 : Int32) M5))
set_option maxRecDepth 100000 in
set_option maxHeartbeats 4000000 in
theorem jW_X11_law_39 {K : q_K} (C : q_C K yX11_law cX11_law 2 (Option.some Jvm.ClassFile.FieldType.boolean) 1 0 0) (s0 : Nat) (s1 : Nat) (M : q_Mem) {r : Int32} {M' : q_Mem} (h : J_X11_law_39 s0 s1 M = some (r, M')) : q_W K 2 (q_Q K (some (.int r)) M' 0 0) 0 0 M 39 [none, none] [q_rc s1, .ref s0] := by
  unfold J_X11_law_39 at h
  refine x_putR (ci := 1) (j := 3) s1 C dX11_law_39 lkF_X11_188 (fun r hr => by cases hr; exact Or.inl rfl) (Or.inl ⟨_, rfl⟩) rfl h (fun M5 h => ?_)
  refine x_iconst (v := (1 : Int32)) C dX11_law_42 (by decide) ?_
  exact q_zret C dX11_law_43 rfl (by decide) (by decide) (q_rzE h).1 (q_rzE h).2
noncomputable def F_X11_law (l0 : Nat) (l1 : Int32) (M : q_Mem) : Option (Int32 × q_Mem) := (if l1 < (-1 : Int32) then q_rz (0 : Int32) M else (q_gI M l0 11 14 (fun v1 => (if l1 < v1 then (q_pI M l0 11 16 l1 (fun M2 => (q_gR M2 l0 11 9 (fun c3 => q_nn c3 (fun r4 => (if l1 = (-1 : Int32) then J_X11_law_39 r4 0 M2 else (q_gR M2 l0 11 4 (fun c6 => q_nn c6 (fun r7 => (q_lR M2 3 r7 l1 (fun c8 => J_X11_law_39 r4 c8 M2))))))))))) else q_rz (0 : Int32) M))))
set_option maxRecDepth 100000 in
set_option maxHeartbeats 4000000 in
theorem c_X11_law (l : Launch) (G : q_G) (l0 : Nat) (l1 : Int32) (M : q_Mem) {r : Int32} {M' : q_Mem} (h : F_X11_law l0 l1 M = some (r, M')) : q_Met l G yX11_law cX11_law 2 (Option.some Jvm.ClassFile.FieldType.boolean) 1 0 0 [.ref l0, .int l1] M (some (.int r)) M' := by
  unfold F_X11_law at h
  refine q_enter [some (.ref l0), some (.int l1)] (by decide) (Nat.le_of_ble_eq_true rfl) rfl (fun K C => ?_)
  refine q_iload_n C dX11_law_0 rfl ?_
  refine x_iconst (v := (-1 : Int32)) C dX11_law_1 (by decide) ?_
  refine q_icmp_lt (tgt := 13) C dX11_law_2 (by decide) h (fun _ h => ?_) (fun _ h => ?_)
  · refine x_iconst (v := (0 : Int32)) C dX11_law_13 (by decide) ?_
    exact q_zret C dX11_law_14 rfl (by decide) (by decide) (q_rzE h).1 (q_rzE h).2
  · refine q_iload_n C dX11_law_5 rfl ?_
    refine q_aload_n C dX11_law_6 rfl ?_
    refine x_getI (ci := 11) (j := 14) C dX11_law_7 lkF_X11_103 rfl h (fun v1 h => ?_)
    refine q_icmp_lt (tgt := 15) C dX11_law_10 (by decide) h (fun _ h => ?_) (fun _ h => ?_)
    · refine q_aload_n C dX11_law_15 rfl ?_
      refine q_iload_n C dX11_law_16 rfl ?_
      refine x_putI (ci := 11) (j := 16) C dX11_law_17 lkF_X11_110 (fun r hr => by cases hr; rfl) rfl h (fun M2 h => ?_)
      refine q_aload_n C dX11_law_20 rfl ?_
      refine x_getR (ci := 11) (j := 9) C dX11_law_21 lkF_X11_69 rfl h (fun c3 h => ?_)
      refine x_nn h (fun r4 h => ?_)
      refine q_iload_n C dX11_law_24 rfl ?_
      refine x_iconst (v := (-1 : Int32)) C dX11_law_25 (by decide) ?_
      refine q_icmp_ne (tgt := 33) C dX11_law_26 (by decide) h (fun _ h => ?_) (fun _ h => ?_)
      · refine q_null C dX11_law_29 ?_
        refine q_goto (tgt := 39) C dX11_law_30 (by decide) ?_
        exact q_msk [false, false] (jW_X11_law_39 C r4 0 M2 h)
      · refine q_aload_n C dX11_law_33 rfl ?_
        refine x_getR (ci := 11) (j := 4) C dX11_law_34 lkF_X11_37 rfl h (fun c6 h => ?_)
        refine x_nn h (fun r7 h => ?_)
        refine q_iload_n C dX11_law_37 rfl ?_
        refine x_aald C dX11_law_38 (by decide) h (fun c8 h => ?_)
        exact q_msk [false, false] (jW_X11_law_39 C r4 c8 M2 h)
    · refine x_iconst (v := (0 : Int32)) C dX11_law_13 (by decide) ?_
      exact q_zret C dX11_law_14 rfl (by decide) (by decide) (q_rzE h).1 (q_rzE h).2
noncomputable def F_X11_fever (l0 : Nat) (l1 : Int32) (M : q_Mem) : Option (Int32 × q_Mem) := (if l1 < 0 then q_rz (0 : Int32) M else (if (9 : Int32) < l1 then q_rz (0 : Int32) M else (q_gI M l0 11 17 (fun v1 => (if l1 = v1 then q_rz (0 : Int32) M else (q_pI M l0 11 17 l1 (fun M2 => q_rz (1 : Int32) M2)))))))
set_option maxRecDepth 100000 in
set_option maxHeartbeats 4000000 in
theorem c_X11_fever (l : Launch) (G : q_G) (l0 : Nat) (l1 : Int32) (M : q_Mem) {r : Int32} {M' : q_Mem} (h : F_X11_fever l0 l1 M = some (r, M')) : q_Met l G yX11_fever cX11_fever 2 (Option.some Jvm.ClassFile.FieldType.boolean) 1 0 0 [.ref l0, .int l1] M (some (.int r)) M' := by
  unfold F_X11_fever at h
  refine q_enter [some (.ref l0), some (.int l1)] (by decide) (Nat.le_of_ble_eq_true rfl) rfl (fun K C => ?_)
  refine q_iload_n C dX11_fever_0 rfl ?_
  refine q_if_lt (tgt := 18) C dX11_fever_1 (by decide) h (fun _ h => ?_) (fun _ h => ?_)
  · refine x_iconst (v := (0 : Int32)) C dX11_fever_18 (by decide) ?_
    exact q_zret C dX11_fever_19 rfl (by decide) (by decide) (q_rzE h).1 (q_rzE h).2
  · refine q_iload_n C dX11_fever_4 rfl ?_
    refine x_bipush (v := (9 : Int32)) C dX11_fever_5 (by decide) ?_
    refine q_icmp_gt (tgt := 18) C dX11_fever_7 (by decide) h (fun _ h => ?_) (fun _ h => ?_)
    · refine x_iconst (v := (0 : Int32)) C dX11_fever_18 (by decide) ?_
      exact q_zret C dX11_fever_19 rfl (by decide) (by decide) (q_rzE h).1 (q_rzE h).2
    · refine q_iload_n C dX11_fever_10 rfl ?_
      refine q_aload_n C dX11_fever_11 rfl ?_
      refine x_getI (ci := 11) (j := 17) C dX11_fever_12 lkF_X11_113 rfl h (fun v1 h => ?_)
      refine q_icmp_ne (tgt := 20) C dX11_fever_15 (by decide) h (fun _ h => ?_) (fun _ h => ?_)
      · refine x_iconst (v := (0 : Int32)) C dX11_fever_18 (by decide) ?_
        exact q_zret C dX11_fever_19 rfl (by decide) (by decide) (q_rzE h).1 (q_rzE h).2
      · refine q_aload_n C dX11_fever_20 rfl ?_
        refine q_iload_n C dX11_fever_21 rfl ?_
        refine x_putI (ci := 11) (j := 17) C dX11_fever_22 lkF_X11_113 (fun r hr => by cases hr; rfl) rfl h (fun M2 h => ?_)
        refine x_iconst (v := (1 : Int32)) C dX11_fever_25 (by decide) ?_
        exact q_zret C dX11_fever_26 rfl (by decide) (by decide) (q_rzE h).1 (q_rzE h).2
noncomputable def F_X11_act (l0 : Nat) (l1 : Int32) (l2 : Int32) (l3 : Int32) (M : q_Mem) : Option (Int32 × q_Mem) := (q_gI M l0 11 18 (fun v1 => (if v1 = 0 then q_rz (0 : Int32) M else (q_gR M l0 11 7 (fun c2 => q_nn c2 (fun r3 => (q_gR M l0 11 6 (fun c4 => q_nn c4 (fun r5 => (q_ob M r3 8 ((F_X8_copyFrom r3 r5 M).bind (fun x => match x with | (_, M7) => (q_gR M7 l0 11 10 (fun c8 => q_nn c8 (fun r9 => (q_gR M7 l0 11 6 (fun c10 => q_nn c10 (fun r11 => (q_ob M7 r9 0 ((F_X0_carryOut r9 r11 l1 l2 l3 M7).bind (fun x => match x with | (u12, M13) => (if u12 = 0 then q_rz (0 : Int32) M13 else (q_gR M13 l0 11 8 (fun c14 => q_nn c14 (fun r15 => (q_gR M13 l0 11 7 (fun c16 => q_nn c16 (fun r17 => (q_ob M13 r15 6 ((F_X6_keepAct r15 r17 M13).bind (fun x => match x with | (_, M19) => (if l1 = 0 then (q_gR M19 l0 11 8 (fun c20 => q_nn c20 (fun r21 => (q_gR M19 l0 11 6 (fun c22 => q_nn c22 (fun r23 => (q_gR M19 l0 11 9 (fun c24 => q_nn c24 (fun r25 => (q_ob M19 r21 6 ((F_X6_writeLog r21 r23 r25 M19).bind (fun x => match x with | (_, M27) => q_rz (1 : Int32) M27)))))))))))) else q_rz (1 : Int32) M19))))))))))))))))))))))))))))))))
set_option maxRecDepth 100000 in
set_option maxHeartbeats 4000000 in
theorem c_X11_act (l : Launch) (G : q_G) (l0 : Nat) (l1 : Int32) (l2 : Int32) (l3 : Int32) (M : q_Mem) {r : Int32} {M' : q_Mem} (h : F_X11_act l0 l1 l2 l3 M = some (r, M')) : q_Met l G yX11_act cX11_act 4 (Option.some Jvm.ClassFile.FieldType.boolean) 7 0 0 [.ref l0, .int l1, .int l2, .int l3] M (some (.int r)) M' := by
  unfold F_X11_act at h
  refine q_enter [some (.ref l0), some (.int l1), some (.int l2), some (.int l3)] (by decide) (Nat.le_of_ble_eq_true rfl) rfl (fun K C => ?_)
  refine q_aload_n C dX11_act_0 rfl ?_
  refine x_getI (ci := 11) (j := 18) C dX11_act_1 lkF_X11_116 rfl h (fun v1 h => ?_)
  refine q_if_ne (tgt := 9) C dX11_act_4 (by decide) h (fun _ h => ?_) (fun _ h => ?_)
  · refine x_iconst (v := (0 : Int32)) C dX11_act_7 (by decide) ?_
    exact q_zret C dX11_act_8 rfl (by decide) (by decide) (q_rzE h).1 (q_rzE h).2
  · refine q_aload_n C dX11_act_9 rfl ?_
    refine x_getR (ci := 11) (j := 7) C dX11_act_10 lkF_X11_54 rfl h (fun c2 h => ?_)
    refine x_nn h (fun r3 h => ?_)
    refine q_aload_n C dX11_act_13 rfl ?_
    refine x_getR (ci := 11) (j := 6) C dX11_act_14 lkF_X11_50 rfl h (fun c4 h => ?_)
    refine x_nn h (fun r5 h => ?_)
    obtain ⟨hk, h⟩ := q_obE h
    obtain ⟨⟨_, M7⟩, e1, h⟩ := q_bind h
    refine x_callVv0 C dX11_act_17 lkM_X11_204 mV_X8_copyFrom ⟨_, rfl, rfl⟩ hk (c_X8_copyFrom _ _ _ _ _ e1) rfl rfl (Nat.le_of_ble_eq_true rfl) (by decide) (by decide) ?_
    refine q_aload_n C dX11_act_20 rfl ?_
    refine x_getR (ci := 11) (j := 10) C dX11_act_21 lkF_X11_78 rfl h (fun c8 h => ?_)
    refine x_nn h (fun r9 h => ?_)
    refine q_aload_n C dX11_act_24 rfl ?_
    refine x_getR (ci := 11) (j := 6) C dX11_act_25 lkF_X11_50 rfl h (fun c10 h => ?_)
    refine x_nn h (fun r11 h => ?_)
    refine q_iload_n C dX11_act_28 rfl ?_
    refine q_iload_n C dX11_act_29 rfl ?_
    refine q_iload_n C dX11_act_30 rfl ?_
    obtain ⟨hk, h⟩ := q_obE h
    obtain ⟨⟨u12, M13⟩, e1, h⟩ := q_bind h
    refine x_callV0 C dX11_act_31 lkM_X11_411 mV_X0_carryOut ⟨_, rfl, rfl⟩ hk (c_X0_carryOut _ _ _ _ _ _ _ _ e1) rfl rfl (Nat.le_of_ble_eq_true rfl) (by decide) (by decide) ?_
    refine q_if_ne (tgt := 39) C dX11_act_34 (by decide) h (fun _ h => ?_) (fun _ h => ?_)
    · refine x_iconst (v := (0 : Int32)) C dX11_act_37 (by decide) ?_
      exact q_zret C dX11_act_38 rfl (by decide) (by decide) (q_rzE h).1 (q_rzE h).2
    · refine q_aload_n C dX11_act_39 rfl ?_
      refine x_getR (ci := 11) (j := 8) C dX11_act_40 lkF_X11_60 rfl h (fun c14 h => ?_)
      refine x_nn h (fun r15 h => ?_)
      refine q_aload_n C dX11_act_43 rfl ?_
      refine x_getR (ci := 11) (j := 7) C dX11_act_44 lkF_X11_54 rfl h (fun c16 h => ?_)
      refine x_nn h (fun r17 h => ?_)
      obtain ⟨hk, h⟩ := q_obE h
      obtain ⟨⟨_, M19⟩, e1, h⟩ := q_bind h
      refine x_callVv0 C dX11_act_47 lkM_X11_214 mV_X6_keepAct ⟨_, rfl, rfl⟩ hk (c_X6_keepAct _ _ _ _ _ e1) rfl rfl (Nat.le_of_ble_eq_true rfl) (by decide) (by decide) ?_
      refine q_iload_n C dX11_act_50 rfl ?_
      refine q_if_ne (tgt := 69) C dX11_act_51 (by decide) h (fun _ h => ?_) (fun _ h => ?_)
      · refine q_aload_n C dX11_act_54 rfl ?_
        refine x_getR (ci := 11) (j := 8) C dX11_act_55 lkF_X11_60 rfl h (fun c20 h => ?_)
        refine x_nn h (fun r21 h => ?_)
        refine q_aload_n C dX11_act_58 rfl ?_
        refine x_getR (ci := 11) (j := 6) C dX11_act_59 lkF_X11_50 rfl h (fun c22 h => ?_)
        refine x_nn h (fun r23 h => ?_)
        refine q_aload_n C dX11_act_62 rfl ?_
        refine x_getR (ci := 11) (j := 9) C dX11_act_63 lkF_X11_69 rfl h (fun c24 h => ?_)
        refine x_nn h (fun r25 h => ?_)
        obtain ⟨hk, h⟩ := q_obE h
        obtain ⟨⟨_, M27⟩, e1, h⟩ := q_bind h
        refine x_callVv0 C dX11_act_66 lkM_X11_217 mV_X6_writeLog ⟨_, rfl, rfl⟩ hk (c_X6_writeLog _ _ _ _ _ _ e1) rfl rfl (Nat.le_of_ble_eq_true rfl) (by decide) (by decide) ?_
        refine x_iconst (v := (1 : Int32)) C dX11_act_69 (by decide) ?_
        exact q_zret C dX11_act_70 rfl (by decide) (by decide) (q_rzE h).1 (q_rzE h).2
      · refine x_iconst (v := (1 : Int32)) C dX11_act_69 (by decide) ?_
        exact q_zret C dX11_act_70 rfl (by decide) (by decide) (q_rzE h).1 (q_rzE h).2
noncomputable def F_X11_day (l0 : Nat) (M : q_Mem) : Option (Int32 × q_Mem) := (q_ob M l0 11 ((F_X11_act l0 (0 : Int32) (-1 : Int32) (-1 : Int32) M).bind (fun x => match x with | (u1, M2) => (if u1 = 0 then some ((-1 : Int32), M2) else (q_gR M2 l0 11 9 (fun c3 => q_nn c3 (fun r4 => (q_gI M2 r4 1 10 (fun v5 => ((F_J6_bitCount_0f7a4 v5 M2).bind (fun u6 => some (u6, M2))))))))))))
set_option maxRecDepth 100000 in
set_option maxHeartbeats 4000000 in
theorem c_X11_day (l : Launch) (G : q_G) (l0 : Nat) (M : q_Mem) {r : Int32} {M' : q_Mem} (h : F_X11_day l0 M = some (r, M')) : q_Met l G yX11_day cX11_day 1 (Option.some Jvm.ClassFile.FieldType.int) 8 0 0 [.ref l0] M (some (.int r)) M' := by
  unfold F_X11_day at h
  refine q_enter [some (.ref l0)] (by decide) (Nat.le_of_ble_eq_true rfl) rfl (fun K C => ?_)
  refine q_aload_n C dX11_day_0 rfl ?_
  refine x_iconst (v := (0 : Int32)) C dX11_day_1 (by decide) ?_
  refine x_iconst (v := (-1 : Int32)) C dX11_day_2 (by decide) ?_
  refine x_iconst (v := (-1 : Int32)) C dX11_day_3 (by decide) ?_
  obtain ⟨hk, h⟩ := q_obE h
  obtain ⟨⟨u1, M2⟩, e1, h⟩ := q_bind h
  refine x_callV0 C dX11_day_4 lkM_X11_192 mV_X11_act ⟨_, rfl, rfl⟩ hk (c_X11_act _ _ _ _ _ _ _ e1) rfl rfl (Nat.le_of_ble_eq_true rfl) (by decide) (by decide) ?_
  refine q_if_eq (tgt := 23) C dX11_day_7 (by decide) h (fun _ h => ?_) (fun _ h => ?_)
  · refine x_iconst (v := (-1 : Int32)) C dX11_day_23 (by decide) ?_
    exact q_iret C dX11_day_24 rfl (by decide) (by decide) (Option.some.inj h)
  · refine q_aload_n C dX11_day_10 rfl ?_
    refine x_getR (ci := 11) (j := 9) C dX11_day_11 lkF_X11_69 rfl h (fun c3 h => ?_)
    refine x_nn h (fun r4 h => ?_)
    refine x_getI (ci := 1) (j := 10) C dX11_day_14 lkF_X11_196 rfl h (fun v5 h => ?_)
    obtain ⟨u6, e1, h⟩ := q_bind h
    refine x_callS0 C dX11_day_17 lkM_X11_199 mS_J6_bitCount_0f7a4 (c_J6_bitCount_0f7a4 _ _ _ _ e1) rfl rfl (Nat.le_of_ble_eq_true rfl) (by decide) (by decide) ?_
    refine q_goto (tgt := 24) C dX11_day_20 (by decide) ?_
    exact q_iret C dX11_day_24 rfl (by decide) (by decide) (Option.some.inj h)
noncomputable def F_X11_choose (l0 : Nat) (l1 : Int32) (M : q_Mem) : Option (Int32 × q_Mem) := (q_gR M l0 11 6 (fun c1 => q_nn c1 (fun r2 => (q_gR M r2 8 0 (fun c3 => q_nn c3 (fun r4 => (q_lI M 0 r4 (3 : Int32) (fun v5 => (q_ob M l0 11 ((F_X11_act l0 (1 : Int32) l1 (-1 : Int32) M).bind (fun x => match x with | (u6, M7) => (if u6 = 0 then some ((-2 : Int32), M7) else some (v5, M7)))))))))))))
set_option maxRecDepth 100000 in
set_option maxHeartbeats 4000000 in
theorem c_X11_choose (l : Launch) (G : q_G) (l0 : Nat) (l1 : Int32) (M : q_Mem) {r : Int32} {M' : q_Mem} (h : F_X11_choose l0 l1 M = some (r, M')) : q_Met l G yX11_choose cX11_choose 3 (Option.some Jvm.ClassFile.FieldType.int) 8 0 0 [.ref l0, .int l1] M (some (.int r)) M' := by
  unfold F_X11_choose at h
  refine q_enter [some (.ref l0), some (.int l1), none] (by decide) (Nat.le_of_ble_eq_true rfl) rfl (fun K C => ?_)
  refine q_aload_n C dX11_choose_0 rfl ?_
  refine x_getR (ci := 11) (j := 6) C dX11_choose_1 lkF_X11_50 rfl h (fun c1 h => ?_)
  refine x_nn h (fun r2 h => ?_)
  refine x_getR (ci := 8) (j := 0) C dX11_choose_4 lkF_X11_156 rfl h (fun c3 h => ?_)
  refine x_nn h (fun r4 h => ?_)
  refine x_iconst (v := (3 : Int32)) C dX11_choose_7 (by decide) ?_
  refine x_iald C dX11_choose_8 h (fun v5 h => ?_)
  refine q_istore_n (L' := [some (.ref l0), some (.int l1), some (.int v5)]) C dX11_choose_9 (by decide) rfl rfl ?_
  refine q_aload_n C dX11_choose_10 rfl ?_
  refine x_iconst (v := (1 : Int32)) C dX11_choose_11 (by decide) ?_
  refine q_iload_n C dX11_choose_12 rfl ?_
  refine x_iconst (v := (-1 : Int32)) C dX11_choose_13 (by decide) ?_
  obtain ⟨hk, h⟩ := q_obE h
  obtain ⟨⟨u6, M7⟩, e1, h⟩ := q_bind h
  refine x_callV0 C dX11_choose_14 lkM_X11_192 mV_X11_act ⟨_, rfl, rfl⟩ hk (c_X11_act _ _ _ _ _ _ _ e1) rfl rfl (Nat.le_of_ble_eq_true rfl) (by decide) (by decide) ?_
  refine q_if_eq (tgt := 24) C dX11_choose_17 (by decide) h (fun _ h => ?_) (fun _ h => ?_)
  · refine x_bipush (v := (-2 : Int32)) C dX11_choose_24 (by decide) ?_
    exact q_iret C dX11_choose_26 rfl (by decide) (by decide) (Option.some.inj h)
  · refine q_iload_n C dX11_choose_20 rfl ?_
    refine q_goto (tgt := 26) C dX11_choose_21 (by decide) ?_
    exact q_iret C dX11_choose_26 rfl (by decide) (by decide) (Option.some.inj h)
noncomputable def F_X11_ill (l0 : Nat) (M : q_Mem) : Option (Int32 × q_Mem) := (q_ob M l0 11 ((F_X11_act l0 (2 : Int32) (-1 : Int32) (-1 : Int32) M).bind (fun x => match x with | (u1, M2) => (if u1 = 0 then some ((-1 : Int32), M2) else (q_gR M2 l0 11 6 (fun c3 => q_nn c3 (fun r4 => (q_gR M2 r4 8 0 (fun c5 => q_nn c5 (fun r6 => (q_lI M2 0 r6 (1 : Int32) (fun v7 => some (v7, M2)))))))))))))
set_option maxRecDepth 100000 in
set_option maxHeartbeats 4000000 in
theorem c_X11_ill (l : Launch) (G : q_G) (l0 : Nat) (M : q_Mem) {r : Int32} {M' : q_Mem} (h : F_X11_ill l0 M = some (r, M')) : q_Met l G yX11_ill cX11_ill 1 (Option.some Jvm.ClassFile.FieldType.int) 8 0 0 [.ref l0] M (some (.int r)) M' := by
  unfold F_X11_ill at h
  refine q_enter [some (.ref l0)] (by decide) (Nat.le_of_ble_eq_true rfl) rfl (fun K C => ?_)
  refine q_aload_n C dX11_ill_0 rfl ?_
  refine x_iconst (v := (2 : Int32)) C dX11_ill_1 (by decide) ?_
  refine x_iconst (v := (-1 : Int32)) C dX11_ill_2 (by decide) ?_
  refine x_iconst (v := (-1 : Int32)) C dX11_ill_3 (by decide) ?_
  obtain ⟨hk, h⟩ := q_obE h
  obtain ⟨⟨u1, M2⟩, e1, h⟩ := q_bind h
  refine x_callV0 C dX11_ill_4 lkM_X11_192 mV_X11_act ⟨_, rfl, rfl⟩ hk (c_X11_act _ _ _ _ _ _ _ e1) rfl rfl (Nat.le_of_ble_eq_true rfl) (by decide) (by decide) ?_
  refine q_if_eq (tgt := 22) C dX11_ill_7 (by decide) h (fun _ h => ?_) (fun _ h => ?_)
  · refine x_iconst (v := (-1 : Int32)) C dX11_ill_22 (by decide) ?_
    exact q_iret C dX11_ill_23 rfl (by decide) (by decide) (Option.some.inj h)
  · refine q_aload_n C dX11_ill_10 rfl ?_
    refine x_getR (ci := 11) (j := 6) C dX11_ill_11 lkF_X11_50 rfl h (fun c3 h => ?_)
    refine x_nn h (fun r4 h => ?_)
    refine x_getR (ci := 8) (j := 0) C dX11_ill_14 lkF_X11_156 rfl h (fun c5 h => ?_)
    refine x_nn h (fun r6 h => ?_)
    refine x_iconst (v := (1 : Int32)) C dX11_ill_17 (by decide) ?_
    refine x_iald C dX11_ill_18 h (fun v7 h => ?_)
    refine q_goto (tgt := 23) C dX11_ill_19 (by decide) ?_
    exact q_iret C dX11_ill_23 rfl (by decide) (by decide) (Option.some.inj h)
noncomputable def F_X11_makeUp (l0 : Nat) (M : q_Mem) : Option (Int32 × q_Mem) := (q_ob M l0 11 ((F_X11_act l0 (3 : Int32) (-1 : Int32) (-1 : Int32) M).bind (fun x => match x with | (u1, M2) => (if u1 = 0 then some ((-1 : Int32), M2) else (q_gR M2 l0 11 6 (fun c3 => q_nn c3 (fun r4 => (q_gR M2 r4 8 0 (fun c5 => q_nn c5 (fun r6 => (q_lI M2 0 r6 (1 : Int32) (fun v7 => some (v7, M2)))))))))))))
set_option maxRecDepth 100000 in
set_option maxHeartbeats 4000000 in
theorem c_X11_makeUp (l : Launch) (G : q_G) (l0 : Nat) (M : q_Mem) {r : Int32} {M' : q_Mem} (h : F_X11_makeUp l0 M = some (r, M')) : q_Met l G yX11_makeUp cX11_makeUp 1 (Option.some Jvm.ClassFile.FieldType.int) 8 0 0 [.ref l0] M (some (.int r)) M' := by
  unfold F_X11_makeUp at h
  refine q_enter [some (.ref l0)] (by decide) (Nat.le_of_ble_eq_true rfl) rfl (fun K C => ?_)
  refine q_aload_n C dX11_makeUp_0 rfl ?_
  refine x_iconst (v := (3 : Int32)) C dX11_makeUp_1 (by decide) ?_
  refine x_iconst (v := (-1 : Int32)) C dX11_makeUp_2 (by decide) ?_
  refine x_iconst (v := (-1 : Int32)) C dX11_makeUp_3 (by decide) ?_
  obtain ⟨hk, h⟩ := q_obE h
  obtain ⟨⟨u1, M2⟩, e1, h⟩ := q_bind h
  refine x_callV0 C dX11_makeUp_4 lkM_X11_192 mV_X11_act ⟨_, rfl, rfl⟩ hk (c_X11_act _ _ _ _ _ _ _ e1) rfl rfl (Nat.le_of_ble_eq_true rfl) (by decide) (by decide) ?_
  refine q_if_eq (tgt := 22) C dX11_makeUp_7 (by decide) h (fun _ h => ?_) (fun _ h => ?_)
  · refine x_iconst (v := (-1 : Int32)) C dX11_makeUp_22 (by decide) ?_
    exact q_iret C dX11_makeUp_23 rfl (by decide) (by decide) (Option.some.inj h)
  · refine q_aload_n C dX11_makeUp_10 rfl ?_
    refine x_getR (ci := 11) (j := 6) C dX11_makeUp_11 lkF_X11_50 rfl h (fun c3 h => ?_)
    refine x_nn h (fun r4 h => ?_)
    refine x_getR (ci := 8) (j := 0) C dX11_makeUp_14 lkF_X11_156 rfl h (fun c5 h => ?_)
    refine x_nn h (fun r6 h => ?_)
    refine x_iconst (v := (1 : Int32)) C dX11_makeUp_17 (by decide) ?_
    refine x_iald C dX11_makeUp_18 h (fun v7 h => ?_)
    refine q_goto (tgt := 23) C dX11_makeUp_19 (by decide) ?_
    exact q_iret C dX11_makeUp_23 rfl (by decide) (by decide) (Option.some.inj h)
noncomputable def F_X11_stay (l0 : Nat) (l1 : Int32) (l2 : Int32) (M : q_Mem) : Option (Int32 × q_Mem) := (q_ob M l0 11 ((F_X11_act l0 (4 : Int32) l1 l2 M).bind (fun x => match x with | (u1, M2) => (if u1 = 0 then some ((-1 : Int32), M2) else (q_gR M2 l0 11 6 (fun c3 => q_nn c3 (fun r4 => (q_gR M2 r4 8 0 (fun c5 => q_nn c5 (fun r6 => (q_lI M2 0 r6 ((13 : Int32) + l1) (fun v7 => some (v7, M2)))))))))))))
set_option maxRecDepth 100000 in
set_option maxHeartbeats 4000000 in
theorem c_X11_stay (l : Launch) (G : q_G) (l0 : Nat) (l1 : Int32) (l2 : Int32) (M : q_Mem) {r : Int32} {M' : q_Mem} (h : F_X11_stay l0 l1 l2 M = some (r, M')) : q_Met l G yX11_stay cX11_stay 3 (Option.some Jvm.ClassFile.FieldType.int) 8 0 0 [.ref l0, .int l1, .int l2] M (some (.int r)) M' := by
  unfold F_X11_stay at h
  refine q_enter [some (.ref l0), some (.int l1), some (.int l2)] (by decide) (Nat.le_of_ble_eq_true rfl) rfl (fun K C => ?_)
  refine q_aload_n C dX11_stay_0 rfl ?_
  refine x_iconst (v := (4 : Int32)) C dX11_stay_1 (by decide) ?_
  refine q_iload_n C dX11_stay_2 rfl ?_
  refine q_iload_n C dX11_stay_3 rfl ?_
  obtain ⟨hk, h⟩ := q_obE h
  obtain ⟨⟨u1, M2⟩, e1, h⟩ := q_bind h
  refine x_callV0 C dX11_stay_4 lkM_X11_192 mV_X11_act ⟨_, rfl, rfl⟩ hk (c_X11_act _ _ _ _ _ _ _ e1) rfl rfl (Nat.le_of_ble_eq_true rfl) (by decide) (by decide) ?_
  refine q_if_eq (tgt := 25) C dX11_stay_7 (by decide) h (fun _ h => ?_) (fun _ h => ?_)
  · refine x_iconst (v := (-1 : Int32)) C dX11_stay_25 (by decide) ?_
    exact q_iret C dX11_stay_26 rfl (by decide) (by decide) (Option.some.inj h)
  · refine q_aload_n C dX11_stay_10 rfl ?_
    refine x_getR (ci := 11) (j := 6) C dX11_stay_11 lkF_X11_50 rfl h (fun c3 h => ?_)
    refine x_nn h (fun r4 h => ?_)
    refine x_getR (ci := 8) (j := 0) C dX11_stay_14 lkF_X11_156 rfl h (fun c5 h => ?_)
    refine x_nn h (fun r6 h => ?_)
    refine x_bipush (v := (13 : Int32)) C dX11_stay_17 (by decide) ?_
    refine q_iload_n C dX11_stay_19 rfl ?_
    refine q_iadd C dX11_stay_20 ?_
    refine x_iald C dX11_stay_21 h (fun v7 h => ?_)
    refine q_goto (tgt := 26) C dX11_stay_22 (by decide) ?_
    exact q_iret C dX11_stay_26 rfl (by decide) (by decide) (Option.some.inj h)
noncomputable def F_X11_sign (l0 : Nat) (l1 : Int32) (l2 : Int32) (M : q_Mem) : Option (Int32 × q_Mem) := (q_ob M l0 11 ((F_X11_act l0 (5 : Int32) l1 l2 M).bind (fun x => match x with | (u1, M2) => (if u1 = 0 then some ((-1 : Int32), M2) else (q_gR M2 l0 11 7 (fun c3 => q_nn c3 (fun r4 => (q_gR M2 r4 8 0 (fun c5 => q_nn c5 (fun r6 => (q_lI M2 0 r6 ((19 : Int32) + l1) (fun v7 => some (v7, M2)))))))))))))
set_option maxRecDepth 100000 in
set_option maxHeartbeats 4000000 in
theorem c_X11_sign (l : Launch) (G : q_G) (l0 : Nat) (l1 : Int32) (l2 : Int32) (M : q_Mem) {r : Int32} {M' : q_Mem} (h : F_X11_sign l0 l1 l2 M = some (r, M')) : q_Met l G yX11_sign cX11_sign 3 (Option.some Jvm.ClassFile.FieldType.int) 8 0 0 [.ref l0, .int l1, .int l2] M (some (.int r)) M' := by
  unfold F_X11_sign at h
  refine q_enter [some (.ref l0), some (.int l1), some (.int l2)] (by decide) (Nat.le_of_ble_eq_true rfl) rfl (fun K C => ?_)
  refine q_aload_n C dX11_sign_0 rfl ?_
  refine x_iconst (v := (5 : Int32)) C dX11_sign_1 (by decide) ?_
  refine q_iload_n C dX11_sign_2 rfl ?_
  refine q_iload_n C dX11_sign_3 rfl ?_
  obtain ⟨hk, h⟩ := q_obE h
  obtain ⟨⟨u1, M2⟩, e1, h⟩ := q_bind h
  refine x_callV0 C dX11_sign_4 lkM_X11_192 mV_X11_act ⟨_, rfl, rfl⟩ hk (c_X11_act _ _ _ _ _ _ _ e1) rfl rfl (Nat.le_of_ble_eq_true rfl) (by decide) (by decide) ?_
  refine q_if_eq (tgt := 25) C dX11_sign_7 (by decide) h (fun _ h => ?_) (fun _ h => ?_)
  · refine x_iconst (v := (-1 : Int32)) C dX11_sign_25 (by decide) ?_
    exact q_iret C dX11_sign_26 rfl (by decide) (by decide) (Option.some.inj h)
  · refine q_aload_n C dX11_sign_10 rfl ?_
    refine x_getR (ci := 11) (j := 7) C dX11_sign_11 lkF_X11_54 rfl h (fun c3 h => ?_)
    refine x_nn h (fun r4 h => ?_)
    refine x_getR (ci := 8) (j := 0) C dX11_sign_14 lkF_X11_156 rfl h (fun c5 h => ?_)
    refine x_nn h (fun r6 h => ?_)
    refine x_bipush (v := (19 : Int32)) C dX11_sign_17 (by decide) ?_
    refine q_iload_n C dX11_sign_19 rfl ?_
    refine q_iadd C dX11_sign_20 ?_
    refine x_iald C dX11_sign_21 h (fun v7 h => ?_)
    refine q_goto (tgt := 26) C dX11_sign_22 (by decide) ?_
    exact q_iret C dX11_sign_26 rfl (by decide) (by decide) (Option.some.inj h)
noncomputable def F_X11_draw (l0 : Nat) (l1 : Int32) (M : q_Mem) : Option (Int32 × q_Mem) := (q_gL M l0 11 19 (fun v1 => (q_pL M l0 11 19 ((v1 * (6364136223846793005 : Int64)) + (1442695040888963407 : Int64)) (fun M2 => (if 0 < l1 then (q_gL M2 l0 11 19 (fun v3 => (q_rml ((v3.toUInt64 >>> ((33 : Int32).toInt64.toUInt64 &&& Int64.toUInt64 63)).toInt64) l1.toInt64 (fun v4 => some (v4.toInt32, M2))))) else some ((0 : Int32), M2))))))
set_option maxRecDepth 100000 in
set_option maxHeartbeats 4000000 in
theorem c_X11_draw (l : Launch) (G : q_G) (l0 : Nat) (l1 : Int32) (M : q_Mem) {r : Int32} {M' : q_Mem} (h : F_X11_draw l0 l1 M = some (r, M')) : q_Met l G yX11_draw cX11_draw 2 (Option.some Jvm.ClassFile.FieldType.int) 1 0 0 [.ref l0, .int l1] M (some (.int r)) M' := by
  unfold F_X11_draw at h
  refine q_enter [some (.ref l0), some (.int l1)] (by decide) (Nat.le_of_ble_eq_true rfl) rfl (fun K C => ?_)
  refine q_aload_n C dX11_draw_0 rfl ?_
  refine q_aload_n C dX11_draw_1 rfl ?_
  refine x_getL (ci := 11) (j := 19) C dX11_draw_2 lkF_X11_120 rfl h (fun v1 h => ?_)
  refine q_ldc2 (v := (6364136223846793005 : Int64)) C dX11_draw_5 wd_848 ?_
  refine q_lmul C dX11_draw_8 ?_
  refine q_ldc2 (v := (1442695040888963407 : Int64)) C dX11_draw_9 wd_849 ?_
  refine q_ladd C dX11_draw_12 ?_
  refine x_putL (ci := 11) (j := 19) C dX11_draw_13 lkF_X11_120 (fun r hr => by cases hr; rfl) rfl h (fun M2 h => ?_)
  refine q_iload_n C dX11_draw_16 rfl ?_
  refine q_if_le (tgt := 34) C dX11_draw_17 (by decide) h (fun _ h => ?_) (fun _ h => ?_)
  · refine q_aload_n C dX11_draw_20 rfl ?_
    refine x_getL (ci := 11) (j := 19) C dX11_draw_21 lkF_X11_120 rfl h (fun v3 h => ?_)
    refine x_bipush (v := (33 : Int32)) C dX11_draw_24 (by decide) ?_
    refine q_lushr C dX11_draw_26 ?_
    refine q_iload_n C dX11_draw_27 rfl ?_
    refine q_i2l C dX11_draw_28 ?_
    refine q_lrem C dX11_draw_29 h (fun v4 h => ?_)
    refine q_l2i C dX11_draw_30 ?_
    refine q_goto (tgt := 35) C dX11_draw_31 (by decide) ?_
    exact q_iret C dX11_draw_35 rfl (by decide) (by decide) (Option.some.inj h)
  · refine x_iconst (v := (0 : Int32)) C dX11_draw_34 (by decide) ?_
    exact q_iret C dX11_draw_35 rfl (by decide) (by decide) (Option.some.inj h)
noncomputable def J_X11_meetChance_28 (l0 : Nat) (M : q_Mem) : Option (Unit × q_Mem) := (q_gR M l0 11 6 (fun c10 => q_nn c10 (fun r11 => (q_gR M r11 8 0 (fun c12 => q_nn c12 (fun r13 => (q_gR M l0 11 1 (fun c14 => q_nn c14 (fun r15 => (q_gI M r15 3 4 (fun v16 => (q_ob M l0 11 ((F_X11_draw l0 v16 M).bind (fun x => match x with | (u17, M18) => (q_tI M18 r13 (3 : Int32) u17 (fun M19 => (q_ob M19 l0 11 ((F_X11_draw l0 (10 : Int32) M19).bind (fun x => match x with | (u20, M21) => (if u20 < (8 : Int32) then some ((), M21) else (q_gR M21 l0 11 10 (fun c22 => q_nn c22 (fun r23 => (q_gR M21 l0 11 6 (fun c24 => q_nn c24 (fun r25 => (q_gR M21 l0 11 1 (fun c26 => q_nn c26 (fun r27 => (q_gI M21 r27 3 5 (fun v28 => (q_ob M21 l0 11 ((F_X11_draw l0 v28 M21).bind (fun x => match x with | (u29, M30) => (q_ob M30 r23 0 ((F_X0_carryOut r23 r25 (4 : Int32) u29 (2 : Int32) M30).bind (fun x => match x with | (u31, M32) => some ((), M32))))))))))))))))))))))))))))))))))))))
set_option maxRecDepth 100000 in
set_option maxHeartbeats 4000000 in
theorem jW_X11_meetChance_28 {K : q_K} (C : q_C K yX11_meetChance cX11_meetChance 1 (Option.none : Option Jvm.ClassFile.FieldType) 7 0 0) (l0 : Nat) (M : q_Mem) {r : Unit} {M' : q_Mem} (h : J_X11_meetChance_28 l0 M = some (r, M')) : q_W K 1 (q_Q K none M' 0 0) 0 0 M 28 [some (.ref l0)] [] := by
  unfold J_X11_meetChance_28 at h
  refine q_aload_n C dX11_meetChance_28 rfl ?_
  refine x_getR (ci := 11) (j := 6) C dX11_meetChance_29 lkF_X11_50 rfl h (fun c10 h => ?_)
  refine x_nn h (fun r11 h => ?_)
  refine x_getR (ci := 8) (j := 0) C dX11_meetChance_32 lkF_X11_156 rfl h (fun c12 h => ?_)
  refine x_nn h (fun r13 h => ?_)
  refine x_iconst (v := (3 : Int32)) C dX11_meetChance_35 (by decide) ?_
  refine q_aload_n C dX11_meetChance_36 rfl ?_
  refine q_aload_n C dX11_meetChance_37 rfl ?_
  refine x_getR (ci := 11) (j := 1) C dX11_meetChance_38 lkF_X11_19 rfl h (fun c14 h => ?_)
  refine x_nn h (fun r15 h => ?_)
  refine x_getI (ci := 3) (j := 4) C dX11_meetChance_41 lkF_X11_349 rfl h (fun v16 h => ?_)
  obtain ⟨hk, h⟩ := q_obE h
  obtain ⟨⟨u17, M18⟩, e1, h⟩ := q_bind h
  refine x_callV0 C dX11_meetChance_44 lkM_X11_415 mV_X11_draw ⟨_, rfl, rfl⟩ hk (c_X11_draw _ _ _ _ _ e1) rfl rfl (Nat.le_of_ble_eq_true rfl) (by decide) (by decide) ?_
  refine x_iast C dX11_meetChance_47 h (fun M19 h => ?_)
  refine q_aload_n C dX11_meetChance_48 rfl ?_
  refine x_bipush (v := (10 : Int32)) C dX11_meetChance_49 (by decide) ?_
  obtain ⟨hk, h⟩ := q_obE h
  obtain ⟨⟨u20, M21⟩, e1, h⟩ := q_bind h
  refine x_callV0 C dX11_meetChance_51 lkM_X11_415 mV_X11_draw ⟨_, rfl, rfl⟩ hk (c_X11_draw _ _ _ _ _ e1) rfl rfl (Nat.le_of_ble_eq_true rfl) (by decide) (by decide) ?_
  refine x_bipush (v := (8 : Int32)) C dX11_meetChance_54 (by decide) ?_
  refine q_icmp_lt (tgt := 84) C dX11_meetChance_56 (by decide) h (fun _ h => ?_) (fun _ h => ?_)
  · exact q_vret C dX11_meetChance_84 rfl (by decide) (by decide) (Option.some.inj h)
  · refine q_aload_n C dX11_meetChance_59 rfl ?_
    refine x_getR (ci := 11) (j := 10) C dX11_meetChance_60 lkF_X11_78 rfl h (fun c22 h => ?_)
    refine x_nn h (fun r23 h => ?_)
    refine q_aload_n C dX11_meetChance_63 rfl ?_
    refine x_getR (ci := 11) (j := 6) C dX11_meetChance_64 lkF_X11_50 rfl h (fun c24 h => ?_)
    refine x_nn h (fun r25 h => ?_)
    refine x_iconst (v := (4 : Int32)) C dX11_meetChance_67 (by decide) ?_
    refine q_aload_n C dX11_meetChance_68 rfl ?_
    refine q_aload_n C dX11_meetChance_69 rfl ?_
    refine x_getR (ci := 11) (j := 1) C dX11_meetChance_70 lkF_X11_19 rfl h (fun c26 h => ?_)
    refine x_nn h (fun r27 h => ?_)
    refine x_getI (ci := 3) (j := 5) C dX11_meetChance_73 lkF_X11_336 rfl h (fun v28 h => ?_)
    obtain ⟨hk, h⟩ := q_obE h
    obtain ⟨⟨u29, M30⟩, e1, h⟩ := q_bind h
    refine x_callV0 C dX11_meetChance_76 lkM_X11_415 mV_X11_draw ⟨_, rfl, rfl⟩ hk (c_X11_draw _ _ _ _ _ e1) rfl rfl (Nat.le_of_ble_eq_true rfl) (by decide) (by decide) ?_
    refine x_iconst (v := (2 : Int32)) C dX11_meetChance_79 (by decide) ?_
    obtain ⟨hk, h⟩ := q_obE h
    obtain ⟨⟨u31, M32⟩, e1, h⟩ := q_bind h
    refine x_callV0 C dX11_meetChance_80 lkM_X11_411 mV_X0_carryOut ⟨_, rfl, rfl⟩ hk (c_X0_carryOut _ _ _ _ _ _ _ _ e1) rfl rfl (Nat.le_of_ble_eq_true rfl) (by decide) (by decide) ?_
    refine q_pop C dX11_meetChance_83 rfl ?_
    exact q_vret C dX11_meetChance_84 rfl (by decide) (by decide) (Option.some.inj h)
noncomputable def F_X11_meetChance (l0 : Nat) (M : q_Mem) : Option (Unit × q_Mem) := (q_ob M l0 11 ((F_X11_draw l0 (10 : Int32) M).bind (fun x => match x with | (u1, M2) => (q_gI M2 l0 11 17 (fun v3 => (if u1 < v3 then (q_gR M2 l0 11 10 (fun c4 => q_nn c4 (fun r5 => (q_gR M2 l0 11 6 (fun c6 => q_nn c6 (fun r7 => (q_ob M2 r5 0 ((F_X0_carryOut r5 r7 (2 : Int32) (-1 : Int32) (-1 : Int32) M2).bind (fun x => match x with | (u8, M9) => J_X11_meetChance_28 l0 M9))))))))) else J_X11_meetChance_28 l0 M2))))))
set_option maxRecDepth 100000 in
set_option maxHeartbeats 4000000 in
theorem c_X11_meetChance (l : Launch) (G : q_G) (l0 : Nat) (M : q_Mem) {r : Unit} {M' : q_Mem} (h : F_X11_meetChance l0 M = some (r, M')) : q_Met l G yX11_meetChance cX11_meetChance 1 (Option.none : Option Jvm.ClassFile.FieldType) 7 0 0 [.ref l0] M none M' := by
  unfold F_X11_meetChance at h
  refine q_enter [some (.ref l0)] (by decide) (Nat.le_of_ble_eq_true rfl) rfl (fun K C => ?_)
  refine q_aload_n C dX11_meetChance_0 rfl ?_
  refine x_bipush (v := (10 : Int32)) C dX11_meetChance_1 (by decide) ?_
  obtain ⟨hk, h⟩ := q_obE h
  obtain ⟨⟨u1, M2⟩, e1, h⟩ := q_bind h
  refine x_callV0 C dX11_meetChance_3 lkM_X11_415 mV_X11_draw ⟨_, rfl, rfl⟩ hk (c_X11_draw _ _ _ _ _ e1) rfl rfl (Nat.le_of_ble_eq_true rfl) (by decide) (by decide) ?_
  refine q_aload_n C dX11_meetChance_6 rfl ?_
  refine x_getI (ci := 11) (j := 17) C dX11_meetChance_7 lkF_X11_113 rfl h (fun v3 h => ?_)
  refine q_icmp_ge (tgt := 28) C dX11_meetChance_10 (by decide) h (fun _ h => ?_) (fun _ h => ?_)
  · refine q_aload_n C dX11_meetChance_13 rfl ?_
    refine x_getR (ci := 11) (j := 10) C dX11_meetChance_14 lkF_X11_78 rfl h (fun c4 h => ?_)
    refine x_nn h (fun r5 h => ?_)
    refine q_aload_n C dX11_meetChance_17 rfl ?_
    refine x_getR (ci := 11) (j := 6) C dX11_meetChance_18 lkF_X11_50 rfl h (fun c6 h => ?_)
    refine x_nn h (fun r7 h => ?_)
    refine x_iconst (v := (2 : Int32)) C dX11_meetChance_21 (by decide) ?_
    refine x_iconst (v := (-1 : Int32)) C dX11_meetChance_22 (by decide) ?_
    refine x_iconst (v := (-1 : Int32)) C dX11_meetChance_23 (by decide) ?_
    obtain ⟨hk, h⟩ := q_obE h
    obtain ⟨⟨u8, M9⟩, e1, h⟩ := q_bind h
    refine x_callV0 C dX11_meetChance_24 lkM_X11_411 mV_X0_carryOut ⟨_, rfl, rfl⟩ hk (c_X0_carryOut _ _ _ _ _ _ _ _ e1) rfl rfl (Nat.le_of_ble_eq_true rfl) (by decide) (by decide) ?_
    refine q_pop C dX11_meetChance_27 rfl ?_
    exact q_msk [true] (jW_X11_meetChance_28 C l0 M9 h)
  · exact q_msk [true] (jW_X11_meetChance_28 C l0 M2 h)
noncomputable def B_X11_years_45 (l0 : Nat) (l1 : Int32) (l4 : Int32) (M : q_Mem) : Option ((Int32 × q_Mem) ⊕ (q_Mem)) := (if l4 < l1 then (q_gR M l0 11 7 (fun c8 => q_nn c8 (fun r9 => (q_gR M l0 11 6 (fun c10 => q_nn c10 (fun r11 => (q_ob M r9 8 ((F_X8_copyFrom r9 r11 M).bind (fun x => match x with | (_, M13) => (q_ob M13 l0 11 ((F_X11_meetChance l0 M13).bind (fun x => match x with | (_, M15) => (q_gR M15 l0 11 9 (fun c16 => q_nn c16 (fun r17 => (q_gR M15 l0 11 6 (fun c18 => q_nn c18 (fun r19 => (q_ob M15 r17 1 ((F_X1_pass r17 r19 M15).bind (fun x => match x with | (_, M21) => (q_gR M21 l0 11 8 (fun c22 => q_nn c22 (fun r23 => (q_gR M21 l0 11 7 (fun c24 => q_nn c24 (fun r25 => (q_ob M21 r23 6 ((F_X6_keepAct r23 r25 M21).bind (fun x => match x with | (_, M27) => (q_gR M27 l0 11 8 (fun c28 => q_nn c28 (fun r29 => (q_gR M27 l0 11 6 (fun c30 => q_nn c30 (fun r31 => (q_gR M27 l0 11 9 (fun c32 => q_nn c32 (fun r33 => (q_ob M27 r29 6 ((F_X6_writeLog r29 r31 r33 M27).bind (fun x => match x with | (_, M35) => some (.inl ((l4 + (1 : Int32)), M35)))))))))))))))))))))))))))))))))))))))))))) else some (.inr M))
set_option maxRecDepth 100000 in
set_option maxHeartbeats 4000000 in
theorem bW_X11_years_45 {K : q_K} {Q : State → Prop} (C : q_C K yX11_years cX11_years 5 (Option.some Jvm.ClassFile.FieldType.int) 8 0 0) (l0 : Nat) (l1 : Int32) (l4 : Int32) (M : q_Mem) {stp : (Int32 × q_Mem) ⊕ (q_Mem)} (h : B_X11_years_45 l0 l1 l4 M = some stp) (kC : ∀ (l4 : Int32) (M : q_Mem), stp = .inl (l4, M) → q_W K 5 Q 0 0 M 45 [some (.ref l0), some (.int l1), none, none, some (.int l4)] []) (kE0 : ∀ (M : q_Mem), stp = .inr M → q_W K 5 Q 0 0 M 109 [some (.ref l0), none, none, none, none] []) : q_W K 5 Q 0 0 M 45 [some (.ref l0), some (.int l1), none, none, some (.int l4)] [] := by
  unfold B_X11_years_45 at h
  refine q_iload C dX11_years_45 rfl ?_
  refine q_iload_n C dX11_years_47 rfl ?_
  refine q_icmp_ge (tgt := 109) C dX11_years_48 (by decide) h (fun _ h => ?_) (fun _ h => ?_)
  · refine q_aload_n C dX11_years_51 rfl ?_
    refine x_getR (ci := 11) (j := 7) C dX11_years_52 lkF_X11_54 rfl h (fun c8 h => ?_)
    refine x_nn h (fun r9 h => ?_)
    refine q_aload_n C dX11_years_55 rfl ?_
    refine x_getR (ci := 11) (j := 6) C dX11_years_56 lkF_X11_50 rfl h (fun c10 h => ?_)
    refine x_nn h (fun r11 h => ?_)
    obtain ⟨hk, h⟩ := q_obE h
    obtain ⟨⟨_, M13⟩, e1, h⟩ := q_bind h
    refine x_callVv0 C dX11_years_59 lkM_X11_204 mV_X8_copyFrom ⟨_, rfl, rfl⟩ hk (c_X8_copyFrom _ _ _ _ _ e1) rfl rfl (Nat.le_of_ble_eq_true rfl) (by decide) (by decide) ?_
    refine q_aload_n C dX11_years_62 rfl ?_
    obtain ⟨hk, h⟩ := q_obE h
    obtain ⟨⟨_, M15⟩, e1, h⟩ := q_bind h
    refine x_callVv0 C dX11_years_63 lkM_X11_208 mV_X11_meetChance ⟨_, rfl, rfl⟩ hk (c_X11_meetChance _ _ _ _ e1) rfl rfl (Nat.le_of_ble_eq_true rfl) (by decide) (by decide) ?_
    refine q_aload_n C dX11_years_66 rfl ?_
    refine x_getR (ci := 11) (j := 9) C dX11_years_67 lkF_X11_69 rfl h (fun c16 h => ?_)
    refine x_nn h (fun r17 h => ?_)
    refine q_aload_n C dX11_years_70 rfl ?_
    refine x_getR (ci := 11) (j := 6) C dX11_years_71 lkF_X11_50 rfl h (fun c18 h => ?_)
    refine x_nn h (fun r19 h => ?_)
    obtain ⟨hk, h⟩ := q_obE h
    obtain ⟨⟨_, M21⟩, e1, h⟩ := q_bind h
    refine x_callVv0 C dX11_years_74 lkM_X11_211 mV_X1_pass ⟨_, rfl, rfl⟩ hk (c_X1_pass _ _ _ _ _ e1) rfl rfl (Nat.le_of_ble_eq_true rfl) (by decide) (by decide) ?_
    refine q_aload_n C dX11_years_77 rfl ?_
    refine x_getR (ci := 11) (j := 8) C dX11_years_78 lkF_X11_60 rfl h (fun c22 h => ?_)
    refine x_nn h (fun r23 h => ?_)
    refine q_aload_n C dX11_years_81 rfl ?_
    refine x_getR (ci := 11) (j := 7) C dX11_years_82 lkF_X11_54 rfl h (fun c24 h => ?_)
    refine x_nn h (fun r25 h => ?_)
    obtain ⟨hk, h⟩ := q_obE h
    obtain ⟨⟨_, M27⟩, e1, h⟩ := q_bind h
    refine x_callVv0 C dX11_years_85 lkM_X11_214 mV_X6_keepAct ⟨_, rfl, rfl⟩ hk (c_X6_keepAct _ _ _ _ _ e1) rfl rfl (Nat.le_of_ble_eq_true rfl) (by decide) (by decide) ?_
    refine q_aload_n C dX11_years_88 rfl ?_
    refine x_getR (ci := 11) (j := 8) C dX11_years_89 lkF_X11_60 rfl h (fun c28 h => ?_)
    refine x_nn h (fun r29 h => ?_)
    refine q_aload_n C dX11_years_92 rfl ?_
    refine x_getR (ci := 11) (j := 6) C dX11_years_93 lkF_X11_50 rfl h (fun c30 h => ?_)
    refine x_nn h (fun r31 h => ?_)
    refine q_aload_n C dX11_years_96 rfl ?_
    refine x_getR (ci := 11) (j := 9) C dX11_years_97 lkF_X11_69 rfl h (fun c32 h => ?_)
    refine x_nn h (fun r33 h => ?_)
    obtain ⟨hk, h⟩ := q_obE h
    obtain ⟨⟨_, M35⟩, e1, h⟩ := q_bind h
    refine x_callVv0 C dX11_years_100 lkM_X11_217 mV_X6_writeLog ⟨_, rfl, rfl⟩ hk (c_X6_writeLog _ _ _ _ _ _ e1) rfl rfl (Nat.le_of_ble_eq_true rfl) (by decide) (by decide) ?_
    refine x_iinc (w := (1 : Int32)) (L' := [some (.ref l0), some (.int l1), none, none, some (.int (l4 + (1 : Int32)))]) C dX11_years_103 rfl (by decide) (by decide) rfl rfl ?_
    refine q_goto (tgt := 45) C dX11_years_106 (by decide) ?_
    exact q_msk [true, true, false, false, true] (kC _ _ (Option.some.inj h).symm)
  · exact q_msk [true, false, false, false, false] (kE0 _ (Option.some.inj h).symm)
set_option maxRecDepth 100000 in
set_option maxHeartbeats 4000000 in
theorem lW_X11_years_45 {K : q_K} {Q : State → Prop} (C : q_C K yX11_years cX11_years 5 (Option.some Jvm.ClassFile.FieldType.int) 8 0 0) (l0 : Nat) (l1 : Int32) (n : Nat) : ∀ (l4 : Int32) (M : q_Mem) (e : (q_Mem)), q_lp (fun s => B_X11_years_45 l0 l1 s.1 s.2) n (l4, M) = some e → (∀ (M : q_Mem), e = M → q_W K 5 Q 0 0 M 109 [some (.ref l0), none, none, none, none] []) → q_W K 5 Q 0 0 M 45 [some (.ref l0), some (.int l1), none, none, some (.int l4)] [] := by
  induction n with
  | zero => intro l4 M e h; cases h
  | succ n ih =>
    intro l4 M e h kE0
    obtain ⟨stp, e1, e2⟩ := q_bind h
    refine bW_X11_years_45 C l0 l1 l4 M e1 (fun a0 a1 hs => ?_) (fun b0 hs => ?_)
    · subst hs; exact ih _ _ _ e2 kE0
    · subst hs; exact kE0 _ (Option.some.inj e2).symm
noncomputable def F_X11_years (l0 : Nat) (l1 : Int32) (l2 : Int64) (M : q_Mem) : Option (Int32 × q_Mem) := (q_gI M l0 11 18 (fun v1 => (if v1 = 0 then some ((-1 : Int32), M) else (if l1 < (1 : Int32) then some ((-1 : Int32), M) else (if (30 : Int32) < l1 then some ((-1 : Int32), M) else (q_gR M l0 11 6 (fun c2 => q_nn c2 (fun r3 => (q_gR M r3 8 0 (fun c4 => q_nn c4 (fun r5 => (q_lI M 0 r5 (0 : Int32) (fun v6 => (if (999 : Int32) < (v6 + l1) then some ((-1 : Int32), M) else (q_pL M l0 11 19 l2 (fun M7 => (q_lp (fun s => B_X11_years_45 l0 l1 s.1 s.2) q_fu ((0 : Int32), M7)).bind (fun e36 => match e36 with | M37 => (q_gR M37 l0 11 6 (fun c38 => q_nn c38 (fun r39 => (q_gR M37 r39 8 0 (fun c40 => q_nn c40 (fun r41 => (q_lI M37 0 r41 (0 : Int32) (fun v42 => some (v42, M37))))))))))))))))))))))))))
set_option maxRecDepth 100000 in
set_option maxHeartbeats 4000000 in
theorem c_X11_years (l : Launch) (G : q_G) (l0 : Nat) (l1 : Int32) (l2 : Int64) (M : q_Mem) {r : Int32} {M' : q_Mem} (h : F_X11_years l0 l1 l2 M = some (r, M')) : q_Met l G yX11_years cX11_years 5 (Option.some Jvm.ClassFile.FieldType.int) 8 0 0 [.ref l0, .int l1, .long l2] M (some (.int r)) M' := by
  unfold F_X11_years at h
  refine q_enter [some (.ref l0), some (.int l1), some (.long l2), none, none] (by decide) (Nat.le_of_ble_eq_true rfl) rfl (fun K C => ?_)
  refine q_aload_n C dX11_years_0 rfl ?_
  refine x_getI (ci := 11) (j := 18) C dX11_years_1 lkF_X11_116 rfl h (fun v1 h => ?_)
  refine q_if_eq (tgt := 35) C dX11_years_4 (by decide) h (fun _ h => ?_) (fun _ h => ?_)
  · refine x_iconst (v := (-1 : Int32)) C dX11_years_35 (by decide) ?_
    exact q_iret C dX11_years_36 rfl (by decide) (by decide) (Option.some.inj h)
  · refine q_iload_n C dX11_years_7 rfl ?_
    refine x_iconst (v := (1 : Int32)) C dX11_years_8 (by decide) ?_
    refine q_icmp_lt (tgt := 35) C dX11_years_9 (by decide) h (fun _ h => ?_) (fun _ h => ?_)
    · refine x_iconst (v := (-1 : Int32)) C dX11_years_35 (by decide) ?_
      exact q_iret C dX11_years_36 rfl (by decide) (by decide) (Option.some.inj h)
    · refine q_iload_n C dX11_years_12 rfl ?_
      refine x_bipush (v := (30 : Int32)) C dX11_years_13 (by decide) ?_
      refine q_icmp_gt (tgt := 35) C dX11_years_15 (by decide) h (fun _ h => ?_) (fun _ h => ?_)
      · refine x_iconst (v := (-1 : Int32)) C dX11_years_35 (by decide) ?_
        exact q_iret C dX11_years_36 rfl (by decide) (by decide) (Option.some.inj h)
      · refine q_aload_n C dX11_years_18 rfl ?_
        refine x_getR (ci := 11) (j := 6) C dX11_years_19 lkF_X11_50 rfl h (fun c2 h => ?_)
        refine x_nn h (fun r3 h => ?_)
        refine x_getR (ci := 8) (j := 0) C dX11_years_22 lkF_X11_156 rfl h (fun c4 h => ?_)
        refine x_nn h (fun r5 h => ?_)
        refine x_iconst (v := (0 : Int32)) C dX11_years_25 (by decide) ?_
        refine x_iald C dX11_years_26 h (fun v6 h => ?_)
        refine q_iload_n C dX11_years_27 rfl ?_
        refine q_iadd C dX11_years_28 ?_
        refine x_sipush (v := (999 : Int32)) C dX11_years_29 (by decide) ?_
        refine q_icmp_le (tgt := 37) C dX11_years_32 (by decide) h (fun _ h => ?_) (fun _ h => ?_)
        · refine x_iconst (v := (-1 : Int32)) C dX11_years_35 (by decide) ?_
          exact q_iret C dX11_years_36 rfl (by decide) (by decide) (Option.some.inj h)
        · refine q_aload_n C dX11_years_37 rfl ?_
          refine q_lload_n C dX11_years_38 rfl ?_
          refine x_putL (ci := 11) (j := 19) C dX11_years_39 lkF_X11_120 (fun r hr => by cases hr; rfl) rfl h (fun M7 h => ?_)
          refine x_iconst (v := (0 : Int32)) C dX11_years_42 (by decide) ?_
          refine q_istore (L' := [some (.ref l0), some (.int l1), some (.long l2), none, some (.int (0 : Int32))]) C dX11_years_43 (by decide) rfl rfl ?_
          obtain ⟨e36, he, h⟩ := q_bind h
          refine q_msk [true, true, false, false, true] (lW_X11_years_45 C l0 l1 q_fu _ _ _ he (fun M37 hs => ?_))
          · have hs := hs.symm
            subst hs
            refine q_aload_n C dX11_years_109 rfl ?_
            refine x_getR (ci := 11) (j := 6) C dX11_years_110 lkF_X11_50 rfl h (fun c38 h => ?_)
            refine x_nn h (fun r39 h => ?_)
            refine x_getR (ci := 8) (j := 0) C dX11_years_113 lkF_X11_156 rfl h (fun c40 h => ?_)
            refine x_nn h (fun r41 h => ?_)
            refine x_iconst (v := (0 : Int32)) C dX11_years_116 (by decide) ?_
            refine x_iald C dX11_years_117 h (fun v42 h => ?_)
            exact q_iret C dX11_years_118 rfl (by decide) (by decide) (Option.some.inj h)
noncomputable def F_X11_undo (l0 : Nat) (M : q_Mem) : Option (Int32 × q_Mem) := (q_gR M l0 11 8 (fun c1 => q_nn c1 (fun r2 => (q_gR M l0 11 6 (fun c3 => q_nn c3 (fun r4 => (q_ob M r2 6 ((F_X6_undoAct r2 r4 M).bind (fun x => match x with | (u5, M6) => (if u5 = 0 then some ((-1 : Int32), M6) else (q_gR M6 l0 11 8 (fun c7 => q_nn c7 (fun r8 => (q_gI M6 r8 6 6 (fun v9 => some (v9, M6))))))))))))))))
set_option maxRecDepth 100000 in
set_option maxHeartbeats 4000000 in
theorem c_X11_undo (l : Launch) (G : q_G) (l0 : Nat) (M : q_Mem) {r : Int32} {M' : q_Mem} (h : F_X11_undo l0 M = some (r, M')) : q_Met l G yX11_undo cX11_undo 1 (Option.some Jvm.ClassFile.FieldType.int) 3 0 0 [.ref l0] M (some (.int r)) M' := by
  unfold F_X11_undo at h
  refine q_enter [some (.ref l0)] (by decide) (Nat.le_of_ble_eq_true rfl) rfl (fun K C => ?_)
  refine q_aload_n C dX11_undo_0 rfl ?_
  refine x_getR (ci := 11) (j := 8) C dX11_undo_1 lkF_X11_60 rfl h (fun c1 h => ?_)
  refine x_nn h (fun r2 h => ?_)
  refine q_aload_n C dX11_undo_4 rfl ?_
  refine x_getR (ci := 11) (j := 6) C dX11_undo_5 lkF_X11_50 rfl h (fun c3 h => ?_)
  refine x_nn h (fun r4 h => ?_)
  obtain ⟨hk, h⟩ := q_obE h
  obtain ⟨⟨u5, M6⟩, e1, h⟩ := q_bind h
  refine x_callV0 C dX11_undo_8 lkM_X11_221 mV_X6_undoAct ⟨_, rfl, rfl⟩ hk (c_X6_undoAct _ _ _ _ _ e1) rfl rfl (Nat.le_of_ble_eq_true rfl) (by decide) (by decide) ?_
  refine q_if_eq (tgt := 24) C dX11_undo_11 (by decide) h (fun _ h => ?_) (fun _ h => ?_)
  · refine x_iconst (v := (-1 : Int32)) C dX11_undo_24 (by decide) ?_
    exact q_iret C dX11_undo_25 rfl (by decide) (by decide) (Option.some.inj h)
  · refine q_aload_n C dX11_undo_14 rfl ?_
    refine x_getR (ci := 11) (j := 8) C dX11_undo_15 lkF_X11_60 rfl h (fun c7 h => ?_)
    refine x_nn h (fun r8 h => ?_)
    refine x_getI (ci := 6) (j := 6) C dX11_undo_18 lkF_X11_225 rfl h (fun v9 h => ?_)
    refine q_goto (tgt := 25) C dX11_undo_21 (by decide) ?_
    exact q_iret C dX11_undo_25 rfl (by decide) (by decide) (Option.some.inj h)
noncomputable def F_X11_log (l0 : Nat) (l1 : Int32) (l2 : Int32) (M : q_Mem) : Option (Int32) := (q_gR M l0 11 6 (fun c1 => q_nn c1 (fun r2 => (q_gR M r2 8 0 (fun c3 => q_nn c3 (fun r4 => (q_lI M 0 r4 (0 : Int32) (fun v5 => (if l1 < 0 then some (-1000000 : Int32) else ((F_X6_logLength v5 M).bind (fun u6 => (if l1 < u6 then (if l2 < 0 then some (-1000000 : Int32) else (if l2 < (3 : Int32) then (q_gR M l0 11 8 (fun c7 => q_nn c7 (fun r8 => (q_ob M r8 6 ((F_X6_ofLog r8 ((v5 - (1 : Int32)) - l1) l2 M).bind (fun u9 => some u9)))))) else some (-1000000 : Int32))) else some (-1000000 : Int32)))))))))))))
set_option maxRecDepth 100000 in
set_option maxHeartbeats 4000000 in
theorem c_X11_log (l : Launch) (G : q_G) (l0 : Nat) (l1 : Int32) (l2 : Int32) (M : q_Mem) {r : Int32} (h : F_X11_log l0 l1 l2 M = some r) : q_Met l G yX11_log cX11_log 4 (Option.some Jvm.ClassFile.FieldType.int) 3 0 0 [.ref l0, .int l1, .int l2] M (some (.int r)) M := by
  unfold F_X11_log at h
  refine q_enter [some (.ref l0), some (.int l1), some (.int l2), none] (by decide) (Nat.le_of_ble_eq_true rfl) rfl (fun K C => ?_)
  refine q_aload_n C dX11_log_0 rfl ?_
  refine x_getR (ci := 11) (j := 6) C dX11_log_1 lkF_X11_50 rfl h (fun c1 h => ?_)
  refine x_nn h (fun r2 h => ?_)
  refine x_getR (ci := 8) (j := 0) C dX11_log_4 lkF_X11_156 rfl h (fun c3 h => ?_)
  refine x_nn h (fun r4 h => ?_)
  refine x_iconst (v := (0 : Int32)) C dX11_log_7 (by decide) ?_
  refine x_iald C dX11_log_8 h (fun v5 h => ?_)
  refine q_istore_n (L' := [some (.ref l0), some (.int l1), some (.int l2), some (.int v5)]) C dX11_log_9 (by decide) rfl rfl ?_
  refine q_iload_n C dX11_log_10 rfl ?_
  refine q_if_lt (tgt := 31) C dX11_log_11 (by decide) h (fun _ h => ?_) (fun _ h => ?_)
  · refine q_ldc (v := (-1000000 : Int32)) C dX11_log_31 wd_866 ?_
    exact q_iret (res := (r, M)) C dX11_log_33 rfl (by decide) (by decide) (congrArg (fun z => (z, M)) (Option.some.inj h))
  · refine q_iload_n C dX11_log_14 rfl ?_
    refine q_iload_n C dX11_log_15 rfl ?_
    obtain ⟨u6, e1, h⟩ := q_bind h
    refine x_callS0 C dX11_log_16 lkM_X11_228 mS_X6_logLength (c_X6_logLength _ _ _ _ e1) rfl rfl (Nat.le_of_ble_eq_true rfl) (by decide) (by decide) ?_
    refine q_icmp_ge (tgt := 31) C dX11_log_19 (by decide) h (fun _ h => ?_) (fun _ h => ?_)
    · refine q_iload_n C dX11_log_22 rfl ?_
      refine q_if_lt (tgt := 31) C dX11_log_23 (by decide) h (fun _ h => ?_) (fun _ h => ?_)
      · refine q_ldc (v := (-1000000 : Int32)) C dX11_log_31 wd_866 ?_
        exact q_iret (res := (r, M)) C dX11_log_33 rfl (by decide) (by decide) (congrArg (fun z => (z, M)) (Option.some.inj h))
      · refine q_iload_n C dX11_log_26 rfl ?_
        refine x_iconst (v := (3 : Int32)) C dX11_log_27 (by decide) ?_
        refine q_icmp_lt (tgt := 34) C dX11_log_28 (by decide) h (fun _ h => ?_) (fun _ h => ?_)
        · refine q_aload_n C dX11_log_34 rfl ?_
          refine x_getR (ci := 11) (j := 8) C dX11_log_35 lkF_X11_60 rfl h (fun c7 h => ?_)
          refine x_nn h (fun r8 h => ?_)
          refine q_iload_n C dX11_log_38 rfl ?_
          refine x_iconst (v := (1 : Int32)) C dX11_log_39 (by decide) ?_
          refine q_isub C dX11_log_40 ?_
          refine q_iload_n C dX11_log_41 rfl ?_
          refine q_isub C dX11_log_42 ?_
          refine q_iload_n C dX11_log_43 rfl ?_
          obtain ⟨hk, h⟩ := q_obE h
          obtain ⟨u9, e1, h⟩ := q_bind h
          refine x_callV0 C dX11_log_44 lkM_X11_232 mV_X6_ofLog ⟨_, rfl, rfl⟩ hk (c_X6_ofLog _ _ _ _ _ _ e1) rfl rfl (Nat.le_of_ble_eq_true rfl) (by decide) (by decide) ?_
          exact q_iret (res := (r, M)) C dX11_log_47 rfl (by decide) (by decide) (congrArg (fun z => (z, M)) (Option.some.inj h))
        · refine q_ldc (v := (-1000000 : Int32)) C dX11_log_31 wd_866 ?_
          exact q_iret (res := (r, M)) C dX11_log_33 rfl (by decide) (by decide) (congrArg (fun z => (z, M)) (Option.some.inj h))
    · refine q_ldc (v := (-1000000 : Int32)) C dX11_log_31 wd_866 ?_
      exact q_iret (res := (r, M)) C dX11_log_33 rfl (by decide) (by decide) (congrArg (fun z => (z, M)) (Option.some.inj h))
