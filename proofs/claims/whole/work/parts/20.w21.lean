noncomputable def F_X12_game (l0 : Nat) (l1 : Int32) (l2 : Int32) (l3 : Int32) (l4 : Int32) (l5 : Int32) (M : q_Mem) : Option (Int32 × q_Mem) := (q_pI M l0 12 0 (0 : Int32) (fun M1 => (q_ob M1 l0 12 ((F_X12_isGame l0 l1 l2 M1).bind (fun u2 => (if u2 = 0 then some ((-1000000 : Int32), M1) else ((F_X12_isIn l3.toInt64 (0 : Int64) (3 : Int64) M1).bind (fun u3 => (if u3 = 0 then some ((-1000000 : Int32), M1) else ((F_X12_isIn l4.toInt64 (0 : Int64) (3 : Int64) M1).bind (fun u4 => (if u4 = 0 then some ((-1000000 : Int32), M1) else ((F_X12_isIn l5.toInt64 (0 : Int64) (1 : Int64) M1).bind (fun u5 => (if u5 = 0 then some ((-1000000 : Int32), M1) else (q_ob M1 l0 12 ((F_X12_gameOf l0 l1 l2 l3 l4 l5 M1).bind (fun x => match x with | (u6, M7) => some (u6, M7)))))))))))))))))))
set_option maxRecDepth 100000 in
set_option maxHeartbeats 4000000 in
theorem c_X12_game (l : Launch) (G : q_G) (l0 : Nat) (l1 : Int32) (l2 : Int32) (l3 : Int32) (l4 : Int32) (l5 : Int32) (M : q_Mem) {r : Int32} {M' : q_Mem} (h : F_X12_game l0 l1 l2 l3 l4 l5 M = some (r, M')) : q_Met l G yX12_game cX12_game 6 (Option.some Jvm.ClassFile.FieldType.int) 134 0 0 [.ref l0, .int l1, .int l2, .int l3, .int l4, .int l5] M (some (.int r)) M' := by
  unfold F_X12_game at h
  refine q_enter [some (.ref l0), some (.int l1), some (.int l2), some (.int l3), some (.int l4), some (.int l5)] (by decide) (Nat.le_of_ble_eq_true rfl) rfl (fun K C => ?_)
  refine q_aload_n C dX12_game_0 rfl ?_
  refine x_iconst (v := (0 : Int32)) C dX12_game_1 (by decide) ?_
  refine x_putI (ci := 12) (j := 0) C dX12_game_2 lkF_X12_92 (fun r hr => by cases hr; rfl) rfl h (fun M1 h => ?_)
  refine q_aload_n C dX12_game_5 rfl ?_
  refine q_iload_n C dX12_game_6 rfl ?_
  refine q_iload_n C dX12_game_7 rfl ?_
  obtain ⟨hk, h⟩ := q_obE h
  obtain ⟨u2, e1, h⟩ := q_bind h
  refine x_callV0 C dX12_game_8 lkM_X12_440 mV_X12_isGame ⟨_, rfl, rfl⟩ hk (c_X12_isGame _ _ _ _ _ _ e1) rfl rfl (Nat.le_of_ble_eq_true rfl) (by decide) (by decide) ?_
  refine q_if_eq (tgt := 64) C dX12_game_11 (by decide) h (fun _ h => ?_) (fun _ h => ?_)
  · refine q_ldcw (v := (-1000000 : Int32)) C dX12_game_64 wd_1674 ?_
    exact q_iret C dX12_game_67 rfl (by decide) (by decide) (Option.some.inj h)
  · refine q_iload_n C dX12_game_14 rfl ?_
    refine q_i2l C dX12_game_15 ?_
    refine x_lconst (v := (0 : Int64)) C dX12_game_16 (by decide) ?_
    refine q_ldc2 (v := (3 : Int64)) C dX12_game_17 wd_1654 ?_
    obtain ⟨u3, e1, h⟩ := q_bind h
    refine x_callS0 C dX12_game_20 lkM_X12_213 mS_X12_isIn (c_X12_isIn _ _ _ _ _ _ e1) rfl rfl (Nat.le_of_ble_eq_true rfl) (by decide) (by decide) ?_
    refine q_if_eq (tgt := 64) C dX12_game_23 (by decide) h (fun _ h => ?_) (fun _ h => ?_)
    · refine q_ldcw (v := (-1000000 : Int32)) C dX12_game_64 wd_1674 ?_
      exact q_iret C dX12_game_67 rfl (by decide) (by decide) (Option.some.inj h)
    · refine q_iload C dX12_game_26 rfl ?_
      refine q_i2l C dX12_game_28 ?_
      refine x_lconst (v := (0 : Int64)) C dX12_game_29 (by decide) ?_
      refine q_ldc2 (v := (3 : Int64)) C dX12_game_30 wd_1654 ?_
      obtain ⟨u4, e1, h⟩ := q_bind h
      refine x_callS0 C dX12_game_33 lkM_X12_213 mS_X12_isIn (c_X12_isIn _ _ _ _ _ _ e1) rfl rfl (Nat.le_of_ble_eq_true rfl) (by decide) (by decide) ?_
      refine q_if_eq (tgt := 64) C dX12_game_36 (by decide) h (fun _ h => ?_) (fun _ h => ?_)
      · refine q_ldcw (v := (-1000000 : Int32)) C dX12_game_64 wd_1674 ?_
        exact q_iret C dX12_game_67 rfl (by decide) (by decide) (Option.some.inj h)
      · refine q_iload C dX12_game_39 rfl ?_
        refine q_i2l C dX12_game_41 ?_
        refine x_lconst (v := (0 : Int64)) C dX12_game_42 (by decide) ?_
        refine x_lconst (v := (1 : Int64)) C dX12_game_43 (by decide) ?_
        obtain ⟨u5, e1, h⟩ := q_bind h
        refine x_callS0 C dX12_game_44 lkM_X12_213 mS_X12_isIn (c_X12_isIn _ _ _ _ _ _ e1) rfl rfl (Nat.le_of_ble_eq_true rfl) (by decide) (by decide) ?_
        refine q_if_eq (tgt := 64) C dX12_game_47 (by decide) h (fun _ h => ?_) (fun _ h => ?_)
        · refine q_ldcw (v := (-1000000 : Int32)) C dX12_game_64 wd_1674 ?_
          exact q_iret C dX12_game_67 rfl (by decide) (by decide) (Option.some.inj h)
        · refine q_aload_n C dX12_game_50 rfl ?_
          refine q_iload_n C dX12_game_51 rfl ?_
          refine q_iload_n C dX12_game_52 rfl ?_
          refine q_iload_n C dX12_game_53 rfl ?_
          refine q_iload C dX12_game_54 rfl ?_
          refine q_iload C dX12_game_56 rfl ?_
          obtain ⟨hk, h⟩ := q_obE h
          obtain ⟨⟨u6, M7⟩, e1, h⟩ := q_bind h
          refine x_callV0 C dX12_game_58 lkM_X12_443 mV_X12_gameOf ⟨_, rfl, rfl⟩ hk (c_X12_gameOf _ _ _ _ _ _ _ _ _ e1) rfl rfl (Nat.le_of_ble_eq_true rfl) (by decide) (by decide) ?_
          refine q_goto (tgt := 67) C dX12_game_61 (by decide) ?_
          exact q_iret C dX12_game_67 rfl (by decide) (by decide) (Option.some.inj h)
noncomputable def B_X12_rests_24 (l0 : Nat) (l1 : Int32) (l2 : Int32) (l3 : Int32) (l4 : Int32) (M : q_Mem) : Option ((Int32 × q_Mem) ⊕ (q_Mem)) := (if l4 < (32 : Int32) then (q_gR M l0 12 46 (fun c3 => q_nn c3 (fun r4 => (q_dvi l4 (8 : Int32) (fun v5 => (q_dvi l4 (2 : Int32) (fun v6 => (q_rmi v6 (4 : Int32) (fun v7 => (q_rmi l4 (2 : Int32) (fun v8 => (q_ob M l0 12 ((F_X12_gameOf l0 l1 l2 v5 v7 v8 M).bind (fun x => match x with | (u9, M10) => (q_tI M10 r4 l4 u9 (fun M11 => some (.inl ((l4 + (1 : Int32)), M11)))))))))))))))))) else some (.inr M))
set_option maxRecDepth 100000 in
set_option maxHeartbeats 4000000 in
theorem bW_X12_rests_24 {K : q_K} {Q : State → Prop} (C : q_C K yX12_rests cX12_rests 9 (Option.some Jvm.ClassFile.FieldType.int) 134 0 0) (l0 : Nat) (l1 : Int32) (l2 : Int32) (l3 : Int32) (l4 : Int32) (M : q_Mem) {stp : (Int32 × q_Mem) ⊕ (q_Mem)} (h : B_X12_rests_24 l0 l1 l2 l3 l4 M = some stp) (kC : ∀ (l4 : Int32) (M : q_Mem), stp = .inl (l4, M) → q_W K 9 Q 0 0 M 24 [some (.ref l0), some (.int l1), some (.int l2), some (.int l3), some (.int l4), none, none, none, none] []) (kE0 : ∀ (M : q_Mem), stp = .inr M → q_W K 9 Q 0 0 M 65 [some (.ref l0), none, none, some (.int l3), none, none, none, none, none] []) : q_W K 9 Q 0 0 M 24 [some (.ref l0), some (.int l1), some (.int l2), some (.int l3), some (.int l4), none, none, none, none] [] := by
  unfold B_X12_rests_24 at h
  refine q_iload C dX12_rests_24 rfl ?_
  refine x_bipush (v := (32 : Int32)) C dX12_rests_26 (by decide) ?_
  refine q_icmp_ge (tgt := 65) C dX12_rests_28 (by decide) h (fun _ h => ?_) (fun _ h => ?_)
  · refine q_aload_n C dX12_rests_31 rfl ?_
    refine x_getR (ci := 12) (j := 46) C dX12_rests_32 lkF_X12_83 rfl h (fun c3 h => ?_)
    refine x_nn h (fun r4 h => ?_)
    refine q_iload C dX12_rests_35 rfl ?_
    refine q_aload_n C dX12_rests_37 rfl ?_
    refine q_iload_n C dX12_rests_38 rfl ?_
    refine q_iload_n C dX12_rests_39 rfl ?_
    refine q_iload C dX12_rests_40 rfl ?_
    refine x_bipush (v := (8 : Int32)) C dX12_rests_42 (by decide) ?_
    refine q_idiv C dX12_rests_44 h (fun v5 h => ?_)
    refine q_iload C dX12_rests_45 rfl ?_
    refine x_iconst (v := (2 : Int32)) C dX12_rests_47 (by decide) ?_
    refine q_idiv C dX12_rests_48 h (fun v6 h => ?_)
    refine x_iconst (v := (4 : Int32)) C dX12_rests_49 (by decide) ?_
    refine q_irem C dX12_rests_50 h (fun v7 h => ?_)
    refine q_iload C dX12_rests_51 rfl ?_
    refine x_iconst (v := (2 : Int32)) C dX12_rests_53 (by decide) ?_
    refine q_irem C dX12_rests_54 h (fun v8 h => ?_)
    obtain ⟨hk, h⟩ := q_obE h
    obtain ⟨⟨u9, M10⟩, e1, h⟩ := q_bind h
    refine x_callV0 C dX12_rests_55 lkM_X12_443 mV_X12_gameOf ⟨_, rfl, rfl⟩ hk (c_X12_gameOf _ _ _ _ _ _ _ _ _ e1) rfl rfl (Nat.le_of_ble_eq_true rfl) (by decide) (by decide) ?_
    refine x_iast C dX12_rests_58 h (fun M11 h => ?_)
    refine x_iinc (w := (1 : Int32)) (L' := [some (.ref l0), some (.int l1), some (.int l2), some (.int l3), some (.int (l4 + (1 : Int32))), none, none, none, none]) C dX12_rests_59 rfl (by decide) (by decide) rfl rfl ?_
    refine q_goto (tgt := 24) C dX12_rests_62 (by decide) ?_
    exact q_msk [true, true, true, true, true, false, false, false, false] (kC _ _ (Option.some.inj h).symm)
  · exact q_msk [true, false, false, true, false, false, false, false, false] (kE0 _ (Option.some.inj h).symm)
set_option maxRecDepth 100000 in
set_option maxHeartbeats 4000000 in
theorem lW_X12_rests_24 {K : q_K} {Q : State → Prop} (C : q_C K yX12_rests cX12_rests 9 (Option.some Jvm.ClassFile.FieldType.int) 134 0 0) (l0 : Nat) (l1 : Int32) (l2 : Int32) (l3 : Int32) (n : Nat) : ∀ (l4 : Int32) (M : q_Mem) (e : (q_Mem)), q_lp (fun s => B_X12_rests_24 l0 l1 l2 l3 s.1 s.2) n (l4, M) = some e → (∀ (M : q_Mem), e = M → q_W K 9 Q 0 0 M 65 [some (.ref l0), none, none, some (.int l3), none, none, none, none, none] []) → q_W K 9 Q 0 0 M 24 [some (.ref l0), some (.int l1), some (.int l2), some (.int l3), some (.int l4), none, none, none, none] [] := by
  induction n with
  | zero => intro l4 M e h; cases h
  | succ n ih =>
    intro l4 M e h kE0
    obtain ⟨stp, e1, e2⟩ := q_bind h
    refine bW_X12_rests_24 C l0 l1 l2 l3 l4 M e1 (fun a0 a1 hs => ?_) (fun b0 hs => ?_)
    · subst hs; exact ih _ _ _ e2 kE0
    · subst hs; exact kE0 _ (Option.some.inj e2).symm
noncomputable def J_X12_rests_178_92 (l0 : Nat) (l3 : Int32) (l4 : Int32) (l5 : Int32) (l6 : Int32) (l8 : Int32) (s0 : Int32) (M : q_Mem) : Option ((Int32 × Int32) ⊕ (Int32)) := some (.inl (s0, (l8 + (1 : Int32))))
set_option maxRecDepth 100000 in
set_option maxHeartbeats 4000000 in
theorem jW_X12_rests_178_92 {K : q_K} {Q : State → Prop} (C : q_C K yX12_rests cX12_rests 9 (Option.some Jvm.ClassFile.FieldType.int) 134 0 0) (l0 : Nat) (l3 : Int32) (l4 : Int32) (l5 : Int32) (l6 : Int32) (l8 : Int32) (s0 : Int32) (M : q_Mem) {stp : (Int32 × Int32) ⊕ (Int32)} (h : J_X12_rests_178_92 l0 l3 l4 l5 l6 l8 s0 M = some stp) (kC : ∀ (l7 : Int32) (l8 : Int32), stp = .inl (l7, l8) → q_W K 9 Q 0 0 M 92 [some (.ref l0), none, none, some (.int l3), some (.int l4), some (.int l5), some (.int l6), some (.int l7), some (.int l8)] []) (kE0 : ∀ (l7 : Int32), stp = .inr l7 → q_W K 9 Q 0 0 M 186 [some (.ref l0), none, none, some (.int l3), some (.int l4), some (.int l5), some (.int l6), some (.int l7), none] []) : q_W K 9 Q 0 0 M 178 [some (.ref l0), none, none, some (.int l3), some (.int l4), some (.int l5), some (.int l6), none, some (.int l8)] [.int s0] := by
  unfold J_X12_rests_178_92 at h
  refine q_istore (L' := [some (.ref l0), none, none, some (.int l3), some (.int l4), some (.int l5), some (.int l6), some (.int s0), some (.int l8)]) C dX12_rests_178 (by decide) rfl rfl ?_
  refine x_iinc (w := (1 : Int32)) (L' := [some (.ref l0), none, none, some (.int l3), some (.int l4), some (.int l5), some (.int l6), some (.int s0), some (.int (l8 + (1 : Int32)))]) C dX12_rests_180 rfl (by decide) (by decide) rfl rfl ?_
  refine q_goto (tgt := 92) C dX12_rests_183 (by decide) ?_
  exact q_msk [true, false, false, true, true, true, true, true, true] (kC _ _ (Option.some.inj h).symm)
noncomputable def J_X12_rests_177_92 (l0 : Nat) (l3 : Int32) (l4 : Int32) (l5 : Int32) (l6 : Int32) (l8 : Int32) (M : q_Mem) : Option ((Int32 × Int32) ⊕ (Int32)) := J_X12_rests_178_92 l0 l3 l4 l5 l6 l8 (0 : Int32) M
set_option maxRecDepth 100000 in
set_option maxHeartbeats 4000000 in
theorem jW_X12_rests_177_92 {K : q_K} {Q : State → Prop} (C : q_C K yX12_rests cX12_rests 9 (Option.some Jvm.ClassFile.FieldType.int) 134 0 0) (l0 : Nat) (l3 : Int32) (l4 : Int32) (l5 : Int32) (l6 : Int32) (l8 : Int32) (M : q_Mem) {stp : (Int32 × Int32) ⊕ (Int32)} (h : J_X12_rests_177_92 l0 l3 l4 l5 l6 l8 M = some stp) (kC : ∀ (l7 : Int32) (l8 : Int32), stp = .inl (l7, l8) → q_W K 9 Q 0 0 M 92 [some (.ref l0), none, none, some (.int l3), some (.int l4), some (.int l5), some (.int l6), some (.int l7), some (.int l8)] []) (kE0 : ∀ (l7 : Int32), stp = .inr l7 → q_W K 9 Q 0 0 M 186 [some (.ref l0), none, none, some (.int l3), some (.int l4), some (.int l5), some (.int l6), some (.int l7), none] []) : q_W K 9 Q 0 0 M 177 [some (.ref l0), none, none, some (.int l3), some (.int l4), some (.int l5), some (.int l6), none, some (.int l8)] [] := by
  unfold J_X12_rests_177_92 at h
  refine x_iconst (v := (0 : Int32)) C dX12_rests_177 (by decide) ?_
  exact q_msk [true, false, false, true, true, true, true, false, true] (jW_X12_rests_178_92 C l0 l3 l4 l5 l6 l8 (0 : Int32) M h kC kE0)
noncomputable def B_X12_rests_92 (l0 : Nat) (l3 : Int32) (l4 : Int32) (l5 : Int32) (l6 : Int32) (l7 : Int32) (l8 : Int32) (M : q_Mem) : Option ((Int32 × Int32) ⊕ (Int32)) := (if l8 < (4 : Int32) then (if l7 = 0 then J_X12_rests_177_92 l0 l3 l4 l5 l6 l8 M else (q_gR M l0 12 46 (fun c14 => q_nn c14 (fun r15 => (q_lI M 0 r15 (((8 : Int32) * l8) + ((2 : Int32) * l6)) (fun v16 => (q_gR M l0 12 46 (fun c17 => q_nn c17 (fun r18 => (q_lI M 0 r18 (((8 : Int32) * l5) + ((2 : Int32) * l6)) (fun v19 => (if v19 < v16 then J_X12_rests_177_92 l0 l3 l4 l5 l6 l8 M else (q_gR M l0 12 46 (fun c20 => q_nn c20 (fun r21 => (q_lI M 0 r21 ((((8 : Int32) * l5) + ((2 : Int32) * l8)) + (1 : Int32)) (fun v22 => (q_gR M l0 12 46 (fun c23 => q_nn c23 (fun r24 => (q_lI M 0 r24 ((((8 : Int32) * l5) + ((2 : Int32) * l6)) + (1 : Int32)) (fun v25 => (if v25 < v22 then J_X12_rests_177_92 l0 l3 l4 l5 l6 l8 M else J_X12_rests_178_92 l0 l3 l4 l5 l6 l8 (1 : Int32) M))))))))))))))))))))))) else some (.inr l7))
set_option maxRecDepth 100000 in
set_option maxHeartbeats 4000000 in
theorem bW_X12_rests_92 {K : q_K} {Q : State → Prop} (C : q_C K yX12_rests cX12_rests 9 (Option.some Jvm.ClassFile.FieldType.int) 134 0 0) (l0 : Nat) (l3 : Int32) (l4 : Int32) (l5 : Int32) (l6 : Int32) (l7 : Int32) (l8 : Int32) (M : q_Mem) {stp : (Int32 × Int32) ⊕ (Int32)} (h : B_X12_rests_92 l0 l3 l4 l5 l6 l7 l8 M = some stp) (kC : ∀ (l7 : Int32) (l8 : Int32), stp = .inl (l7, l8) → q_W K 9 Q 0 0 M 92 [some (.ref l0), none, none, some (.int l3), some (.int l4), some (.int l5), some (.int l6), some (.int l7), some (.int l8)] []) (kE0 : ∀ (l7 : Int32), stp = .inr l7 → q_W K 9 Q 0 0 M 186 [some (.ref l0), none, none, some (.int l3), some (.int l4), some (.int l5), some (.int l6), some (.int l7), none] []) : q_W K 9 Q 0 0 M 92 [some (.ref l0), none, none, some (.int l3), some (.int l4), some (.int l5), some (.int l6), some (.int l7), some (.int l8)] [] := by
  unfold B_X12_rests_92 at h
  refine q_iload C dX12_rests_92 rfl ?_
  refine x_iconst (v := (4 : Int32)) C dX12_rests_94 (by decide) ?_
  refine q_icmp_ge (tgt := 186) C dX12_rests_95 (by decide) h (fun _ h => ?_) (fun _ h => ?_)
  · refine q_iload C dX12_rests_98 rfl ?_
    refine q_if_eq (tgt := 177) C dX12_rests_100 (by decide) h (fun _ h => ?_) (fun _ h => ?_)
    · exact q_msk [true, false, false, true, true, true, true, false, true] (jW_X12_rests_177_92 C l0 l3 l4 l5 l6 l8 M h kC kE0)
    · refine q_aload_n C dX12_rests_103 rfl ?_
      refine x_getR (ci := 12) (j := 46) C dX12_rests_104 lkF_X12_83 rfl h (fun c14 h => ?_)
      refine x_nn h (fun r15 h => ?_)
      refine x_bipush (v := (8 : Int32)) C dX12_rests_107 (by decide) ?_
      refine q_iload C dX12_rests_109 rfl ?_
      refine q_imul C dX12_rests_111 ?_
      refine x_iconst (v := (2 : Int32)) C dX12_rests_112 (by decide) ?_
      refine q_iload C dX12_rests_113 rfl ?_
      refine q_imul C dX12_rests_115 ?_
      refine q_iadd C dX12_rests_116 ?_
      refine x_iald C dX12_rests_117 h (fun v16 h => ?_)
      refine q_aload_n C dX12_rests_118 rfl ?_
      refine x_getR (ci := 12) (j := 46) C dX12_rests_119 lkF_X12_83 rfl h (fun c17 h => ?_)
      refine x_nn h (fun r18 h => ?_)
      refine x_bipush (v := (8 : Int32)) C dX12_rests_122 (by decide) ?_
      refine q_iload C dX12_rests_124 rfl ?_
      refine q_imul C dX12_rests_126 ?_
      refine x_iconst (v := (2 : Int32)) C dX12_rests_127 (by decide) ?_
      refine q_iload C dX12_rests_128 rfl ?_
      refine q_imul C dX12_rests_130 ?_
      refine q_iadd C dX12_rests_131 ?_
      refine x_iald C dX12_rests_132 h (fun v19 h => ?_)
      refine q_icmp_gt (tgt := 177) C dX12_rests_133 (by decide) h (fun _ h => ?_) (fun _ h => ?_)
      · exact q_msk [true, false, false, true, true, true, true, false, true] (jW_X12_rests_177_92 C l0 l3 l4 l5 l6 l8 M h kC kE0)
      · refine q_aload_n C dX12_rests_136 rfl ?_
        refine x_getR (ci := 12) (j := 46) C dX12_rests_137 lkF_X12_83 rfl h (fun c20 h => ?_)
        refine x_nn h (fun r21 h => ?_)
        refine x_bipush (v := (8 : Int32)) C dX12_rests_140 (by decide) ?_
        refine q_iload C dX12_rests_142 rfl ?_
        refine q_imul C dX12_rests_144 ?_
        refine x_iconst (v := (2 : Int32)) C dX12_rests_145 (by decide) ?_
        refine q_iload C dX12_rests_146 rfl ?_
        refine q_imul C dX12_rests_148 ?_
        refine q_iadd C dX12_rests_149 ?_
        refine x_iconst (v := (1 : Int32)) C dX12_rests_150 (by decide) ?_
        refine q_iadd C dX12_rests_151 ?_
        refine x_iald C dX12_rests_152 h (fun v22 h => ?_)
        refine q_aload_n C dX12_rests_153 rfl ?_
        refine x_getR (ci := 12) (j := 46) C dX12_rests_154 lkF_X12_83 rfl h (fun c23 h => ?_)
        refine x_nn h (fun r24 h => ?_)
        refine x_bipush (v := (8 : Int32)) C dX12_rests_157 (by decide) ?_
        refine q_iload C dX12_rests_159 rfl ?_
        refine q_imul C dX12_rests_161 ?_
        refine x_iconst (v := (2 : Int32)) C dX12_rests_162 (by decide) ?_
        refine q_iload C dX12_rests_163 rfl ?_
        refine q_imul C dX12_rests_165 ?_
        refine q_iadd C dX12_rests_166 ?_
        refine x_iconst (v := (1 : Int32)) C dX12_rests_167 (by decide) ?_
        refine q_iadd C dX12_rests_168 ?_
        refine x_iald C dX12_rests_169 h (fun v25 h => ?_)
        refine q_icmp_gt (tgt := 177) C dX12_rests_170 (by decide) h (fun _ h => ?_) (fun _ h => ?_)
        · exact q_msk [true, false, false, true, true, true, true, false, true] (jW_X12_rests_177_92 C l0 l3 l4 l5 l6 l8 M h kC kE0)
        · refine x_iconst (v := (1 : Int32)) C dX12_rests_173 (by decide) ?_
          refine q_goto (tgt := 178) C dX12_rests_174 (by decide) ?_
          exact q_msk [true, false, false, true, true, true, true, false, true] (jW_X12_rests_178_92 C l0 l3 l4 l5 l6 l8 (1 : Int32) M h kC kE0)
  · exact q_msk [true, false, false, true, true, true, true, true, false] (kE0 _ (Option.some.inj h).symm)
set_option maxRecDepth 100000 in
set_option maxHeartbeats 4000000 in
theorem lW_X12_rests_92 {K : q_K} {Q : State → Prop} (C : q_C K yX12_rests cX12_rests 9 (Option.some Jvm.ClassFile.FieldType.int) 134 0 0) (l0 : Nat) (l3 : Int32) (l4 : Int32) (l5 : Int32) (l6 : Int32) (M : q_Mem) (n : Nat) : ∀ (l7 : Int32) (l8 : Int32) (e : (Int32)), q_lp (fun s => B_X12_rests_92 l0 l3 l4 l5 l6 s.1 s.2 M) n (l7, l8) = some e → (∀ (l7 : Int32), e = l7 → q_W K 9 Q 0 0 M 186 [some (.ref l0), none, none, some (.int l3), some (.int l4), some (.int l5), some (.int l6), some (.int l7), none] []) → q_W K 9 Q 0 0 M 92 [some (.ref l0), none, none, some (.int l3), some (.int l4), some (.int l5), some (.int l6), some (.int l7), some (.int l8)] [] := by
  induction n with
  | zero => intro l7 l8 e h; cases h
  | succ n ih =>
    intro l7 l8 e h kE0
    obtain ⟨stp, e1, e2⟩ := q_bind h
    refine bW_X12_rests_92 C l0 l3 l4 l5 l6 l7 l8 M e1 (fun a0 a1 hs => ?_) (fun b0 hs => ?_)
    · subst hs; exact ih _ _ _ e2 kE0
    · subst hs; exact kE0 _ (Option.some.inj e2).symm
noncomputable def J_X12_rests_212_80 (l0 : Nat) (l3 : Int32) (l4 : Int32) (l5 : Int32) (l6 : Int32) (M : q_Mem) : Option ((Int32 × Int32) ⊕ ((Int32) ⊕ (Int32))) := some (.inl (l4, (l6 + (1 : Int32))))
set_option maxRecDepth 100000 in
set_option maxHeartbeats 4000000 in
theorem jW_X12_rests_212_80 {K : q_K} {Q : State → Prop} (C : q_C K yX12_rests cX12_rests 9 (Option.some Jvm.ClassFile.FieldType.int) 134 0 0) (l0 : Nat) (l3 : Int32) (l4 : Int32) (l5 : Int32) (l6 : Int32) (M : q_Mem) {stp : (Int32 × Int32) ⊕ ((Int32) ⊕ (Int32))} (h : J_X12_rests_212_80 l0 l3 l4 l5 l6 M = some stp) (kC : ∀ (l4 : Int32) (l6 : Int32), stp = .inl (l4, l6) → q_W K 9 Q 0 0 M 80 [some (.ref l0), none, none, some (.int l3), some (.int l4), some (.int l5), some (.int l6), none, none] []) (kE0 : ∀ (l6 : Int32), stp = .inr (.inl l6) → q_W K 9 Q 0 0 M 200 [none, none, none, none, none, some (.int l5), some (.int l6), none, none] []) (kE1 : ∀ (l4 : Int32), stp = .inr (.inr l4) → q_W K 9 Q 0 0 M 218 [some (.ref l0), none, none, some (.int l3), some (.int l4), some (.int l5), none, none, none] []) : q_W K 9 Q 0 0 M 212 [some (.ref l0), none, none, some (.int l3), some (.int l4), some (.int l5), some (.int l6), none, none] [] := by
  unfold J_X12_rests_212_80 at h
  refine x_iinc (w := (1 : Int32)) (L' := [some (.ref l0), none, none, some (.int l3), some (.int l4), some (.int l5), some (.int (l6 + (1 : Int32))), none, none]) C dX12_rests_212 rfl (by decide) (by decide) rfl rfl ?_
  refine q_goto (tgt := 80) C dX12_rests_215 (by decide) ?_
  exact q_msk [true, false, false, true, true, true, true, false, false] (kC _ _ (Option.some.inj h).symm)
noncomputable def B_X12_rests_80 (l0 : Nat) (l3 : Int32) (l5 : Int32) (l4 : Int32) (l6 : Int32) (M : q_Mem) : Option ((Int32 × Int32) ⊕ ((Int32) ⊕ (Int32))) := (if l6 < (4 : Int32) then (q_lp (fun s => B_X12_rests_92 l0 l3 l4 l5 l6 s.1 s.2 M) q_fu ((1 : Int32), (0 : Int32))).bind (fun e26 => match e26 with | w27 => (if w27 = 0 then J_X12_rests_212_80 l0 l3 l4 l5 l6 M else (if l4 = l3 then some (.inr (.inl l6)) else J_X12_rests_212_80 l0 l3 (l4 + (1 : Int32)) l5 l6 M))) else some (.inr (.inr l4)))
set_option maxRecDepth 100000 in
set_option maxHeartbeats 4000000 in
theorem bW_X12_rests_80 {K : q_K} {Q : State → Prop} (C : q_C K yX12_rests cX12_rests 9 (Option.some Jvm.ClassFile.FieldType.int) 134 0 0) (l0 : Nat) (l3 : Int32) (l4 : Int32) (l5 : Int32) (l6 : Int32) (M : q_Mem) {stp : (Int32 × Int32) ⊕ ((Int32) ⊕ (Int32))} (h : B_X12_rests_80 l0 l3 l5 l4 l6 M = some stp) (kC : ∀ (l4 : Int32) (l6 : Int32), stp = .inl (l4, l6) → q_W K 9 Q 0 0 M 80 [some (.ref l0), none, none, some (.int l3), some (.int l4), some (.int l5), some (.int l6), none, none] []) (kE0 : ∀ (l6 : Int32), stp = .inr (.inl l6) → q_W K 9 Q 0 0 M 200 [none, none, none, none, none, some (.int l5), some (.int l6), none, none] []) (kE1 : ∀ (l4 : Int32), stp = .inr (.inr l4) → q_W K 9 Q 0 0 M 218 [some (.ref l0), none, none, some (.int l3), some (.int l4), some (.int l5), none, none, none] []) : q_W K 9 Q 0 0 M 80 [some (.ref l0), none, none, some (.int l3), some (.int l4), some (.int l5), some (.int l6), none, none] [] := by
  unfold B_X12_rests_80 at h
  refine q_iload C dX12_rests_80 rfl ?_
  refine x_iconst (v := (4 : Int32)) C dX12_rests_82 (by decide) ?_
  refine q_icmp_ge (tgt := 218) C dX12_rests_83 (by decide) h (fun _ h => ?_) (fun _ h => ?_)
  · refine x_iconst (v := (1 : Int32)) C dX12_rests_86 (by decide) ?_
    refine q_istore (L' := [some (.ref l0), none, none, some (.int l3), some (.int l4), some (.int l5), some (.int l6), some (.int (1 : Int32)), none]) C dX12_rests_87 (by decide) rfl rfl ?_
    refine x_iconst (v := (0 : Int32)) C dX12_rests_89 (by decide) ?_
    refine q_istore (L' := [some (.ref l0), none, none, some (.int l3), some (.int l4), some (.int l5), some (.int l6), some (.int (1 : Int32)), some (.int (0 : Int32))]) C dX12_rests_90 (by decide) rfl rfl ?_
    obtain ⟨e26, he, h⟩ := q_bind h
    refine q_msk [true, false, false, true, true, true, true, true, true] (lW_X12_rests_92 C l0 l3 l4 l5 l6 M q_fu _ _ _ he (fun w27 hs => ?_))
    · have hs := hs.symm
      subst hs
      refine q_iload C dX12_rests_186 rfl ?_
      refine q_if_ne (tgt := 194) C dX12_rests_188 (by decide) h (fun _ h => ?_) (fun _ h => ?_)
      · refine q_goto (tgt := 212) C dX12_rests_191 (by decide) ?_
        exact q_msk [true, false, false, true, true, true, true, false, false] (jW_X12_rests_212_80 C l0 l3 l4 l5 l6 M h kC kE0 kE1)
      · refine q_iload C dX12_rests_194 rfl ?_
        refine q_iload_n C dX12_rests_196 rfl ?_
        refine q_icmp_ne (tgt := 209) C dX12_rests_197 (by decide) h (fun _ h => ?_) (fun _ h => ?_)
        · exact q_msk [false, false, false, false, false, true, true, false, false] (kE0 _ (Option.some.inj h).symm)
        · refine x_iinc (w := (1 : Int32)) (L' := [some (.ref l0), none, none, some (.int l3), some (.int (l4 + (1 : Int32))), some (.int l5), some (.int l6), some (.int w27), none]) C dX12_rests_209 rfl (by decide) (by decide) rfl rfl ?_
          exact q_msk [true, false, false, true, true, true, true, false, false] (jW_X12_rests_212_80 C l0 l3 (l4 + (1 : Int32)) l5 l6 M h kC kE0 kE1)
  · exact q_msk [true, false, false, true, true, true, false, false, false] (kE1 _ (Option.some.inj h).symm)
set_option maxRecDepth 100000 in
set_option maxHeartbeats 4000000 in
theorem lW_X12_rests_80 {K : q_K} {Q : State → Prop} (C : q_C K yX12_rests cX12_rests 9 (Option.some Jvm.ClassFile.FieldType.int) 134 0 0) (l0 : Nat) (l3 : Int32) (l5 : Int32) (M : q_Mem) (n : Nat) : ∀ (l4 : Int32) (l6 : Int32) (e : ((Int32) ⊕ (Int32))), q_lp (fun s => B_X12_rests_80 l0 l3 l5 s.1 s.2 M) n (l4, l6) = some e → (∀ (l6 : Int32), e = (.inl l6) → q_W K 9 Q 0 0 M 200 [none, none, none, none, none, some (.int l5), some (.int l6), none, none] []) → (∀ (l4 : Int32), e = (.inr l4) → q_W K 9 Q 0 0 M 218 [some (.ref l0), none, none, some (.int l3), some (.int l4), some (.int l5), none, none, none] []) → q_W K 9 Q 0 0 M 80 [some (.ref l0), none, none, some (.int l3), some (.int l4), some (.int l5), some (.int l6), none, none] [] := by
  induction n with
  | zero => intro l4 l6 e h; cases h
  | succ n ih =>
    intro l4 l6 e h kE0 kE1
    obtain ⟨stp, e1, e2⟩ := q_bind h
    refine bW_X12_rests_80 C l0 l3 l4 l5 l6 M e1 (fun a0 a1 hs => ?_) (fun b0 hs => ?_) (fun b0 hs => ?_)
    · subst hs; exact ih _ _ _ e2 kE0 kE1
    · subst hs; exact kE0 _ (Option.some.inj e2).symm
    · subst hs; exact kE1 _ (Option.some.inj e2).symm
noncomputable def B_X12_rests_71 (l0 : Nat) (l3 : Int32) (l4 : Int32) (l5 : Int32) (M : q_Mem) : Option ((Int32 × Int32) ⊕ ((Int32 × Int32) ⊕ (Int32))) := (if l5 < (4 : Int32) then (q_lp (fun s => B_X12_rests_80 l0 l3 l5 s.1 s.2 M) q_fu (l4, (0 : Int32))).bind (fun e28 => match e28 with | .inl w29 => some (.inr (.inl (l5, w29))) | .inr w30 => some (.inl (w30, (l5 + (1 : Int32))))) else some (.inr (.inr l4)))
set_option maxRecDepth 100000 in
set_option maxHeartbeats 4000000 in
theorem bW_X12_rests_71 {K : q_K} {Q : State → Prop} (C : q_C K yX12_rests cX12_rests 9 (Option.some Jvm.ClassFile.FieldType.int) 134 0 0) (l0 : Nat) (l3 : Int32) (l4 : Int32) (l5 : Int32) (M : q_Mem) {stp : (Int32 × Int32) ⊕ ((Int32 × Int32) ⊕ (Int32))} (h : B_X12_rests_71 l0 l3 l4 l5 M = some stp) (kC : ∀ (l4 : Int32) (l5 : Int32), stp = .inl (l4, l5) → q_W K 9 Q 0 0 M 71 [some (.ref l0), none, none, some (.int l3), some (.int l4), some (.int l5), none, none, none] []) (kE0 : ∀ (l5 : Int32) (l6 : Int32), stp = .inr (.inl (l5, l6)) → q_W K 9 Q 0 0 M 200 [none, none, none, none, none, some (.int l5), some (.int l6), none, none] []) (kE1 : ∀ (l4 : Int32), stp = .inr (.inr l4) → q_W K 9 Q 0 0 M 224 [none, none, none, some (.int l3), some (.int l4), none, none, none, none] []) : q_W K 9 Q 0 0 M 71 [some (.ref l0), none, none, some (.int l3), some (.int l4), some (.int l5), none, none, none] [] := by
  unfold B_X12_rests_71 at h
  refine q_iload C dX12_rests_71 rfl ?_
  refine x_iconst (v := (4 : Int32)) C dX12_rests_73 (by decide) ?_
  refine q_icmp_ge (tgt := 224) C dX12_rests_74 (by decide) h (fun _ h => ?_) (fun _ h => ?_)
  · refine x_iconst (v := (0 : Int32)) C dX12_rests_77 (by decide) ?_
    refine q_istore (L' := [some (.ref l0), none, none, some (.int l3), some (.int l4), some (.int l5), some (.int (0 : Int32)), none, none]) C dX12_rests_78 (by decide) rfl rfl ?_
    obtain ⟨e28, he, h⟩ := q_bind h
    refine q_msk [true, false, false, true, true, true, true, false, false] (lW_X12_rests_80 C l0 l3 l5 M q_fu _ _ _ he (fun w29 hs => ?_) (fun w30 hs => ?_))
    · have hs := hs.symm
      subst hs
      exact q_msk [false, false, false, false, false, true, true, false, false] (kE0 _ _ (Option.some.inj h).symm)
    · have hs := hs.symm
      subst hs
      refine x_iinc (w := (1 : Int32)) (L' := [some (.ref l0), none, none, some (.int l3), some (.int w30), some (.int (l5 + (1 : Int32))), none, none, none]) C dX12_rests_218 rfl (by decide) (by decide) rfl rfl ?_
      refine q_goto (tgt := 71) C dX12_rests_221 (by decide) ?_
      exact q_msk [true, false, false, true, true, true, false, false, false] (kC _ _ (Option.some.inj h).symm)
  · exact q_msk [false, false, false, true, true, false, false, false, false] (kE1 _ (Option.some.inj h).symm)
set_option maxRecDepth 100000 in
set_option maxHeartbeats 4000000 in
theorem lW_X12_rests_71 {K : q_K} {Q : State → Prop} (C : q_C K yX12_rests cX12_rests 9 (Option.some Jvm.ClassFile.FieldType.int) 134 0 0) (l0 : Nat) (l3 : Int32) (M : q_Mem) (n : Nat) : ∀ (l4 : Int32) (l5 : Int32) (e : ((Int32 × Int32) ⊕ (Int32))), q_lp (fun s => B_X12_rests_71 l0 l3 s.1 s.2 M) n (l4, l5) = some e → (∀ (l5 : Int32) (l6 : Int32), e = (.inl (l5, l6)) → q_W K 9 Q 0 0 M 200 [none, none, none, none, none, some (.int l5), some (.int l6), none, none] []) → (∀ (l4 : Int32), e = (.inr l4) → q_W K 9 Q 0 0 M 224 [none, none, none, some (.int l3), some (.int l4), none, none, none, none] []) → q_W K 9 Q 0 0 M 71 [some (.ref l0), none, none, some (.int l3), some (.int l4), some (.int l5), none, none, none] [] := by
  induction n with
  | zero => intro l4 l5 e h; cases h
  | succ n ih =>
    intro l4 l5 e h kE0 kE1
    obtain ⟨stp, e1, e2⟩ := q_bind h
    refine bW_X12_rests_71 C l0 l3 l4 l5 M e1 (fun a0 a1 hs => ?_) (fun b0 b1 hs => ?_) (fun b0 hs => ?_)
    · subst hs; exact ih _ _ _ e2 kE0 kE1
    · subst hs; exact kE0 _ _ (Option.some.inj e2).symm
    · subst hs; exact kE1 _ (Option.some.inj e2).symm
noncomputable def F_X12_rests (l0 : Nat) (l1 : Int32) (l2 : Int32) (l3 : Int32) (M : q_Mem) : Option (Int32 × q_Mem) := (q_pI M l0 12 0 (0 : Int32) (fun M1 => (q_ob M1 l0 12 ((F_X12_isGame l0 l1 l2 M1).bind (fun u2 => (if u2 = 0 then some ((-1 : Int32), M1) else (if l3 < (-1 : Int32) then some ((-1 : Int32), M1) else (q_lp (fun s => B_X12_rests_24 l0 l1 l2 l3 s.1 s.2) q_fu ((0 : Int32), M1)).bind (fun e12 => match e12 with | M13 => (q_lp (fun s => B_X12_rests_71 l0 l3 s.1 s.2 M13) q_fu ((0 : Int32), (0 : Int32))).bind (fun e31 => match e31 with | .inl (w32, w33) => some ((((10 : Int32) * w32) + w33), M13) | .inr w34 => (if l3 = (-1 : Int32) then some (w34, M13) else some ((-1 : Int32), M13)))))))))))
set_option maxRecDepth 100000 in
set_option maxHeartbeats 4000000 in
theorem c_X12_rests (l : Launch) (G : q_G) (l0 : Nat) (l1 : Int32) (l2 : Int32) (l3 : Int32) (M : q_Mem) {r : Int32} {M' : q_Mem} (h : F_X12_rests l0 l1 l2 l3 M = some (r, M')) : q_Met l G yX12_rests cX12_rests 9 (Option.some Jvm.ClassFile.FieldType.int) 134 0 0 [.ref l0, .int l1, .int l2, .int l3] M (some (.int r)) M' := by
  unfold F_X12_rests at h
  refine q_enter [some (.ref l0), some (.int l1), some (.int l2), some (.int l3), none, none, none, none, none] (by decide) (Nat.le_of_ble_eq_true rfl) rfl (fun K C => ?_)
  refine q_aload_n C dX12_rests_0 rfl ?_
  refine x_iconst (v := (0 : Int32)) C dX12_rests_1 (by decide) ?_
  refine x_putI (ci := 12) (j := 0) C dX12_rests_2 lkF_X12_92 (fun r hr => by cases hr; rfl) rfl h (fun M1 h => ?_)
  refine q_aload_n C dX12_rests_5 rfl ?_
  refine q_iload_n C dX12_rests_6 rfl ?_
  refine q_iload_n C dX12_rests_7 rfl ?_
  obtain ⟨hk, h⟩ := q_obE h
  obtain ⟨u2, e1, h⟩ := q_bind h
  refine x_callV0 C dX12_rests_8 lkM_X12_440 mV_X12_isGame ⟨_, rfl, rfl⟩ hk (c_X12_isGame _ _ _ _ _ _ e1) rfl rfl (Nat.le_of_ble_eq_true rfl) (by decide) (by decide) ?_
  refine q_if_eq (tgt := 19) C dX12_rests_11 (by decide) h (fun _ h => ?_) (fun _ h => ?_)
  · refine x_iconst (v := (-1 : Int32)) C dX12_rests_19 (by decide) ?_
    exact q_iret C dX12_rests_20 rfl (by decide) (by decide) (Option.some.inj h)
  · refine q_iload_n C dX12_rests_14 rfl ?_
    refine x_iconst (v := (-1 : Int32)) C dX12_rests_15 (by decide) ?_
    refine q_icmp_ge (tgt := 21) C dX12_rests_16 (by decide) h (fun _ h => ?_) (fun _ h => ?_)
    · refine x_iconst (v := (-1 : Int32)) C dX12_rests_19 (by decide) ?_
      exact q_iret C dX12_rests_20 rfl (by decide) (by decide) (Option.some.inj h)
    · refine x_iconst (v := (0 : Int32)) C dX12_rests_21 (by decide) ?_
      refine q_istore (L' := [some (.ref l0), some (.int l1), some (.int l2), some (.int l3), some (.int (0 : Int32)), none, none, none, none]) C dX12_rests_22 (by decide) rfl rfl ?_
      obtain ⟨e12, he, h⟩ := q_bind h
      refine q_msk [true, true, true, true, true, false, false, false, false] (lW_X12_rests_24 C l0 l1 l2 l3 q_fu _ _ _ he (fun M13 hs => ?_))
      · have hs := hs.symm
        subst hs
        refine x_iconst (v := (0 : Int32)) C dX12_rests_65 (by decide) ?_
        refine q_istore (L' := [some (.ref l0), none, none, some (.int l3), some (.int (0 : Int32)), none, none, none, none]) C dX12_rests_66 (by decide) rfl rfl ?_
        refine x_iconst (v := (0 : Int32)) C dX12_rests_68 (by decide) ?_
        refine q_istore (L' := [some (.ref l0), none, none, some (.int l3), some (.int (0 : Int32)), some (.int (0 : Int32)), none, none, none]) C dX12_rests_69 (by decide) rfl rfl ?_
        obtain ⟨e31, he, h⟩ := q_bind h
        refine q_msk [true, false, false, true, true, true, false, false, false] (lW_X12_rests_71 C l0 l3 M13 q_fu _ _ _ he (fun w32 w33 hs => ?_) (fun w34 hs => ?_))
        · have hs := hs.symm
          subst hs
          refine x_bipush (v := (10 : Int32)) C dX12_rests_200 (by decide) ?_
          refine q_iload C dX12_rests_202 rfl ?_
          refine q_imul C dX12_rests_204 ?_
          refine q_iload C dX12_rests_205 rfl ?_
          refine q_iadd C dX12_rests_207 ?_
          exact q_iret C dX12_rests_208 rfl (by decide) (by decide) (Option.some.inj h)
        · have hs := hs.symm
          subst hs
          refine q_iload_n C dX12_rests_224 rfl ?_
          refine x_iconst (v := (-1 : Int32)) C dX12_rests_225 (by decide) ?_
          refine q_icmp_ne (tgt := 234) C dX12_rests_226 (by decide) h (fun _ h => ?_) (fun _ h => ?_)
          · refine q_iload C dX12_rests_229 rfl ?_
            refine q_goto (tgt := 235) C dX12_rests_231 (by decide) ?_
            exact q_iret C dX12_rests_235 rfl (by decide) (by decide) (Option.some.inj h)
          · refine x_iconst (v := (-1 : Int32)) C dX12_rests_234 (by decide) ?_
            exact q_iret C dX12_rests_235 rfl (by decide) (by decide) (Option.some.inj h)
def Hr_X12_oddsFrom (n0 : Nat) (rec : (Nat → Nat → Int32 → Int32 → Int32 → Int32 → q_Mem → Option (Int32 × q_Mem))) : Prop := ∀ (l : Launch) (G : q_G), (∀ (a0 : Nat) (a1 : Int32) (a2 : Int32) (a3 : Int32) (a4 : Int32) (M : q_Mem) (r : Int32) (M' : q_Mem), rec 0 a0 a1 a2 a3 a4 M = some (r, M') → q_Met l G yX12_oddsFrom cX12_oddsFrom 9 (Option.some Jvm.ClassFile.FieldType.int) (n0 + 133) 0 0 [.ref a0, .int a1, .int a2, .int a3, .int a4] M (some (.int r)) M')
noncomputable def B_X12_oddsFrom_45 (rec : (Nat → Nat → Int32 → Int32 → Int32 → Int32 → q_Mem → Option (Int32 × q_Mem))) (l0 : Nat) (l1 : Int32) (l2 : Int32) (l3 : Int32) (l4 : Int32) (l5 : Int32) (M : q_Mem) : Option ((Int32 × q_Mem) ⊕ (q_Mem)) := (if (36 : Int32) < l5 then some (.inr M) else (q_gR M l0 12 47 (fun c11 => q_nn c11 (fun r12 => (q_gR M l0 12 33 (fun c13 => q_nn c13 (fun r14 => (q_lI M 0 r14 l5 (fun v15 => (q_tI M r12 (((37 : Int32) * l2) + l5) v15 (fun M16 => some (.inl ((l5 + (1 : Int32)), M16)))))))))))))
set_option maxRecDepth 100000 in
set_option maxHeartbeats 4000000 in
theorem bW_X12_oddsFrom_45 {K : q_K} {Q : State → Prop} {n0 : Nat} (C : q_C K yX12_oddsFrom cX12_oddsFrom 9 (Option.some Jvm.ClassFile.FieldType.int) (n0 + 133 + 1) 0 0) {rec : (Nat → Nat → Int32 → Int32 → Int32 → Int32 → q_Mem → Option (Int32 × q_Mem))} (hr : Hr_X12_oddsFrom n0 rec) (l0 : Nat) (l1 : Int32) (l2 : Int32) (l3 : Int32) (l4 : Int32) (l5 : Int32) (M : q_Mem) {stp : (Int32 × q_Mem) ⊕ (q_Mem)} (h : B_X12_oddsFrom_45 rec l0 l1 l2 l3 l4 l5 M = some stp) (kC : ∀ (l5 : Int32) (M : q_Mem), stp = .inl (l5, M) → q_W K 9 Q 0 0 M 45 [some (.ref l0), some (.int l1), some (.int l2), some (.int l3), some (.int l4), some (.int l5), none, none, none] []) (kE0 : ∀ (M : q_Mem), stp = .inr M → q_W K 9 Q 0 0 M 77 [some (.ref l0), some (.int l1), some (.int l2), some (.int l3), some (.int l4), none, none, none, none] []) : q_W K 9 Q 0 0 M 45 [some (.ref l0), some (.int l1), some (.int l2), some (.int l3), some (.int l4), some (.int l5), none, none, none] [] := by
  unfold B_X12_oddsFrom_45 at h
  refine q_iload C dX12_oddsFrom_45 rfl ?_
  refine x_bipush (v := (36 : Int32)) C dX12_oddsFrom_47 (by decide) ?_
  refine q_icmp_gt (tgt := 77) C dX12_oddsFrom_49 (by decide) h (fun _ h => ?_) (fun _ h => ?_)
  · exact q_msk [true, true, true, true, true, false, false, false, false] (kE0 _ (Option.some.inj h).symm)
  · refine q_aload_n C dX12_oddsFrom_52 rfl ?_
    refine x_getR (ci := 12) (j := 47) C dX12_oddsFrom_53 lkF_X12_86 rfl h (fun c11 h => ?_)
    refine x_nn h (fun r12 h => ?_)
    refine x_bipush (v := (37 : Int32)) C dX12_oddsFrom_56 (by decide) ?_
    refine q_iload_n C dX12_oddsFrom_58 rfl ?_
    refine q_imul C dX12_oddsFrom_59 ?_
    refine q_iload C dX12_oddsFrom_60 rfl ?_
    refine q_iadd C dX12_oddsFrom_62 ?_
    refine q_aload_n C dX12_oddsFrom_63 rfl ?_
    refine x_getR (ci := 12) (j := 33) C dX12_oddsFrom_64 lkF_X12_64 rfl h (fun c13 h => ?_)
    refine x_nn h (fun r14 h => ?_)
    refine q_iload C dX12_oddsFrom_67 rfl ?_
    refine x_iald C dX12_oddsFrom_69 h (fun v15 h => ?_)
    refine x_iast C dX12_oddsFrom_70 h (fun M16 h => ?_)
    refine x_iinc (w := (1 : Int32)) (L' := [some (.ref l0), some (.int l1), some (.int l2), some (.int l3), some (.int l4), some (.int (l5 + (1 : Int32))), none, none, none]) C dX12_oddsFrom_71 rfl (by decide) (by decide) rfl rfl ?_
    refine q_goto (tgt := 45) C dX12_oddsFrom_74 (by decide) ?_
    exact q_msk [true, true, true, true, true, true, false, false, false] (kC _ _ (Option.some.inj h).symm)
set_option maxRecDepth 100000 in
set_option maxHeartbeats 4000000 in
theorem lW_X12_oddsFrom_45 {K : q_K} {Q : State → Prop} {n0 : Nat} (C : q_C K yX12_oddsFrom cX12_oddsFrom 9 (Option.some Jvm.ClassFile.FieldType.int) (n0 + 133 + 1) 0 0) {rec : (Nat → Nat → Int32 → Int32 → Int32 → Int32 → q_Mem → Option (Int32 × q_Mem))} (hr : Hr_X12_oddsFrom n0 rec) (l0 : Nat) (l1 : Int32) (l2 : Int32) (l3 : Int32) (l4 : Int32) (n : Nat) : ∀ (l5 : Int32) (M : q_Mem) (e : (q_Mem)), q_lp (fun s => B_X12_oddsFrom_45 rec l0 l1 l2 l3 l4 s.1 s.2) n (l5, M) = some e → (∀ (M : q_Mem), e = M → q_W K 9 Q 0 0 M 77 [some (.ref l0), some (.int l1), some (.int l2), some (.int l3), some (.int l4), none, none, none, none] []) → q_W K 9 Q 0 0 M 45 [some (.ref l0), some (.int l1), some (.int l2), some (.int l3), some (.int l4), some (.int l5), none, none, none] [] := by
  induction n with
  | zero => intro l5 M e h; cases h
  | succ n ih =>
    intro l5 M e h kE0
    obtain ⟨stp, e1, e2⟩ := q_bind h
    refine bW_X12_oddsFrom_45 C hr l0 l1 l2 l3 l4 l5 M e1 (fun a0 a1 hs => ?_) (fun b0 hs => ?_)
    · subst hs; exact ih _ _ _ e2 kE0
    · subst hs; exact kE0 _ (Option.some.inj e2).symm
noncomputable def B_X12_oddsFrom_138 (rec : (Nat → Nat → Int32 → Int32 → Int32 → Int32 → q_Mem → Option (Int32 × q_Mem))) (l0 : Nat) (l1 : Int32) (l2 : Int32) (l3 : Int32) (l5 : Int32) (l7 : Int32) (l8 : Int32) (M : q_Mem) : Option ((Int32 × q_Mem) ⊕ (q_Mem)) := (if (36 : Int32) < l8 then some (.inr M) else (q_gR M l0 12 33 (fun c28 => q_nn c28 (fun r29 => (q_gR M l0 12 47 (fun c30 => q_nn c30 (fun r31 => (q_lI M 0 r31 (((37 : Int32) * l2) + l8) (fun v32 => (q_tI M r29 l8 v32 (fun M33 => some (.inl ((l8 + (1 : Int32)), M33)))))))))))))
set_option maxRecDepth 100000 in
set_option maxHeartbeats 4000000 in
theorem bW_X12_oddsFrom_138 {K : q_K} {Q : State → Prop} {n0 : Nat} (C : q_C K yX12_oddsFrom cX12_oddsFrom 9 (Option.some Jvm.ClassFile.FieldType.int) (n0 + 133 + 1) 0 0) {rec : (Nat → Nat → Int32 → Int32 → Int32 → Int32 → q_Mem → Option (Int32 × q_Mem))} (hr : Hr_X12_oddsFrom n0 rec) (l0 : Nat) (l1 : Int32) (l2 : Int32) (l3 : Int32) (l5 : Int32) (l7 : Int32) (l8 : Int32) (M : q_Mem) {stp : (Int32 × q_Mem) ⊕ (q_Mem)} (h : B_X12_oddsFrom_138 rec l0 l1 l2 l3 l5 l7 l8 M = some stp) (kC : ∀ (l8 : Int32) (M : q_Mem), stp = .inl (l8, M) → q_W K 9 Q 0 0 M 138 [some (.ref l0), some (.int l1), some (.int l2), some (.int l3), none, some (.int l5), none, some (.int l7), some (.int l8)] []) (kE0 : ∀ (M : q_Mem), stp = .inr M → q_W K 9 Q 0 0 M 170 [some (.ref l0), some (.int l1), some (.int l2), some (.int l3), none, some (.int l5), none, some (.int l7), none] []) : q_W K 9 Q 0 0 M 138 [some (.ref l0), some (.int l1), some (.int l2), some (.int l3), none, some (.int l5), none, some (.int l7), some (.int l8)] [] := by
  unfold B_X12_oddsFrom_138 at h
  refine q_iload C dX12_oddsFrom_138 rfl ?_
  refine x_bipush (v := (36 : Int32)) C dX12_oddsFrom_140 (by decide) ?_
  refine q_icmp_gt (tgt := 170) C dX12_oddsFrom_142 (by decide) h (fun _ h => ?_) (fun _ h => ?_)
  · exact q_msk [true, true, true, true, false, true, false, true, false] (kE0 _ (Option.some.inj h).symm)
  · refine q_aload_n C dX12_oddsFrom_145 rfl ?_
    refine x_getR (ci := 12) (j := 33) C dX12_oddsFrom_146 lkF_X12_64 rfl h (fun c28 h => ?_)
    refine x_nn h (fun r29 h => ?_)
    refine q_iload C dX12_oddsFrom_149 rfl ?_
    refine q_aload_n C dX12_oddsFrom_151 rfl ?_
    refine x_getR (ci := 12) (j := 47) C dX12_oddsFrom_152 lkF_X12_86 rfl h (fun c30 h => ?_)
    refine x_nn h (fun r31 h => ?_)
    refine x_bipush (v := (37 : Int32)) C dX12_oddsFrom_155 (by decide) ?_
    refine q_iload_n C dX12_oddsFrom_157 rfl ?_
    refine q_imul C dX12_oddsFrom_158 ?_
    refine q_iload C dX12_oddsFrom_159 rfl ?_
    refine q_iadd C dX12_oddsFrom_161 ?_
    refine x_iald C dX12_oddsFrom_162 h (fun v32 h => ?_)
    refine x_iast C dX12_oddsFrom_163 h (fun M33 h => ?_)
    refine x_iinc (w := (1 : Int32)) (L' := [some (.ref l0), some (.int l1), some (.int l2), some (.int l3), none, some (.int l5), none, some (.int l7), some (.int (l8 + (1 : Int32)))]) C dX12_oddsFrom_164 rfl (by decide) (by decide) rfl rfl ?_
    refine q_goto (tgt := 138) C dX12_oddsFrom_167 (by decide) ?_
    exact q_msk [true, true, true, true, false, true, false, true, true] (kC _ _ (Option.some.inj h).symm)
set_option maxRecDepth 100000 in
set_option maxHeartbeats 4000000 in
theorem lW_X12_oddsFrom_138 {K : q_K} {Q : State → Prop} {n0 : Nat} (C : q_C K yX12_oddsFrom cX12_oddsFrom 9 (Option.some Jvm.ClassFile.FieldType.int) (n0 + 133 + 1) 0 0) {rec : (Nat → Nat → Int32 → Int32 → Int32 → Int32 → q_Mem → Option (Int32 × q_Mem))} (hr : Hr_X12_oddsFrom n0 rec) (l0 : Nat) (l1 : Int32) (l2 : Int32) (l3 : Int32) (l5 : Int32) (l7 : Int32) (n : Nat) : ∀ (l8 : Int32) (M : q_Mem) (e : (q_Mem)), q_lp (fun s => B_X12_oddsFrom_138 rec l0 l1 l2 l3 l5 l7 s.1 s.2) n (l8, M) = some e → (∀ (M : q_Mem), e = M → q_W K 9 Q 0 0 M 170 [some (.ref l0), some (.int l1), some (.int l2), some (.int l3), none, some (.int l5), none, some (.int l7), none] []) → q_W K 9 Q 0 0 M 138 [some (.ref l0), some (.int l1), some (.int l2), some (.int l3), none, some (.int l5), none, some (.int l7), some (.int l8)] [] := by
  induction n with
  | zero => intro l8 M e h; cases h
  | succ n ih =>
    intro l8 M e h kE0
    obtain ⟨stp, e1, e2⟩ := q_bind h
    refine bW_X12_oddsFrom_138 C hr l0 l1 l2 l3 l5 l7 l8 M e1 (fun a0 a1 hs => ?_) (fun b0 hs => ?_)
    · subst hs; exact ih _ _ _ e2 kE0
    · subst hs; exact kE0 _ (Option.some.inj e2).symm
noncomputable def J_X12_oddsFrom_102 (rec : (Nat → Nat → Int32 → Int32 → Int32 → Int32 → q_Mem → Option (Int32 × q_Mem))) (l0 : Nat) (l1 : Int32) (l2 : Int32) (l3 : Int32) (l4 : Int32) (s0 : Int32) (M : q_Mem) : Option (Int32 × q_Mem) := (q_gR M l0 12 33 (fun c22 => q_nn c22 (fun r23 => (q_ob M l0 12 ((F_X12_goDay l0 r23 M).bind (fun x => match x with | (u24, M25) => (q_ob M25 l0 12 ((rec 0 l0 l1 (l2 - (1 : Int32)) l3 (l4 - s0) M25).bind (fun x => match x with | (u26, M27) => (if 0 < s0 then (q_lp (fun s => B_X12_oddsFrom_138 rec l0 l1 l2 l3 s0 u26 s.1 s.2) q_fu ((0 : Int32), M27)).bind (fun e34 => match e34 with | M35 => (q_gR M35 l0 12 33 (fun c36 => q_nn c36 (fun r37 => (q_lI M35 0 r37 (32 : Int32) (fun v38 => (q_tI M35 r37 (32 : Int32) (v38 + (1 : Int32)) (fun M39 => (q_gR M39 l0 12 33 (fun c40 => q_nn c40 (fun r41 => (q_ob M39 l0 12 ((F_X12_goDay l0 r41 M39).bind (fun x => match x with | (u42, M43) => (q_ob M43 l0 12 ((rec 0 l0 l1 (l2 - (1 : Int32)) l3 s0 M43).bind (fun x => match x with | (u44, M45) => some ((u26 + u44), M45)))))))))))))))))) else some (u26, M27)))))))))))
set_option maxRecDepth 100000 in
set_option maxHeartbeats 4000000 in
theorem jW_X12_oddsFrom_102 {K : q_K} {n0 : Nat} (C : q_C K yX12_oddsFrom cX12_oddsFrom 9 (Option.some Jvm.ClassFile.FieldType.int) (n0 + 133 + 1) 0 0) {rec : (Nat → Nat → Int32 → Int32 → Int32 → Int32 → q_Mem → Option (Int32 × q_Mem))} (hr : Hr_X12_oddsFrom n0 rec) (l0 : Nat) (l1 : Int32) (l2 : Int32) (l3 : Int32) (l4 : Int32) (s0 : Int32) (M : q_Mem) {r : Int32} {M' : q_Mem} (h : J_X12_oddsFrom_102 rec l0 l1 l2 l3 l4 s0 M = some (r, M')) : q_W K 9 (q_Q K (some (.int r)) M' 0 0) 0 0 M 102 [some (.ref l0), some (.int l1), some (.int l2), some (.int l3), some (.int l4), none, none, none, none] [.int s0] := by
  unfold J_X12_oddsFrom_102 at h
  refine q_istore (L' := [some (.ref l0), some (.int l1), some (.int l2), some (.int l3), some (.int l4), some (.int s0), none, none, none]) C dX12_oddsFrom_102 (by decide) rfl rfl ?_
  refine q_aload_n C dX12_oddsFrom_104 rfl ?_
  refine q_aload_n C dX12_oddsFrom_105 rfl ?_
  refine x_getR (ci := 12) (j := 33) C dX12_oddsFrom_106 lkF_X12_64 rfl h (fun c22 h => ?_)
  refine x_nn h (fun r23 h => ?_)
  obtain ⟨hk, h⟩ := q_obE h
  obtain ⟨⟨u24, M25⟩, e1, h⟩ := q_bind h
  refine x_callV0 C dX12_oddsFrom_109 lkM_X12_370 mV_X12_goDay ⟨_, rfl, rfl⟩ hk (c_X12_goDay _ _ _ _ _ e1) rfl rfl (Nat.le_of_ble_eq_true rfl) (⟨by omega, by decide⟩) (by decide) ?_
  refine q_istore (L' := [some (.ref l0), some (.int l1), some (.int l2), some (.int l3), some (.int l4), some (.int s0), some (.int u24), none, none]) C dX12_oddsFrom_112 (by decide) rfl rfl ?_
  refine q_aload_n C dX12_oddsFrom_114 rfl ?_
  refine q_iload_n C dX12_oddsFrom_115 rfl ?_
  refine q_iload_n C dX12_oddsFrom_116 rfl ?_
  refine x_iconst (v := (1 : Int32)) C dX12_oddsFrom_117 (by decide) ?_
  refine q_isub C dX12_oddsFrom_118 ?_
  refine q_iload_n C dX12_oddsFrom_119 rfl ?_
  refine q_iload C dX12_oddsFrom_120 rfl ?_
  refine q_iload C dX12_oddsFrom_122 rfl ?_
  refine q_isub C dX12_oddsFrom_124 ?_
  obtain ⟨hk, h⟩ := q_obE h
  obtain ⟨⟨u26, M27⟩, e1, h⟩ := q_bind h
  refine x_callV0 C dX12_oddsFrom_125 lkM_X12_449 mV_X12_oddsFrom ⟨_, rfl, rfl⟩ hk ((hr _ _) _ _ _ _ _ _ _ _ e1) rfl rfl (Nat.le_of_ble_eq_true rfl) (⟨by omega, by decide⟩) (by decide) ?_
  refine q_istore (L' := [some (.ref l0), some (.int l1), some (.int l2), some (.int l3), some (.int l4), some (.int s0), some (.int u24), some (.int u26), none]) C dX12_oddsFrom_128 (by decide) rfl rfl ?_
  refine q_iload C dX12_oddsFrom_130 rfl ?_
  refine q_if_le (tgt := 207) C dX12_oddsFrom_132 (by decide) h (fun _ h => ?_) (fun _ h => ?_)
  · refine x_iconst (v := (0 : Int32)) C dX12_oddsFrom_135 (by decide) ?_
    refine q_istore (L' := [some (.ref l0), some (.int l1), some (.int l2), some (.int l3), some (.int l4), some (.int s0), some (.int u24), some (.int u26), some (.int (0 : Int32))]) C dX12_oddsFrom_136 (by decide) rfl rfl ?_
    obtain ⟨e34, he, h⟩ := q_bind h
    refine q_msk [true, true, true, true, false, true, false, true, true] (lW_X12_oddsFrom_138 C hr l0 l1 l2 l3 s0 u26 q_fu _ _ _ he (fun M35 hs => ?_))
    · have hs := hs.symm
      subst hs
      refine q_aload_n C dX12_oddsFrom_170 rfl ?_
      refine x_getR (ci := 12) (j := 33) C dX12_oddsFrom_171 lkF_X12_64 rfl h (fun c36 h => ?_)
      refine x_nn h (fun r37 h => ?_)
      refine x_bipush (v := (32 : Int32)) C dX12_oddsFrom_174 (by decide) ?_
      refine q_dup2 C dX12_oddsFrom_176 rfl rfl ?_
      refine x_iald C dX12_oddsFrom_177 h (fun v38 h => ?_)
      refine x_iconst (v := (1 : Int32)) C dX12_oddsFrom_178 (by decide) ?_
      refine q_iadd C dX12_oddsFrom_179 ?_
      refine x_iast C dX12_oddsFrom_180 h (fun M39 h => ?_)
      refine q_aload_n C dX12_oddsFrom_181 rfl ?_
      refine q_aload_n C dX12_oddsFrom_182 rfl ?_
      refine x_getR (ci := 12) (j := 33) C dX12_oddsFrom_183 lkF_X12_64 rfl h (fun c40 h => ?_)
      refine x_nn h (fun r41 h => ?_)
      obtain ⟨hk, h⟩ := q_obE h
      obtain ⟨⟨u42, M43⟩, e1, h⟩ := q_bind h
      refine x_callV0 C dX12_oddsFrom_186 lkM_X12_370 mV_X12_goDay ⟨_, rfl, rfl⟩ hk (c_X12_goDay _ _ _ _ _ e1) rfl rfl (Nat.le_of_ble_eq_true rfl) (⟨by omega, by decide⟩) (by decide) ?_
      refine q_istore (L' := [some (.ref l0), some (.int l1), some (.int l2), some (.int l3), none, some (.int s0), some (.int u42), some (.int u26), none]) C dX12_oddsFrom_189 (by decide) rfl rfl ?_
      refine q_iload C dX12_oddsFrom_191 rfl ?_
      refine q_aload_n C dX12_oddsFrom_193 rfl ?_
      refine q_iload_n C dX12_oddsFrom_194 rfl ?_
      refine q_iload_n C dX12_oddsFrom_195 rfl ?_
      refine x_iconst (v := (1 : Int32)) C dX12_oddsFrom_196 (by decide) ?_
      refine q_isub C dX12_oddsFrom_197 ?_
      refine q_iload_n C dX12_oddsFrom_198 rfl ?_
      refine q_iload C dX12_oddsFrom_199 rfl ?_
      obtain ⟨hk, h⟩ := q_obE h
      obtain ⟨⟨u44, M45⟩, e1, h⟩ := q_bind h
      refine x_callV0 C dX12_oddsFrom_201 lkM_X12_449 mV_X12_oddsFrom ⟨_, rfl, rfl⟩ hk ((hr _ _) _ _ _ _ _ _ _ _ e1) rfl rfl (Nat.le_of_ble_eq_true rfl) (⟨by omega, by decide⟩) (by decide) ?_
      refine q_iadd C dX12_oddsFrom_204 ?_
      refine q_istore (L' := [some (.ref l0), some (.int l1), some (.int l2), some (.int l3), none, some (.int s0), some (.int u42), some (.int (u26 + u44)), none]) C dX12_oddsFrom_205 (by decide) rfl rfl ?_
      refine q_iload C dX12_oddsFrom_207 rfl ?_
      exact q_iret C dX12_oddsFrom_209 rfl (by decide) (by decide) (Option.some.inj h)
  · refine q_iload C dX12_oddsFrom_207 rfl ?_
    exact q_iret C dX12_oddsFrom_209 rfl (by decide) (by decide) (Option.some.inj h)
noncomputable def F_X12_oddsFrom (rec : (Nat → Nat → Int32 → Int32 → Int32 → Int32 → q_Mem → Option (Int32 × q_Mem))) (l0 : Nat) (l1 : Int32) (l2 : Int32) (l3 : Int32) (l4 : Int32) (M : q_Mem) : Option (Int32 × q_Mem) := (if l2 = 0 then (q_gR M l0 12 33 (fun c1 => q_nn c1 (fun r2 => (q_ob M l0 12 ((F_X12_isThere l0 r2 l1 M).bind (fun u3 => (if u3 = 0 then some ((0 : Int32), M) else (q_gR M l0 12 33 (fun c4 => q_nn c4 (fun r5 => (q_ob M l0 12 ((F_X12_goTable l0 r5 M).bind (fun x => match x with | (_, M7) => (q_gR M7 l0 12 36 (fun c8 => q_nn c8 (fun r9 => (q_lI M7 0 r9 l1 (fun v10 => (if 0 < v10 then some (l4, M7) else some ((0 : Int32), M7)))))))))))))))))))) else (q_lp (fun s => B_X12_oddsFrom_45 rec l0 l1 l2 l3 l4 s.1 s.2) q_fu ((0 : Int32), M)).bind (fun e17 => match e17 with | M18 => (q_gR M18 l0 12 33 (fun c19 => q_nn c19 (fun r20 => ((F_X12_canBeIll r20 M18).bind (fun u21 => (if u21 = 0 then J_X12_oddsFrom_102 rec l0 l1 l2 l3 l4 (0 : Int32) M18 else (q_dvl (l4.toInt64 * l3.toInt64) (100 : Int64) (fun v46 => J_X12_oddsFrom_102 rec l0 l1 l2 l3 l4 v46.toInt32 M18))))))))))
set_option maxRecDepth 100000 in
set_option maxHeartbeats 4000000 in
theorem cr_X12_oddsFrom {l : Launch} {G : q_G} {n0 : Nat} {rec : (Nat → Nat → Int32 → Int32 → Int32 → Int32 → q_Mem → Option (Int32 × q_Mem))} (hr : Hr_X12_oddsFrom n0 rec) (l0 : Nat) (l1 : Int32) (l2 : Int32) (l3 : Int32) (l4 : Int32) (M : q_Mem) {r : Int32} {M' : q_Mem} (h : F_X12_oddsFrom rec l0 l1 l2 l3 l4 M = some (r, M')) : q_Met l G yX12_oddsFrom cX12_oddsFrom 9 (Option.some Jvm.ClassFile.FieldType.int) (n0 + 133 + 1) 0 0 [.ref l0, .int l1, .int l2, .int l3, .int l4] M (some (.int r)) M' := by
  unfold F_X12_oddsFrom at h
  refine q_enter [some (.ref l0), some (.int l1), some (.int l2), some (.int l3), some (.int l4), none, none, none, none] (by decide) (Nat.le_of_ble_eq_true rfl) rfl (fun K C => ?_)
  refine q_iload_n C dX12_oddsFrom_0 rfl ?_
  refine q_if_ne (tgt := 42) C dX12_oddsFrom_1 (by decide) h (fun _ h => ?_) (fun _ h => ?_)
  · refine q_aload_n C dX12_oddsFrom_4 rfl ?_
    refine q_aload_n C dX12_oddsFrom_5 rfl ?_
    refine x_getR (ci := 12) (j := 33) C dX12_oddsFrom_6 lkF_X12_64 rfl h (fun c1 h => ?_)
    refine x_nn h (fun r2 h => ?_)
    refine q_iload_n C dX12_oddsFrom_9 rfl ?_
    obtain ⟨hk, h⟩ := q_obE h
    obtain ⟨u3, e1, h⟩ := q_bind h
    refine x_callV0 C dX12_oddsFrom_10 lkM_X12_302 mV_X12_isThere ⟨_, rfl, rfl⟩ hk (c_X12_isThere _ _ _ _ _ _ e1) rfl rfl (Nat.le_of_ble_eq_true rfl) (⟨by omega, by decide⟩) (by decide) ?_
    refine q_if_ne (tgt := 18) C dX12_oddsFrom_13 (by decide) h (fun _ h => ?_) (fun _ h => ?_)
    · refine x_iconst (v := (0 : Int32)) C dX12_oddsFrom_16 (by decide) ?_
      exact q_iret C dX12_oddsFrom_17 rfl (by decide) (by decide) (Option.some.inj h)
    · refine q_aload_n C dX12_oddsFrom_18 rfl ?_
      refine q_aload_n C dX12_oddsFrom_19 rfl ?_
      refine x_getR (ci := 12) (j := 33) C dX12_oddsFrom_20 lkF_X12_64 rfl h (fun c4 h => ?_)
      refine x_nn h (fun r5 h => ?_)
      obtain ⟨hk, h⟩ := q_obE h
      obtain ⟨⟨_, M7⟩, e1, h⟩ := q_bind h
      refine x_callVv0 C dX12_oddsFrom_23 lkM_X12_341 mV_X12_goTable ⟨_, rfl, rfl⟩ hk (c_X12_goTable _ _ _ _ _ e1) rfl rfl (Nat.le_of_ble_eq_true rfl) (⟨by omega, by decide⟩) (by decide) ?_
      refine q_aload_n C dX12_oddsFrom_26 rfl ?_
      refine x_getR (ci := 12) (j := 36) C dX12_oddsFrom_27 lkF_X12_74 rfl h (fun c8 h => ?_)
      refine x_nn h (fun r9 h => ?_)
      refine q_iload_n C dX12_oddsFrom_30 rfl ?_
      refine x_iald C dX12_oddsFrom_31 h (fun v10 h => ?_)
      refine q_if_le (tgt := 40) C dX12_oddsFrom_32 (by decide) h (fun _ h => ?_) (fun _ h => ?_)
      · refine q_iload C dX12_oddsFrom_35 rfl ?_
        refine q_goto (tgt := 41) C dX12_oddsFrom_37 (by decide) ?_
        exact q_iret C dX12_oddsFrom_41 rfl (by decide) (by decide) (Option.some.inj h)
      · refine x_iconst (v := (0 : Int32)) C dX12_oddsFrom_40 (by decide) ?_
        exact q_iret C dX12_oddsFrom_41 rfl (by decide) (by decide) (Option.some.inj h)
  · refine x_iconst (v := (0 : Int32)) C dX12_oddsFrom_42 (by decide) ?_
    refine q_istore (L' := [some (.ref l0), some (.int l1), some (.int l2), some (.int l3), some (.int l4), some (.int (0 : Int32)), none, none, none]) C dX12_oddsFrom_43 (by decide) rfl rfl ?_
    obtain ⟨e17, he, h⟩ := q_bind h
    refine q_msk [true, true, true, true, true, true, false, false, false] (lW_X12_oddsFrom_45 C hr l0 l1 l2 l3 l4 q_fu _ _ _ he (fun M18 hs => ?_))
    · have hs := hs.symm
      subst hs
      refine q_aload_n C dX12_oddsFrom_77 rfl ?_
      refine x_getR (ci := 12) (j := 33) C dX12_oddsFrom_78 lkF_X12_64 rfl h (fun c19 h => ?_)
      refine x_nn h (fun r20 h => ?_)
      obtain ⟨u21, e1, h⟩ := q_bind h
      refine x_callS0 C dX12_oddsFrom_81 lkM_X12_376 mS_X12_canBeIll (c_X12_canBeIll _ _ _ _ e1) rfl rfl (Nat.le_of_ble_eq_true rfl) (⟨by omega, by decide⟩) (by decide) ?_
      refine q_if_eq (tgt := 101) C dX12_oddsFrom_84 (by decide) h (fun _ h => ?_) (fun _ h => ?_)
      · refine x_iconst (v := (0 : Int32)) C dX12_oddsFrom_101 (by decide) ?_
        exact q_msk [true, true, true, true, true, false, false, false, false] (jW_X12_oddsFrom_102 C hr l0 l1 l2 l3 l4 (0 : Int32) M18 h)
      · refine q_iload C dX12_oddsFrom_87 rfl ?_
        refine q_i2l C dX12_oddsFrom_89 ?_
        refine q_iload_n C dX12_oddsFrom_90 rfl ?_
        refine q_i2l C dX12_oddsFrom_91 ?_
        refine q_lmul C dX12_oddsFrom_92 ?_
        refine q_ldc2 (v := (100 : Int64)) C dX12_oddsFrom_93 wd_1778 ?_
        refine q_ldiv C dX12_oddsFrom_96 h (fun v46 h => ?_)
        refine q_l2i C dX12_oddsFrom_97 ?_
        refine q_goto (tgt := 102) C dX12_oddsFrom_98 (by decide) ?_
        exact q_msk [true, true, true, true, true, false, false, false, false] (jW_X12_oddsFrom_102 C hr l0 l1 l2 l3 l4 v46.toInt32 M18 h)
noncomputable def R_X12_oddsFrom : Nat → Nat → Nat → Int32 → Int32 → Int32 → Int32 → q_Mem → Option (Int32 × q_Mem)
  | 0 => fun _ _ _ _ _ _ _ => none
  | n + 1 => fun tag a0 b0 b1 b2 b3 M => match tag with | _ => F_X12_oddsFrom (R_X12_oddsFrom n) a0 b0 b1 b2 b3 M
set_option maxRecDepth 100000 in
theorem Rok_X12_oddsFrom (n : Nat) : Hr_X12_oddsFrom n (R_X12_oddsFrom n) := by
  induction n with
  | zero => exact fun l G => (fun a0 a1 a2 a3 a4 M r M' h => by cases h)
  | succ n ih => exact fun l G => (fun a0 a1 a2 a3 a4 M r M' h => cr_X12_oddsFrom ih a0 a1 a2 a3 a4 M h)
theorem c_X12_oddsFrom (l : Launch) (G : q_G) (a0 : Nat) (a1 : Int32) (a2 : Int32) (a3 : Int32) (a4 : Int32) (M : q_Mem) {r : Int32} {M' : q_Mem} (h : R_X12_oddsFrom 60 0 a0 a1 a2 a3 a4 M = some (r, M')) : q_Met l G yX12_oddsFrom cX12_oddsFrom 9 (Option.some Jvm.ClassFile.FieldType.int) 193 0 0 [.ref a0, .int a1, .int a2, .int a3, .int a4] M (some (.int r)) M' := (Rok_X12_oddsFrom 60 l G) a0 a1 a2 a3 a4 M r M' h
noncomputable def F_X12_odds (l0 : Nat) (l1 : Int32) (l2 : Int32) (l3 : Int32) (M : q_Mem) : Option (Int32 × q_Mem) := (q_pI M l0 12 0 (0 : Int32) (fun M1 => (q_ob M1 l0 12 ((F_X12_isGuest l0 l1 M1).bind (fun u2 => (if u2 = 0 then some ((-1 : Int32), M1) else ((F_X12_isIn l2.toInt64 (0 : Int64) (4 : Int64) M1).bind (fun u3 => (if u3 = 0 then some ((-1 : Int32), M1) else ((F_X12_isIn l3.toInt64 (0 : Int64) (100 : Int64) M1).bind (fun u4 => (if u4 = 0 then some ((-1 : Int32), M1) else (q_gR M1 l0 12 32 (fun c5 => q_nn c5 (fun r6 => (q_gR M1 l0 12 33 (fun c7 => q_nn c7 (fun r8 => ((F_X12_copy r6 r8 M1).bind (fun x => match x with | (_, M10) => (q_ob M10 l0 12 ((R_X12_oddsFrom 60 0 l0 l1 l2 l3 (1000000000 : Int32) M10).bind (fun x => match x with | (u11, M12) => some (u11, M12))))))))))))))))))))))))
set_option maxRecDepth 100000 in
set_option maxHeartbeats 4000000 in
theorem c_X12_odds (l : Launch) (G : q_G) (l0 : Nat) (l1 : Int32) (l2 : Int32) (l3 : Int32) (M : q_Mem) {r : Int32} {M' : q_Mem} (h : F_X12_odds l0 l1 l2 l3 M = some (r, M')) : q_Met l G yX12_odds cX12_odds 4 (Option.some Jvm.ClassFile.FieldType.int) 194 0 0 [.ref l0, .int l1, .int l2, .int l3] M (some (.int r)) M' := by
  unfold F_X12_odds at h
  refine q_enter [some (.ref l0), some (.int l1), some (.int l2), some (.int l3)] (by decide) (Nat.le_of_ble_eq_true rfl) rfl (fun K C => ?_)
  refine q_aload_n C dX12_odds_0 rfl ?_
  refine x_iconst (v := (0 : Int32)) C dX12_odds_1 (by decide) ?_
  refine x_putI (ci := 12) (j := 0) C dX12_odds_2 lkF_X12_92 (fun r hr => by cases hr; rfl) rfl h (fun M1 h => ?_)
  refine q_aload_n C dX12_odds_5 rfl ?_
  refine q_iload_n C dX12_odds_6 rfl ?_
  obtain ⟨hk, h⟩ := q_obE h
  obtain ⟨u2, e1, h⟩ := q_bind h
  refine x_callV0 C dX12_odds_7 lkM_X12_360 mV_X12_isGuest ⟨_, rfl, rfl⟩ hk (c_X12_isGuest _ _ _ _ _ e1) rfl rfl (Nat.le_of_ble_eq_true rfl) (by decide) (by decide) ?_
  refine q_if_eq (tgt := 37) C dX12_odds_10 (by decide) h (fun _ h => ?_) (fun _ h => ?_)
  · refine x_iconst (v := (-1 : Int32)) C dX12_odds_37 (by decide) ?_
    exact q_iret C dX12_odds_38 rfl (by decide) (by decide) (Option.some.inj h)
  · refine q_iload_n C dX12_odds_13 rfl ?_
    refine q_i2l C dX12_odds_14 ?_
    refine x_lconst (v := (0 : Int64)) C dX12_odds_15 (by decide) ?_
    refine q_ldc2 (v := (4 : Int64)) C dX12_odds_16 wd_1777 ?_
    obtain ⟨u3, e1, h⟩ := q_bind h
    refine x_callS0 C dX12_odds_19 lkM_X12_213 mS_X12_isIn (c_X12_isIn _ _ _ _ _ _ e1) rfl rfl (Nat.le_of_ble_eq_true rfl) (by decide) (by decide) ?_
    refine q_if_eq (tgt := 37) C dX12_odds_22 (by decide) h (fun _ h => ?_) (fun _ h => ?_)
    · refine x_iconst (v := (-1 : Int32)) C dX12_odds_37 (by decide) ?_
      exact q_iret C dX12_odds_38 rfl (by decide) (by decide) (Option.some.inj h)
    · refine q_iload_n C dX12_odds_25 rfl ?_
      refine q_i2l C dX12_odds_26 ?_
      refine x_lconst (v := (0 : Int64)) C dX12_odds_27 (by decide) ?_
      refine q_ldc2 (v := (100 : Int64)) C dX12_odds_28 wd_1778 ?_
      obtain ⟨u4, e1, h⟩ := q_bind h
      refine x_callS0 C dX12_odds_31 lkM_X12_213 mS_X12_isIn (c_X12_isIn _ _ _ _ _ _ e1) rfl rfl (Nat.le_of_ble_eq_true rfl) (by decide) (by decide) ?_
      refine q_if_ne (tgt := 39) C dX12_odds_34 (by decide) h (fun _ h => ?_) (fun _ h => ?_)
      · refine x_iconst (v := (-1 : Int32)) C dX12_odds_37 (by decide) ?_
        exact q_iret C dX12_odds_38 rfl (by decide) (by decide) (Option.some.inj h)
      · refine q_aload_n C dX12_odds_39 rfl ?_
        refine x_getR (ci := 12) (j := 32) C dX12_odds_40 lkF_X12_61 rfl h (fun c5 h => ?_)
        refine x_nn h (fun r6 h => ?_)
        refine q_aload_n C dX12_odds_43 rfl ?_
        refine x_getR (ci := 12) (j := 33) C dX12_odds_44 lkF_X12_64 rfl h (fun c7 h => ?_)
        refine x_nn h (fun r8 h => ?_)
        obtain ⟨⟨_, M10⟩, e1, h⟩ := q_bind h
        refine x_callSv0 C dX12_odds_47 lkM_X12_409 mS_X12_copy (c_X12_copy _ _ _ _ _ e1) rfl rfl (Nat.le_of_ble_eq_true rfl) (by decide) (by decide) ?_
        refine q_aload_n C dX12_odds_50 rfl ?_
        refine q_iload_n C dX12_odds_51 rfl ?_
        refine q_iload_n C dX12_odds_52 rfl ?_
        refine q_iload_n C dX12_odds_53 rfl ?_
        refine q_ldcw (v := (1000000000 : Int32)) C dX12_odds_54 wd_1779 ?_
        obtain ⟨hk, h⟩ := q_obE h
        obtain ⟨⟨u11, M12⟩, e1, h⟩ := q_bind h
        refine x_callV0 C dX12_odds_57 lkM_X12_449 mV_X12_oddsFrom ⟨_, rfl, rfl⟩ hk (c_X12_oddsFrom _ _ _ _ _ _ _ _ e1) rfl rfl (Nat.le_of_ble_eq_true rfl) (by decide) (by decide) ?_
        exact q_iret C dX12_odds_60 rfl (by decide) (by decide) (Option.some.inj h)
noncomputable def F_X12_valueOf (l0 : Nat) (l1 : Int32) (l2 : Int32) (M : q_Mem) : Option (Int32) := (if l1 = 0 then (q_gR M l0 12 32 (fun c1 => q_nn c1 (fun r2 => (q_lI M 0 r2 (((4 : Int32) * l2) + (2 : Int32)) (fun v3 => some v3))))) else (if l1 = (1 : Int32) then (q_gR M l0 12 32 (fun c4 => q_nn c4 (fun r5 => (q_lI M 0 r5 (((4 : Int32) * l2) + (0 : Int32)) (fun v6 => some v6))))) else (q_ob M l0 12 ((F_X12_pays l0 l2 M).bind (fun u7 => some u7)))))
set_option maxRecDepth 100000 in
set_option maxHeartbeats 4000000 in
theorem c_X12_valueOf (l : Launch) (G : q_G) (l0 : Nat) (l1 : Int32) (l2 : Int32) (M : q_Mem) {r : Int32} (h : F_X12_valueOf l0 l1 l2 M = some r) : q_Met l G yX12_valueOf cX12_valueOf 3 (Option.some Jvm.ClassFile.FieldType.int) 2 0 0 [.ref l0, .int l1, .int l2] M (some (.int r)) M := by
  unfold F_X12_valueOf at h
  refine q_enter [some (.ref l0), some (.int l1), some (.int l2)] (by decide) (Nat.le_of_ble_eq_true rfl) rfl (fun K C => ?_)
  refine q_iload_n C dX12_valueOf_0 rfl ?_
  refine q_if_ne (tgt := 17) C dX12_valueOf_1 (by decide) h (fun _ h => ?_) (fun _ h => ?_)
  · refine q_aload_n C dX12_valueOf_4 rfl ?_
    refine x_getR (ci := 12) (j := 32) C dX12_valueOf_5 lkF_X12_61 rfl h (fun c1 h => ?_)
    refine x_nn h (fun r2 h => ?_)
    refine x_iconst (v := (4 : Int32)) C dX12_valueOf_8 (by decide) ?_
    refine q_iload_n C dX12_valueOf_9 rfl ?_
    refine q_imul C dX12_valueOf_10 ?_
    refine x_iconst (v := (2 : Int32)) C dX12_valueOf_11 (by decide) ?_
    refine q_iadd C dX12_valueOf_12 ?_
    refine x_iald C dX12_valueOf_13 h (fun v3 h => ?_)
    refine q_goto (tgt := 40) C dX12_valueOf_14 (by decide) ?_
    exact q_iret (res := (r, M)) C dX12_valueOf_40 rfl (by decide) (by decide) (congrArg (fun z => (z, M)) (Option.some.inj h))
  · refine q_iload_n C dX12_valueOf_17 rfl ?_
    refine x_iconst (v := (1 : Int32)) C dX12_valueOf_18 (by decide) ?_
    refine q_icmp_ne (tgt := 35) C dX12_valueOf_19 (by decide) h (fun _ h => ?_) (fun _ h => ?_)
    · refine q_aload_n C dX12_valueOf_22 rfl ?_
      refine x_getR (ci := 12) (j := 32) C dX12_valueOf_23 lkF_X12_61 rfl h (fun c4 h => ?_)
      refine x_nn h (fun r5 h => ?_)
      refine x_iconst (v := (4 : Int32)) C dX12_valueOf_26 (by decide) ?_
      refine q_iload_n C dX12_valueOf_27 rfl ?_
      refine q_imul C dX12_valueOf_28 ?_
      refine x_iconst (v := (0 : Int32)) C dX12_valueOf_29 (by decide) ?_
      refine q_iadd C dX12_valueOf_30 ?_
      refine x_iald C dX12_valueOf_31 h (fun v6 h => ?_)
      refine q_goto (tgt := 40) C dX12_valueOf_32 (by decide) ?_
      exact q_iret (res := (r, M)) C dX12_valueOf_40 rfl (by decide) (by decide) (congrArg (fun z => (z, M)) (Option.some.inj h))
    · refine q_aload_n C dX12_valueOf_35 rfl ?_
      refine q_iload_n C dX12_valueOf_36 rfl ?_
      obtain ⟨hk, h⟩ := q_obE h
      obtain ⟨u7, e1, h⟩ := q_bind h
      refine x_callV0 C dX12_valueOf_37 lkM_X12_306 mV_X12_pays ⟨_, rfl, rfl⟩ hk (c_X12_pays _ _ _ _ _ e1) rfl rfl (Nat.le_of_ble_eq_true rfl) (by decide) (by decide) ?_
      exact q_iret (res := (r, M)) C dX12_valueOf_40 rfl (by decide) (by decide) (congrArg (fun z => (z, M)) (Option.some.inj h))
noncomputable def J_X12_greatest_32_4 (l0 : Nat) (l1 : Int32) (l3 : Int32) (s0 : Int32) (M : q_Mem) : Option ((Int32 × Int32) ⊕ (Int32)) := some (.inl (s0, (l3 + (1 : Int32))))
set_option maxRecDepth 100000 in
set_option maxHeartbeats 4000000 in
theorem jW_X12_greatest_32_4 {K : q_K} {Q : State → Prop} (C : q_C K yX12_greatest cX12_greatest 4 (Option.some Jvm.ClassFile.FieldType.int) 3 0 0) (l0 : Nat) (l1 : Int32) (l3 : Int32) (s0 : Int32) (M : q_Mem) {stp : (Int32 × Int32) ⊕ (Int32)} (h : J_X12_greatest_32_4 l0 l1 l3 s0 M = some stp) (kC : ∀ (l2 : Int32) (l3 : Int32), stp = .inl (l2, l3) → q_W K 4 Q 0 0 M 4 [some (.ref l0), some (.int l1), some (.int l2), some (.int l3)] []) (kE0 : ∀ (l2 : Int32), stp = .inr l2 → q_W K 4 Q 0 0 M 39 [none, none, some (.int l2), none] []) : q_W K 4 Q 0 0 M 32 [some (.ref l0), some (.int l1), none, some (.int l3)] [.int s0] := by
  unfold J_X12_greatest_32_4 at h
  refine q_istore_n (L' := [some (.ref l0), some (.int l1), some (.int s0), some (.int l3)]) C dX12_greatest_32 (by decide) rfl rfl ?_
  refine x_iinc (w := (1 : Int32)) (L' := [some (.ref l0), some (.int l1), some (.int s0), some (.int (l3 + (1 : Int32)))]) C dX12_greatest_33 rfl (by decide) (by decide) rfl rfl ?_
  refine q_goto (tgt := 4) C dX12_greatest_36 (by decide) ?_
  exact q_msk [true, true, true, true] (kC _ _ (Option.some.inj h).symm)
noncomputable def B_X12_greatest_4 (l0 : Nat) (l1 : Int32) (l2 : Int32) (l3 : Int32) (M : q_Mem) : Option ((Int32 × Int32) ⊕ (Int32)) := (q_gI M l0 12 27 (fun v1 => (if l3 < v1 then (q_ob M l0 12 ((F_X12_valueOf l0 l1 l3 M).bind (fun u2 => (q_ob M l0 12 ((F_X12_valueOf l0 l1 l2 M).bind (fun u3 => (if u3 < u2 then J_X12_greatest_32_4 l0 l1 l3 l3 M else J_X12_greatest_32_4 l0 l1 l3 l2 M))))))) else some (.inr l2))))
set_option maxRecDepth 100000 in
set_option maxHeartbeats 4000000 in
theorem bW_X12_greatest_4 {K : q_K} {Q : State → Prop} (C : q_C K yX12_greatest cX12_greatest 4 (Option.some Jvm.ClassFile.FieldType.int) 3 0 0) (l0 : Nat) (l1 : Int32) (l2 : Int32) (l3 : Int32) (M : q_Mem) {stp : (Int32 × Int32) ⊕ (Int32)} (h : B_X12_greatest_4 l0 l1 l2 l3 M = some stp) (kC : ∀ (l2 : Int32) (l3 : Int32), stp = .inl (l2, l3) → q_W K 4 Q 0 0 M 4 [some (.ref l0), some (.int l1), some (.int l2), some (.int l3)] []) (kE0 : ∀ (l2 : Int32), stp = .inr l2 → q_W K 4 Q 0 0 M 39 [none, none, some (.int l2), none] []) : q_W K 4 Q 0 0 M 4 [some (.ref l0), some (.int l1), some (.int l2), some (.int l3)] [] := by
  unfold B_X12_greatest_4 at h
  refine q_iload_n C dX12_greatest_4 rfl ?_
  refine q_aload_n C dX12_greatest_5 rfl ?_
  refine x_getI (ci := 12) (j := 27) C dX12_greatest_6 lkF_X12_287 rfl h (fun v1 h => ?_)
  refine q_icmp_ge (tgt := 39) C dX12_greatest_9 (by decide) h (fun _ h => ?_) (fun _ h => ?_)
  · refine q_aload_n C dX12_greatest_12 rfl ?_
    refine q_iload_n C dX12_greatest_13 rfl ?_
    refine q_iload_n C dX12_greatest_14 rfl ?_
    obtain ⟨hk, h⟩ := q_obE h
    obtain ⟨u2, e1, h⟩ := q_bind h
    refine x_callV0 C dX12_greatest_15 lkM_X12_456 mV_X12_valueOf ⟨_, rfl, rfl⟩ hk (c_X12_valueOf _ _ _ _ _ _ e1) rfl rfl (Nat.le_of_ble_eq_true rfl) (by decide) (by decide) ?_
    refine q_aload_n C dX12_greatest_18 rfl ?_
    refine q_iload_n C dX12_greatest_19 rfl ?_
    refine q_iload_n C dX12_greatest_20 rfl ?_
    obtain ⟨hk, h⟩ := q_obE h
    obtain ⟨u3, e1, h⟩ := q_bind h
    refine x_callV0 C dX12_greatest_21 lkM_X12_456 mV_X12_valueOf ⟨_, rfl, rfl⟩ hk (c_X12_valueOf _ _ _ _ _ _ e1) rfl rfl (Nat.le_of_ble_eq_true rfl) (by decide) (by decide) ?_
    refine q_icmp_le (tgt := 31) C dX12_greatest_24 (by decide) h (fun _ h => ?_) (fun _ h => ?_)
    · refine q_iload_n C dX12_greatest_27 rfl ?_
      refine q_goto (tgt := 32) C dX12_greatest_28 (by decide) ?_
      exact q_msk [true, true, false, true] (jW_X12_greatest_32_4 C l0 l1 l3 l3 M h kC kE0)
    · refine q_iload_n C dX12_greatest_31 rfl ?_
      exact q_msk [true, true, false, true] (jW_X12_greatest_32_4 C l0 l1 l3 l2 M h kC kE0)
  · exact q_msk [false, false, true, false] (kE0 _ (Option.some.inj h).symm)
set_option maxRecDepth 100000 in
set_option maxHeartbeats 4000000 in
theorem lW_X12_greatest_4 {K : q_K} {Q : State → Prop} (C : q_C K yX12_greatest cX12_greatest 4 (Option.some Jvm.ClassFile.FieldType.int) 3 0 0) (l0 : Nat) (l1 : Int32) (M : q_Mem) (n : Nat) : ∀ (l2 : Int32) (l3 : Int32) (e : (Int32)), q_lp (fun s => B_X12_greatest_4 l0 l1 s.1 s.2 M) n (l2, l3) = some e → (∀ (l2 : Int32), e = l2 → q_W K 4 Q 0 0 M 39 [none, none, some (.int l2), none] []) → q_W K 4 Q 0 0 M 4 [some (.ref l0), some (.int l1), some (.int l2), some (.int l3)] [] := by
  induction n with
  | zero => intro l2 l3 e h; cases h
  | succ n ih =>
    intro l2 l3 e h kE0
    obtain ⟨stp, e1, e2⟩ := q_bind h
    refine bW_X12_greatest_4 C l0 l1 l2 l3 M e1 (fun a0 a1 hs => ?_) (fun b0 hs => ?_)
    · subst hs; exact ih _ _ _ e2 kE0
    · subst hs; exact kE0 _ (Option.some.inj e2).symm
noncomputable def F_X12_greatest (l0 : Nat) (l1 : Int32) (M : q_Mem) : Option (Int32) := (q_lp (fun s => B_X12_greatest_4 l0 l1 s.1 s.2 M) q_fu ((0 : Int32), (1 : Int32))).bind (fun e4 => match e4 with | w5 => some w5)
set_option maxRecDepth 100000 in
set_option maxHeartbeats 4000000 in
theorem c_X12_greatest (l : Launch) (G : q_G) (l0 : Nat) (l1 : Int32) (M : q_Mem) {r : Int32} (h : F_X12_greatest l0 l1 M = some r) : q_Met l G yX12_greatest cX12_greatest 4 (Option.some Jvm.ClassFile.FieldType.int) 3 0 0 [.ref l0, .int l1] M (some (.int r)) M := by
  unfold F_X12_greatest at h
  refine q_enter [some (.ref l0), some (.int l1), none, none] (by decide) (Nat.le_of_ble_eq_true rfl) rfl (fun K C => ?_)
  refine x_iconst (v := (0 : Int32)) C dX12_greatest_0 (by decide) ?_
  refine q_istore_n (L' := [some (.ref l0), some (.int l1), some (.int (0 : Int32)), none]) C dX12_greatest_1 (by decide) rfl rfl ?_
  refine x_iconst (v := (1 : Int32)) C dX12_greatest_2 (by decide) ?_
  refine q_istore_n (L' := [some (.ref l0), some (.int l1), some (.int (0 : Int32)), some (.int (1 : Int32))]) C dX12_greatest_3 (by decide) rfl rfl ?_
  obtain ⟨e4, he, h⟩ := q_bind h
  refine q_msk [true, true, true, true] (lW_X12_greatest_4 C l0 l1 M q_fu _ _ _ he (fun w5 hs => ?_))
  · have hs := hs.symm
    subst hs
    refine q_iload_n C dX12_greatest_39 rfl ?_
    exact q_iret (res := (r, M)) C dX12_greatest_40 rfl (by decide) (by decide) (congrArg (fun z => (z, M)) (Option.some.inj h))
