noncomputable def J_X12_readClause_52 (l0 : Nat) (l1 : Int32) (s0 : Int32) (M : q_Mem) : Option (Unit × q_Mem) := (if s0 = 0 then (q_ob M l0 12 ((F_X12_fails l0 M).bind (fun x => match x with | (u4, M5) => some ((), M5)))) else (q_gI M l0 12 10 (fun v6 => (q_pI M l0 12 10 (v6 + (1 : Int32)) (fun M7 => (if l1 = (115 : Int32) then (q_pZ M7 l0 12 31 (1 : Int32) (fun M8 => (q_gR M8 l0 12 19 (fun c9 => q_nn c9 (fun r10 => (q_ob M8 l0 12 ((F_X12_readItems l0 l1 r10 (0 : Int32) 22 M8).bind (fun x => match x with | (_, M12) => some ((), M12))))))))) else (if l1 = (100 : Int32) then (q_gI M7 l0 12 28 (fun v13 => (q_pI M7 l0 12 28 (v13 + (1 : Int32)) (fun M14 => (q_gR M14 l0 12 21 (fun c15 => q_nn c15 (fun r16 => (q_gI M14 l0 12 28 (fun v17 => (q_ob M14 l0 12 ((F_X12_readItems l0 l1 r16 ((3 : Int32) * (v17 - (1 : Int32))) 24 M14).bind (fun x => match x with | (_, M19) => some ((), M19))))))))))))) else (q_gI M7 l0 12 29 (fun v20 => (q_pI M7 l0 12 29 (v20 + (1 : Int32)) (fun M21 => (q_gR M21 l0 12 23 (fun c22 => q_nn c22 (fun r23 => (q_gI M21 l0 12 29 (fun v24 => (q_ob M21 l0 12 ((F_X12_readItems l0 l1 r23 ((4 : Int32) * (v24 - (1 : Int32))) 26 M21).bind (fun x => match x with | (_, M26) => some ((), M26))))))))))))))))))))
set_option maxRecDepth 100000 in
set_option maxHeartbeats 4000000 in
theorem jW_X12_readClause_52 {K : q_K} (C : q_C K yX12_readClause cX12_readClause 3 (Option.none : Option Jvm.ClassFile.FieldType) 9 6 0) (l0 : Nat) (l1 : Int32) (s0 : Int32) (M : q_Mem) {r : Unit} {M' : q_Mem} (h : J_X12_readClause_52 l0 l1 s0 M = some (r, M')) : q_W K 3 (q_Q K none M' 6 0) 0 0 M 52 [some (.ref l0), some (.int l1), none] [.int s0] := by
  unfold J_X12_readClause_52 at h
  refine q_istore_n (L' := [some (.ref l0), some (.int l1), some (.int s0)]) C dX12_readClause_52 (by decide) rfl rfl ?_
  refine q_iload_n C dX12_readClause_53 rfl ?_
  refine q_if_ne (tgt := 63) C dX12_readClause_54 (by decide) h (fun _ h => ?_) (fun _ h => ?_)
  · refine q_aload_n C dX12_readClause_57 rfl ?_
    obtain ⟨hk, h⟩ := q_obE h
    obtain ⟨⟨u4, M5⟩, e1, h⟩ := q_bind h
    refine x_callV0 C dX12_readClause_58 lkM_X12_130 mV_X12_fails ⟨_, rfl, rfl⟩ hk (c_X12_fails _ _ _ _ e1) rfl rfl (Nat.le_of_ble_eq_true rfl) (by decide) (by decide) ?_
    refine q_pop C dX12_readClause_61 rfl ?_
    exact q_vret C dX12_readClause_62 rfl (by decide) (by decide) (Option.some.inj h)
  · refine q_aload_n C dX12_readClause_63 rfl ?_
    refine q_dup C dX12_readClause_64 rfl ?_
    refine x_getI (ci := 12) (j := 10) C dX12_readClause_65 lkF_X12_115 rfl h (fun v6 h => ?_)
    refine x_iconst (v := (1 : Int32)) C dX12_readClause_68 (by decide) ?_
    refine q_iadd C dX12_readClause_69 ?_
    refine x_putI (ci := 12) (j := 10) C dX12_readClause_70 lkF_X12_115 (fun r hr => by cases hr; rfl) rfl h (fun M7 h => ?_)
    refine q_iload_n C dX12_readClause_73 rfl ?_
    refine x_bipush (v := (115 : Int32)) C dX12_readClause_74 (by decide) ?_
    refine q_icmp_ne (tgt := 99) C dX12_readClause_76 (by decide) h (fun _ h => ?_) (fun _ h => ?_)
    · refine q_aload_n C dX12_readClause_79 rfl ?_
      refine x_iconst (v := (1 : Int32)) C dX12_readClause_80 (by decide) ?_
      refine x_putZ (ci := 12) (j := 31) C dX12_readClause_81 lkF_X12_235 (fun r hr => by cases hr; rfl) rfl h (fun M8 h => ?_)
      refine q_aload_n C dX12_readClause_84 rfl ?_
      refine q_iload_n C dX12_readClause_85 rfl ?_
      refine q_aload_n C dX12_readClause_86 rfl ?_
      refine x_getR (ci := 12) (j := 19) C dX12_readClause_87 lkF_X12_40 rfl h (fun c9 h => ?_)
      refine x_nn h (fun r10 h => ?_)
      refine x_iconst (v := (0 : Int32)) C dX12_readClause_90 (by decide) ?_
      refine q_ldcS (i := 9) C dX12_readClause_91 rfl ?_
      obtain ⟨hk, h⟩ := q_obE h
      obtain ⟨⟨_, M12⟩, e1, h⟩ := q_bind h
      refine x_callVv C dX12_readClause_93 lkM_X12_246 mV_X12_readItems ⟨_, rfl, rfl⟩ hk (c_X12_readItems _ _ _ _ _ _ _ _ e1) rfl rfl (Nat.le_of_ble_eq_true rfl) (by decide) (by decide) ?_
      refine q_goto (tgt := 166) C dX12_readClause_96 (by decide) ?_
      exact q_vret C dX12_readClause_166 rfl (by decide) (by decide) (Option.some.inj h)
    · refine q_iload_n C dX12_readClause_99 rfl ?_
      refine x_bipush (v := (100 : Int32)) C dX12_readClause_100 (by decide) ?_
      refine q_icmp_ne (tgt := 137) C dX12_readClause_102 (by decide) h (fun _ h => ?_) (fun _ h => ?_)
      · refine q_aload_n C dX12_readClause_105 rfl ?_
        refine q_dup C dX12_readClause_106 rfl ?_
        refine x_getI (ci := 12) (j := 28) C dX12_readClause_107 lkF_X12_238 rfl h (fun v13 h => ?_)
        refine x_iconst (v := (1 : Int32)) C dX12_readClause_110 (by decide) ?_
        refine q_iadd C dX12_readClause_111 ?_
        refine x_putI (ci := 12) (j := 28) C dX12_readClause_112 lkF_X12_238 (fun r hr => by cases hr; rfl) rfl h (fun M14 h => ?_)
        refine q_aload_n C dX12_readClause_115 rfl ?_
        refine q_iload_n C dX12_readClause_116 rfl ?_
        refine q_aload_n C dX12_readClause_117 rfl ?_
        refine x_getR (ci := 12) (j := 21) C dX12_readClause_118 lkF_X12_46 rfl h (fun c15 h => ?_)
        refine x_nn h (fun r16 h => ?_)
        refine x_iconst (v := (3 : Int32)) C dX12_readClause_121 (by decide) ?_
        refine q_aload_n C dX12_readClause_122 rfl ?_
        refine x_getI (ci := 12) (j := 28) C dX12_readClause_123 lkF_X12_238 rfl h (fun v17 h => ?_)
        refine x_iconst (v := (1 : Int32)) C dX12_readClause_126 (by decide) ?_
        refine q_isub C dX12_readClause_127 ?_
        refine q_imul C dX12_readClause_128 ?_
        refine q_ldcS (i := 10) C dX12_readClause_129 rfl ?_
        obtain ⟨hk, h⟩ := q_obE h
        obtain ⟨⟨_, M19⟩, e1, h⟩ := q_bind h
        refine x_callVv C dX12_readClause_131 lkM_X12_246 mV_X12_readItems ⟨_, rfl, rfl⟩ hk (c_X12_readItems _ _ _ _ _ _ _ _ e1) rfl rfl (Nat.le_of_ble_eq_true rfl) (by decide) (by decide) ?_
        refine q_goto (tgt := 166) C dX12_readClause_134 (by decide) ?_
        exact q_vret C dX12_readClause_166 rfl (by decide) (by decide) (Option.some.inj h)
      · refine q_aload_n C dX12_readClause_137 rfl ?_
        refine q_dup C dX12_readClause_138 rfl ?_
        refine x_getI (ci := 12) (j := 29) C dX12_readClause_139 lkF_X12_241 rfl h (fun v20 h => ?_)
        refine x_iconst (v := (1 : Int32)) C dX12_readClause_142 (by decide) ?_
        refine q_iadd C dX12_readClause_143 ?_
        refine x_putI (ci := 12) (j := 29) C dX12_readClause_144 lkF_X12_241 (fun r hr => by cases hr; rfl) rfl h (fun M21 h => ?_)
        refine q_aload_n C dX12_readClause_147 rfl ?_
        refine q_iload_n C dX12_readClause_148 rfl ?_
        refine q_aload_n C dX12_readClause_149 rfl ?_
        refine x_getR (ci := 12) (j := 23) C dX12_readClause_150 lkF_X12_52 rfl h (fun c22 h => ?_)
        refine x_nn h (fun r23 h => ?_)
        refine x_iconst (v := (4 : Int32)) C dX12_readClause_153 (by decide) ?_
        refine q_aload_n C dX12_readClause_154 rfl ?_
        refine x_getI (ci := 12) (j := 29) C dX12_readClause_155 lkF_X12_241 rfl h (fun v24 h => ?_)
        refine x_iconst (v := (1 : Int32)) C dX12_readClause_158 (by decide) ?_
        refine q_isub C dX12_readClause_159 ?_
        refine q_imul C dX12_readClause_160 ?_
        refine q_ldcS (i := 11) C dX12_readClause_161 rfl ?_
        obtain ⟨hk, h⟩ := q_obE h
        obtain ⟨⟨_, M26⟩, e1, h⟩ := q_bind h
        refine x_callVv C dX12_readClause_163 lkM_X12_246 mV_X12_readItems ⟨_, rfl, rfl⟩ hk (c_X12_readItems _ _ _ _ _ _ _ _ e1) rfl rfl (Nat.le_of_ble_eq_true rfl) (by decide) (by decide) ?_
        exact q_vret C dX12_readClause_166 rfl (by decide) (by decide) (Option.some.inj h)
noncomputable def J_X12_readClause_47 (l0 : Nat) (l1 : Int32) (M : q_Mem) : Option (Unit × q_Mem) := J_X12_readClause_52 l0 l1 (1 : Int32) M
set_option maxRecDepth 100000 in
set_option maxHeartbeats 4000000 in
theorem jW_X12_readClause_47 {K : q_K} (C : q_C K yX12_readClause cX12_readClause 3 (Option.none : Option Jvm.ClassFile.FieldType) 9 6 0) (l0 : Nat) (l1 : Int32) (M : q_Mem) {r : Unit} {M' : q_Mem} (h : J_X12_readClause_47 l0 l1 M = some (r, M')) : q_W K 3 (q_Q K none M' 6 0) 0 0 M 47 [some (.ref l0), some (.int l1), none] [] := by
  unfold J_X12_readClause_47 at h
  refine x_iconst (v := (1 : Int32)) C dX12_readClause_47 (by decide) ?_
  refine q_goto (tgt := 52) C dX12_readClause_48 (by decide) ?_
  exact q_msk [true, true, false] (jW_X12_readClause_52 C l0 l1 (1 : Int32) M h)
noncomputable def J_X12_readClause_51 (l0 : Nat) (l1 : Int32) (M : q_Mem) : Option (Unit × q_Mem) := J_X12_readClause_52 l0 l1 (0 : Int32) M
set_option maxRecDepth 100000 in
set_option maxHeartbeats 4000000 in
theorem jW_X12_readClause_51 {K : q_K} (C : q_C K yX12_readClause cX12_readClause 3 (Option.none : Option Jvm.ClassFile.FieldType) 9 6 0) (l0 : Nat) (l1 : Int32) (M : q_Mem) {r : Unit} {M' : q_Mem} (h : J_X12_readClause_51 l0 l1 M = some (r, M')) : q_W K 3 (q_Q K none M' 6 0) 0 0 M 51 [some (.ref l0), some (.int l1), none] [] := by
  unfold J_X12_readClause_51 at h
  refine x_iconst (v := (0 : Int32)) C dX12_readClause_51 (by decide) ?_
  exact q_msk [true, true, false] (jW_X12_readClause_52 C l0 l1 (0 : Int32) M h)
noncomputable def J_X12_readClause_32 (l0 : Nat) (l1 : Int32) (M : q_Mem) : Option (Unit × q_Mem) := (if l1 = (103 : Int32) then (q_gI M l0 12 29 (fun v28 => (if v28 < (6 : Int32) then J_X12_readClause_47 l0 l1 M else J_X12_readClause_51 l0 l1 M))) else J_X12_readClause_51 l0 l1 M)
set_option maxRecDepth 100000 in
set_option maxHeartbeats 4000000 in
theorem jW_X12_readClause_32 {K : q_K} (C : q_C K yX12_readClause cX12_readClause 3 (Option.none : Option Jvm.ClassFile.FieldType) 9 6 0) (l0 : Nat) (l1 : Int32) (M : q_Mem) {r : Unit} {M' : q_Mem} (h : J_X12_readClause_32 l0 l1 M = some (r, M')) : q_W K 3 (q_Q K none M' 6 0) 0 0 M 32 [some (.ref l0), some (.int l1), none] [] := by
  unfold J_X12_readClause_32 at h
  refine q_iload_n C dX12_readClause_32 rfl ?_
  refine x_bipush (v := (103 : Int32)) C dX12_readClause_33 (by decide) ?_
  refine q_icmp_ne (tgt := 51) C dX12_readClause_35 (by decide) h (fun _ h => ?_) (fun _ h => ?_)
  · refine q_aload_n C dX12_readClause_38 rfl ?_
    refine x_getI (ci := 12) (j := 29) C dX12_readClause_39 lkF_X12_241 rfl h (fun v28 h => ?_)
    refine x_bipush (v := (6 : Int32)) C dX12_readClause_42 (by decide) ?_
    refine q_icmp_ge (tgt := 51) C dX12_readClause_44 (by decide) h (fun _ h => ?_) (fun _ h => ?_)
    · exact q_msk [true, true, false] (jW_X12_readClause_47 C l0 l1 M h)
    · exact q_msk [true, true, false] (jW_X12_readClause_51 C l0 l1 M h)
  · exact q_msk [true, true, false] (jW_X12_readClause_51 C l0 l1 M h)
noncomputable def J_X12_readClause_18 (l0 : Nat) (l1 : Int32) (M : q_Mem) : Option (Unit × q_Mem) := (if l1 = (100 : Int32) then (q_gI M l0 12 28 (fun v27 => (if v27 < (5 : Int32) then J_X12_readClause_47 l0 l1 M else J_X12_readClause_32 l0 l1 M))) else J_X12_readClause_32 l0 l1 M)
set_option maxRecDepth 100000 in
set_option maxHeartbeats 4000000 in
theorem jW_X12_readClause_18 {K : q_K} (C : q_C K yX12_readClause cX12_readClause 3 (Option.none : Option Jvm.ClassFile.FieldType) 9 6 0) (l0 : Nat) (l1 : Int32) (M : q_Mem) {r : Unit} {M' : q_Mem} (h : J_X12_readClause_18 l0 l1 M = some (r, M')) : q_W K 3 (q_Q K none M' 6 0) 0 0 M 18 [some (.ref l0), some (.int l1), none] [] := by
  unfold J_X12_readClause_18 at h
  refine q_iload_n C dX12_readClause_18 rfl ?_
  refine x_bipush (v := (100 : Int32)) C dX12_readClause_19 (by decide) ?_
  refine q_icmp_ne (tgt := 32) C dX12_readClause_21 (by decide) h (fun _ h => ?_) (fun _ h => ?_)
  · refine q_aload_n C dX12_readClause_24 rfl ?_
    refine x_getI (ci := 12) (j := 28) C dX12_readClause_25 lkF_X12_238 rfl h (fun v27 h => ?_)
    refine x_iconst (v := (5 : Int32)) C dX12_readClause_28 (by decide) ?_
    refine q_icmp_lt (tgt := 47) C dX12_readClause_29 (by decide) h (fun _ h => ?_) (fun _ h => ?_)
    · exact q_msk [true, true, false] (jW_X12_readClause_47 C l0 l1 M h)
    · exact q_msk [true, true, false] (jW_X12_readClause_32 C l0 l1 M h)
  · exact q_msk [true, true, false] (jW_X12_readClause_32 C l0 l1 M h)
noncomputable def F_X12_readClause (l0 : Nat) (M : q_Mem) : Option (Unit × q_Mem) := (q_ob M l0 12 ((F_X12_look l0 M).bind (fun x => match x with | (u1, M2) => (if u1 = (115 : Int32) then (q_gI M2 l0 12 31 (fun v3 => (if v3 = 0 then J_X12_readClause_47 l0 u1 M2 else J_X12_readClause_18 l0 u1 M2))) else J_X12_readClause_18 l0 u1 M2))))
set_option maxRecDepth 100000 in
set_option maxHeartbeats 4000000 in
theorem c_X12_readClause (l : Launch) (G : q_G) (l0 : Nat) (M : q_Mem) {r : Unit} {M' : q_Mem} (h : F_X12_readClause l0 M = some (r, M')) : q_Met l G yX12_readClause cX12_readClause 3 (Option.none : Option Jvm.ClassFile.FieldType) 9 6 0 [.ref l0] M none M' := by
  unfold F_X12_readClause at h
  refine q_enter [some (.ref l0), none, none] (by decide) (Nat.le_of_ble_eq_true rfl) rfl (fun K C => ?_)
  refine q_aload_n C dX12_readClause_0 rfl ?_
  obtain ⟨hk, h⟩ := q_obE h
  obtain ⟨⟨u1, M2⟩, e1, h⟩ := q_bind h
  refine x_callV0 C dX12_readClause_1 lkM_X12_134 mV_X12_look ⟨_, rfl, rfl⟩ hk (c_X12_look _ _ _ _ e1) rfl rfl (Nat.le_of_ble_eq_true rfl) (by decide) (by decide) ?_
  refine q_istore_n (L' := [some (.ref l0), some (.int u1), none]) C dX12_readClause_4 (by decide) rfl rfl ?_
  refine q_iload_n C dX12_readClause_5 rfl ?_
  refine x_bipush (v := (115 : Int32)) C dX12_readClause_6 (by decide) ?_
  refine q_icmp_ne (tgt := 18) C dX12_readClause_8 (by decide) h (fun _ h => ?_) (fun _ h => ?_)
  · refine q_aload_n C dX12_readClause_11 rfl ?_
    refine x_getI (ci := 12) (j := 31) C dX12_readClause_12 lkF_X12_235 rfl h (fun v3 h => ?_)
    refine q_if_eq (tgt := 47) C dX12_readClause_15 (by decide) h (fun _ h => ?_) (fun _ h => ?_)
    · exact q_msk [true, true, false] (jW_X12_readClause_47 C l0 u1 M2 h)
    · exact q_msk [true, true, false] (jW_X12_readClause_18 C l0 u1 M2 h)
  · exact q_msk [true, true, false] (jW_X12_readClause_18 C l0 u1 M2 h)
noncomputable def B_X12_readHouse_30 (l0 : Nat) (l1 : Int32) (M : q_Mem) : Option ((Int32 × q_Mem) ⊕ (q_Mem)) := (if l1 < (3 : Int32) then (q_gR M l0 12 19 (fun c9 => q_nn c9 (fun r10 => ((F_X12_usual (115 : Int32) l1 M).bind (fun u11 => (q_tI M r10 l1 u11 (fun M12 => some (.inl ((l1 + (1 : Int32)), M12))))))))) else some (.inr M))
set_option maxRecDepth 100000 in
set_option maxHeartbeats 4000000 in
theorem bW_X12_readHouse_30 {K : q_K} {Q : State → Prop} (C : q_C K yX12_readHouse cX12_readHouse 2 (Option.none : Option Jvm.ClassFile.FieldType) 10 6 0) (l0 : Nat) (l1 : Int32) (M : q_Mem) {stp : (Int32 × q_Mem) ⊕ (q_Mem)} (h : B_X12_readHouse_30 l0 l1 M = some stp) (kC : ∀ (l1 : Int32) (M : q_Mem), stp = .inl (l1, M) → q_W K 2 Q 0 0 M 30 [some (.ref l0), some (.int l1)] []) (kE0 : ∀ (M : q_Mem), stp = .inr M → q_W K 2 Q 0 0 M 53 [some (.ref l0), none] []) : q_W K 2 Q 0 0 M 30 [some (.ref l0), some (.int l1)] [] := by
  unfold B_X12_readHouse_30 at h
  refine q_iload_n C dX12_readHouse_30 rfl ?_
  refine x_iconst (v := (3 : Int32)) C dX12_readHouse_31 (by decide) ?_
  refine q_icmp_ge (tgt := 53) C dX12_readHouse_32 (by decide) h (fun _ h => ?_) (fun _ h => ?_)
  · refine q_aload_n C dX12_readHouse_35 rfl ?_
    refine x_getR (ci := 12) (j := 19) C dX12_readHouse_36 lkF_X12_40 rfl h (fun c9 h => ?_)
    refine x_nn h (fun r10 h => ?_)
    refine q_iload_n C dX12_readHouse_39 rfl ?_
    refine x_bipush (v := (115 : Int32)) C dX12_readHouse_40 (by decide) ?_
    refine q_iload_n C dX12_readHouse_42 rfl ?_
    obtain ⟨u11, e1, h⟩ := q_bind h
    refine x_callS0 C dX12_readHouse_43 lkM_X12_217 mS_X12_usual (c_X12_usual _ _ _ _ _ e1) rfl rfl (Nat.le_of_ble_eq_true rfl) (by decide) (by decide) ?_
    refine x_iast C dX12_readHouse_46 h (fun M12 h => ?_)
    refine x_iinc (w := (1 : Int32)) (L' := [some (.ref l0), some (.int (l1 + (1 : Int32)))]) C dX12_readHouse_47 rfl (by decide) (by decide) rfl rfl ?_
    refine q_goto (tgt := 30) C dX12_readHouse_50 (by decide) ?_
    exact q_msk [true, true] (kC _ _ (Option.some.inj h).symm)
  · exact q_msk [true, false] (kE0 _ (Option.some.inj h).symm)
set_option maxRecDepth 100000 in
set_option maxHeartbeats 4000000 in
theorem lW_X12_readHouse_30 {K : q_K} {Q : State → Prop} (C : q_C K yX12_readHouse cX12_readHouse 2 (Option.none : Option Jvm.ClassFile.FieldType) 10 6 0) (l0 : Nat) (n : Nat) : ∀ (l1 : Int32) (M : q_Mem) (e : (q_Mem)), q_lp (fun s => B_X12_readHouse_30 l0 s.1 s.2) n (l1, M) = some e → (∀ (M : q_Mem), e = M → q_W K 2 Q 0 0 M 53 [some (.ref l0), none] []) → q_W K 2 Q 0 0 M 30 [some (.ref l0), some (.int l1)] [] := by
  induction n with
  | zero => intro l1 M e h; cases h
  | succ n ih =>
    intro l1 M e h kE0
    obtain ⟨stp, e1, e2⟩ := q_bind h
    refine bW_X12_readHouse_30 C l0 l1 M e1 (fun a0 a1 hs => ?_) (fun b0 hs => ?_)
    · subst hs; exact ih _ _ _ e2 kE0
    · subst hs; exact kE0 _ (Option.some.inj e2).symm
noncomputable def J_X12_readHouse_93_55 (l0 : Nat) (s0 : Int32) (M : q_Mem) : Option ((Int32 × q_Mem) ⊕ (q_Mem)) := (if s0 = 0 then some (.inl (s0, M)) else (q_gI M l0 12 10 (fun v21 => (q_pI M l0 12 10 (v21 + (1 : Int32)) (fun M22 => some (.inl (s0, M22)))))))
set_option maxRecDepth 100000 in
set_option maxHeartbeats 4000000 in
theorem jW_X12_readHouse_93_55 {K : q_K} {Q : State → Prop} (C : q_C K yX12_readHouse cX12_readHouse 2 (Option.none : Option Jvm.ClassFile.FieldType) 10 6 0) (l0 : Nat) (s0 : Int32) (M : q_Mem) {stp : (Int32 × q_Mem) ⊕ (q_Mem)} (h : J_X12_readHouse_93_55 l0 s0 M = some stp) (kC : ∀ (l1 : Int32) (M : q_Mem), stp = .inl (l1, M) → q_W K 2 Q 0 0 M 55 [some (.ref l0), some (.int l1)] []) (kE0 : ∀ (M : q_Mem), stp = .inr M → q_W K 2 Q 0 0 M 111 [some (.ref l0), none] []) : q_W K 2 Q 0 0 M 93 [some (.ref l0), none] [.int s0] := by
  unfold J_X12_readHouse_93_55 at h
  refine q_istore_n (L' := [some (.ref l0), some (.int s0)]) C dX12_readHouse_93 (by decide) rfl rfl ?_
  refine q_iload_n C dX12_readHouse_94 rfl ?_
  refine q_if_eq (tgt := 55) C dX12_readHouse_95 (by decide) h (fun _ h => ?_) (fun _ h => ?_)
  · exact q_msk [true, true] (kC _ _ (Option.some.inj h).symm)
  · refine q_aload_n C dX12_readHouse_98 rfl ?_
    refine q_dup C dX12_readHouse_99 rfl ?_
    refine x_getI (ci := 12) (j := 10) C dX12_readHouse_100 lkF_X12_115 rfl h (fun v21 h => ?_)
    refine x_iconst (v := (1 : Int32)) C dX12_readHouse_103 (by decide) ?_
    refine q_iadd C dX12_readHouse_104 ?_
    refine x_putI (ci := 12) (j := 10) C dX12_readHouse_105 lkF_X12_115 (fun r hr => by cases hr; rfl) rfl h (fun M22 h => ?_)
    refine q_goto (tgt := 55) C dX12_readHouse_108 (by decide) ?_
    exact q_msk [true, true] (kC _ _ (Option.some.inj h).symm)
noncomputable def J_X12_readHouse_92_55 (l0 : Nat) (M : q_Mem) : Option ((Int32 × q_Mem) ⊕ (q_Mem)) := J_X12_readHouse_93_55 l0 (0 : Int32) M
set_option maxRecDepth 100000 in
set_option maxHeartbeats 4000000 in
theorem jW_X12_readHouse_92_55 {K : q_K} {Q : State → Prop} (C : q_C K yX12_readHouse cX12_readHouse 2 (Option.none : Option Jvm.ClassFile.FieldType) 10 6 0) (l0 : Nat) (M : q_Mem) {stp : (Int32 × q_Mem) ⊕ (q_Mem)} (h : J_X12_readHouse_92_55 l0 M = some stp) (kC : ∀ (l1 : Int32) (M : q_Mem), stp = .inl (l1, M) → q_W K 2 Q 0 0 M 55 [some (.ref l0), some (.int l1)] []) (kE0 : ∀ (M : q_Mem), stp = .inr M → q_W K 2 Q 0 0 M 111 [some (.ref l0), none] []) : q_W K 2 Q 0 0 M 92 [some (.ref l0), none] [] := by
  unfold J_X12_readHouse_92_55 at h
  refine x_iconst (v := (0 : Int32)) C dX12_readHouse_92 (by decide) ?_
  exact q_msk [true, false] (jW_X12_readHouse_93_55 C l0 (0 : Int32) M h kC kE0)
noncomputable def B_X12_readHouse_55 (l0 : Nat) (l1 : Int32) (M : q_Mem) : Option ((Int32 × q_Mem) ⊕ (q_Mem)) := (if l1 = 0 then some (.inr M) else (q_gI M l0 12 11 (fun v15 => (if v15 = (-1 : Int32) then (q_ob M l0 12 ((F_X12_readClause l0 M).bind (fun x => match x with | (_, M17) => (q_gI M17 l0 12 11 (fun v18 => (if v18 = (-1 : Int32) then (q_ob M17 l0 12 ((F_X12_look l0 M17).bind (fun x => match x with | (u19, M20) => (if u19 = (59 : Int32) then J_X12_readHouse_93_55 l0 (1 : Int32) M20 else J_X12_readHouse_92_55 l0 M20)))) else J_X12_readHouse_92_55 l0 M17)))))) else some (.inr M)))))
set_option maxRecDepth 100000 in
set_option maxHeartbeats 4000000 in
theorem bW_X12_readHouse_55 {K : q_K} {Q : State → Prop} (C : q_C K yX12_readHouse cX12_readHouse 2 (Option.none : Option Jvm.ClassFile.FieldType) 10 6 0) (l0 : Nat) (l1 : Int32) (M : q_Mem) {stp : (Int32 × q_Mem) ⊕ (q_Mem)} (h : B_X12_readHouse_55 l0 l1 M = some stp) (kC : ∀ (l1 : Int32) (M : q_Mem), stp = .inl (l1, M) → q_W K 2 Q 0 0 M 55 [some (.ref l0), some (.int l1)] []) (kE0 : ∀ (M : q_Mem), stp = .inr M → q_W K 2 Q 0 0 M 111 [some (.ref l0), none] []) : q_W K 2 Q 0 0 M 55 [some (.ref l0), some (.int l1)] [] := by
  unfold B_X12_readHouse_55 at h
  refine q_iload_n C dX12_readHouse_55 rfl ?_
  refine q_if_eq (tgt := 111) C dX12_readHouse_56 (by decide) h (fun _ h => ?_) (fun _ h => ?_)
  · exact q_msk [true, false] (kE0 _ (Option.some.inj h).symm)
  · refine q_aload_n C dX12_readHouse_59 rfl ?_
    refine x_getI (ci := 12) (j := 11) C dX12_readHouse_60 lkF_X12_124 rfl h (fun v15 h => ?_)
    refine x_iconst (v := (-1 : Int32)) C dX12_readHouse_63 (by decide) ?_
    refine q_icmp_ne (tgt := 111) C dX12_readHouse_64 (by decide) h (fun _ h => ?_) (fun _ h => ?_)
    · refine q_aload_n C dX12_readHouse_67 rfl ?_
      obtain ⟨hk, h⟩ := q_obE h
      obtain ⟨⟨_, M17⟩, e1, h⟩ := q_bind h
      refine x_callVv C dX12_readHouse_68 lkM_X12_254 mV_X12_readClause ⟨_, rfl, rfl⟩ hk (c_X12_readClause _ _ _ _ e1) rfl rfl (Nat.le_of_ble_eq_true rfl) (by decide) (by decide) ?_
      refine q_aload_n C dX12_readHouse_71 rfl ?_
      refine x_getI (ci := 12) (j := 11) C dX12_readHouse_72 lkF_X12_124 rfl h (fun v18 h => ?_)
      refine x_iconst (v := (-1 : Int32)) C dX12_readHouse_75 (by decide) ?_
      refine q_icmp_ne (tgt := 92) C dX12_readHouse_76 (by decide) h (fun _ h => ?_) (fun _ h => ?_)
      · refine q_aload_n C dX12_readHouse_79 rfl ?_
        obtain ⟨hk, h⟩ := q_obE h
        obtain ⟨⟨u19, M20⟩, e1, h⟩ := q_bind h
        refine x_callV0 C dX12_readHouse_80 lkM_X12_134 mV_X12_look ⟨_, rfl, rfl⟩ hk (c_X12_look _ _ _ _ e1) rfl rfl (Nat.le_of_ble_eq_true rfl) (by decide) (by decide) ?_
        refine x_bipush (v := (59 : Int32)) C dX12_readHouse_83 (by decide) ?_
        refine q_icmp_ne (tgt := 92) C dX12_readHouse_85 (by decide) h (fun _ h => ?_) (fun _ h => ?_)
        · refine x_iconst (v := (1 : Int32)) C dX12_readHouse_88 (by decide) ?_
          refine q_goto (tgt := 93) C dX12_readHouse_89 (by decide) ?_
          exact q_msk [true, false] (jW_X12_readHouse_93_55 C l0 (1 : Int32) M20 h kC kE0)
        · exact q_msk [true, false] (jW_X12_readHouse_92_55 C l0 M20 h kC kE0)
      · exact q_msk [true, false] (jW_X12_readHouse_92_55 C l0 M17 h kC kE0)
    · exact q_msk [true, false] (kE0 _ (Option.some.inj h).symm)
set_option maxRecDepth 100000 in
set_option maxHeartbeats 4000000 in
theorem lW_X12_readHouse_55 {K : q_K} {Q : State → Prop} (C : q_C K yX12_readHouse cX12_readHouse 2 (Option.none : Option Jvm.ClassFile.FieldType) 10 6 0) (l0 : Nat) (n : Nat) : ∀ (l1 : Int32) (M : q_Mem) (e : (q_Mem)), q_lp (fun s => B_X12_readHouse_55 l0 s.1 s.2) n (l1, M) = some e → (∀ (M : q_Mem), e = M → q_W K 2 Q 0 0 M 111 [some (.ref l0), none] []) → q_W K 2 Q 0 0 M 55 [some (.ref l0), some (.int l1)] [] := by
  induction n with
  | zero => intro l1 M e h; cases h
  | succ n ih =>
    intro l1 M e h kE0
    obtain ⟨stp, e1, e2⟩ := q_bind h
    refine bW_X12_readHouse_55 C l0 l1 M e1 (fun a0 a1 hs => ?_) (fun b0 hs => ?_)
    · subst hs; exact ih _ _ _ e2 kE0
    · subst hs; exact kE0 _ (Option.some.inj e2).symm
noncomputable def J_X12_readHouse_141 (l0 : Nat) (M : q_Mem) : Option (Unit × q_Mem) := (q_ob M l0 12 ((F_X12_fails l0 M).bind (fun x => match x with | (u29, M30) => some ((), M30))))
set_option maxRecDepth 100000 in
set_option maxHeartbeats 4000000 in
theorem jW_X12_readHouse_141 {K : q_K} (C : q_C K yX12_readHouse cX12_readHouse 2 (Option.none : Option Jvm.ClassFile.FieldType) 10 6 0) (l0 : Nat) (M : q_Mem) {r : Unit} {M' : q_Mem} (h : J_X12_readHouse_141 l0 M = some (r, M')) : q_W K 2 (q_Q K none M' 6 0) 0 0 M 141 [some (.ref l0), none] [] := by
  unfold J_X12_readHouse_141 at h
  refine q_aload_n C dX12_readHouse_141 rfl ?_
  obtain ⟨hk, h⟩ := q_obE h
  obtain ⟨⟨u29, M30⟩, e1, h⟩ := q_bind h
  refine x_callV0 C dX12_readHouse_142 lkM_X12_130 mV_X12_fails ⟨_, rfl, rfl⟩ hk (c_X12_fails _ _ _ _ e1) rfl rfl (Nat.le_of_ble_eq_true rfl) (by decide) (by decide) ?_
  refine q_pop C dX12_readHouse_145 rfl ?_
  exact q_vret C dX12_readHouse_146 rfl (by decide) (by decide) (Option.some.inj h)
noncomputable def F_X12_readHouse (l0 : Nat) (M : q_Mem) : Option (Unit × q_Mem) := (q_gR M l0 12 1 (fun c1 => q_nn c1 (fun r2 => (q_gI M l0 12 6 (fun v3 => (q_ob M l0 12 ((F_X12_starts l0 r2 (0 : Int32) v3 M).bind (fun x => match x with | (_, M5) => (q_pI M5 l0 12 28 (0 : Int32) (fun M6 => (q_pI M6 l0 12 29 (0 : Int32) (fun M7 => (q_pZ M7 l0 12 31 (0 : Int32) (fun M8 => (q_lp (fun s => B_X12_readHouse_30 l0 s.1 s.2) q_fu ((0 : Int32), M8)).bind (fun e13 => match e13 with | M14 => (q_lp (fun s => B_X12_readHouse_55 l0 s.1 s.2) q_fu ((1 : Int32), M14)).bind (fun e23 => match e23 with | M24 => (q_gI M24 l0 12 11 (fun v25 => (if v25 = (-1 : Int32) then (q_ob M24 l0 12 ((F_X12_look l0 M24).bind (fun x => match x with | (u26, M27) => (if u26 = (-1 : Int32) then (q_gI M27 l0 12 28 (fun v28 => (if v28 = 0 then J_X12_readHouse_141 l0 M27 else (q_gI M27 l0 12 29 (fun v31 => (if v31 = 0 then J_X12_readHouse_141 l0 M27 else some ((), M27))))))) else J_X12_readHouse_141 l0 M27)))) else some ((), M24))))))))))))))))))))
set_option maxRecDepth 100000 in
set_option maxHeartbeats 4000000 in
theorem c_X12_readHouse (l : Launch) (G : q_G) (l0 : Nat) (M : q_Mem) {r : Unit} {M' : q_Mem} (h : F_X12_readHouse l0 M = some (r, M')) : q_Met l G yX12_readHouse cX12_readHouse 2 (Option.none : Option Jvm.ClassFile.FieldType) 10 6 0 [.ref l0] M none M' := by
  unfold F_X12_readHouse at h
  refine q_enter [some (.ref l0), none] (by decide) (Nat.le_of_ble_eq_true rfl) rfl (fun K C => ?_)
  refine q_aload_n C dX12_readHouse_0 rfl ?_
  refine q_aload_n C dX12_readHouse_1 rfl ?_
  refine x_getR (ci := 12) (j := 1) C dX12_readHouse_2 lkF_X12_9 rfl h (fun c1 h => ?_)
  refine x_nn h (fun r2 h => ?_)
  refine x_iconst (v := (0 : Int32)) C dX12_readHouse_5 (by decide) ?_
  refine q_aload_n C dX12_readHouse_6 rfl ?_
  refine x_getI (ci := 12) (j := 6) C dX12_readHouse_7 lkF_X12_105 rfl h (fun v3 h => ?_)
  obtain ⟨hk, h⟩ := q_obE h
  obtain ⟨⟨_, M5⟩, e1, h⟩ := q_bind h
  refine x_callVv0 C dX12_readHouse_10 lkM_X12_203 mV_X12_starts ⟨_, rfl, rfl⟩ hk (c_X12_starts _ _ _ _ _ _ _ e1) rfl rfl (Nat.le_of_ble_eq_true rfl) (by decide) (by decide) ?_
  refine q_aload_n C dX12_readHouse_13 rfl ?_
  refine x_iconst (v := (0 : Int32)) C dX12_readHouse_14 (by decide) ?_
  refine x_putI (ci := 12) (j := 28) C dX12_readHouse_15 lkF_X12_238 (fun r hr => by cases hr; rfl) rfl h (fun M6 h => ?_)
  refine q_aload_n C dX12_readHouse_18 rfl ?_
  refine x_iconst (v := (0 : Int32)) C dX12_readHouse_19 (by decide) ?_
  refine x_putI (ci := 12) (j := 29) C dX12_readHouse_20 lkF_X12_241 (fun r hr => by cases hr; rfl) rfl h (fun M7 h => ?_)
  refine q_aload_n C dX12_readHouse_23 rfl ?_
  refine x_iconst (v := (0 : Int32)) C dX12_readHouse_24 (by decide) ?_
  refine x_putZ (ci := 12) (j := 31) C dX12_readHouse_25 lkF_X12_235 (fun r hr => by cases hr; rfl) rfl h (fun M8 h => ?_)
  refine x_iconst (v := (0 : Int32)) C dX12_readHouse_28 (by decide) ?_
  refine q_istore_n (L' := [some (.ref l0), some (.int (0 : Int32))]) C dX12_readHouse_29 (by decide) rfl rfl ?_
  obtain ⟨e13, he, h⟩ := q_bind h
  refine q_msk [true, true] (lW_X12_readHouse_30 C l0 q_fu _ _ _ he (fun M14 hs => ?_))
  · have hs := hs.symm
    subst hs
    refine x_iconst (v := (1 : Int32)) C dX12_readHouse_53 (by decide) ?_
    refine q_istore_n (L' := [some (.ref l0), some (.int (1 : Int32))]) C dX12_readHouse_54 (by decide) rfl rfl ?_
    obtain ⟨e23, he, h⟩ := q_bind h
    refine q_msk [true, true] (lW_X12_readHouse_55 C l0 q_fu _ _ _ he (fun M24 hs => ?_))
    · have hs := hs.symm
      subst hs
      refine q_aload_n C dX12_readHouse_111 rfl ?_
      refine x_getI (ci := 12) (j := 11) C dX12_readHouse_112 lkF_X12_124 rfl h (fun v25 h => ?_)
      refine x_iconst (v := (-1 : Int32)) C dX12_readHouse_115 (by decide) ?_
      refine q_icmp_ne (tgt := 146) C dX12_readHouse_116 (by decide) h (fun _ h => ?_) (fun _ h => ?_)
      · refine q_aload_n C dX12_readHouse_119 rfl ?_
        obtain ⟨hk, h⟩ := q_obE h
        obtain ⟨⟨u26, M27⟩, e1, h⟩ := q_bind h
        refine x_callV0 C dX12_readHouse_120 lkM_X12_134 mV_X12_look ⟨_, rfl, rfl⟩ hk (c_X12_look _ _ _ _ e1) rfl rfl (Nat.le_of_ble_eq_true rfl) (by decide) (by decide) ?_
        refine x_iconst (v := (-1 : Int32)) C dX12_readHouse_123 (by decide) ?_
        refine q_icmp_ne (tgt := 141) C dX12_readHouse_124 (by decide) h (fun _ h => ?_) (fun _ h => ?_)
        · refine q_aload_n C dX12_readHouse_127 rfl ?_
          refine x_getI (ci := 12) (j := 28) C dX12_readHouse_128 lkF_X12_238 rfl h (fun v28 h => ?_)
          refine q_if_eq (tgt := 141) C dX12_readHouse_131 (by decide) h (fun _ h => ?_) (fun _ h => ?_)
          · exact q_msk [true, false] (jW_X12_readHouse_141 C l0 M27 h)
          · refine q_aload_n C dX12_readHouse_134 rfl ?_
            refine x_getI (ci := 12) (j := 29) C dX12_readHouse_135 lkF_X12_241 rfl h (fun v31 h => ?_)
            refine q_if_ne (tgt := 146) C dX12_readHouse_138 (by decide) h (fun _ h => ?_) (fun _ h => ?_)
            · exact q_msk [true, false] (jW_X12_readHouse_141 C l0 M27 h)
            · exact q_vret C dX12_readHouse_146 rfl (by decide) (by decide) (Option.some.inj h)
        · exact q_msk [true, false] (jW_X12_readHouse_141 C l0 M27 h)
      · exact q_vret C dX12_readHouse_146 rfl (by decide) (by decide) (Option.some.inj h)
noncomputable def B_X12_isAmong_2 (l0 : Nat) (l1 : Int32) (l2 : Int32) (M : q_Mem) : Option ((Int32 × q_Mem) ⊕ ((q_Mem) ⊕ (q_Mem))) := (q_ob M l0 14 ((F_J0_length_8abf5 l0 M).bind (fun u1 => (if l2 < u1 then (q_ob M l0 14 ((F_J0_charAt_5068e l0 l2 M).bind (fun x => match x with | (u2, M3) => (if u2 = l1 then some (.inr (.inl M3)) else some (.inl ((l2 + (1 : Int32)), M3)))))) else some (.inr (.inr M))))))
set_option maxRecDepth 100000 in
set_option maxHeartbeats 4000000 in
theorem bW_X12_isAmong_2 {K : q_K} {Q : State → Prop} (C : q_C K yX12_isAmong cX12_isAmong 3 (Option.some Jvm.ClassFile.FieldType.boolean) 7 1 0) (l0 : Nat) (l1 : Int32) (l2 : Int32) (M : q_Mem) {stp : (Int32 × q_Mem) ⊕ ((q_Mem) ⊕ (q_Mem))} (h : B_X12_isAmong_2 l0 l1 l2 M = some stp) (kC : ∀ (l2 : Int32) (M : q_Mem), stp = .inl (l2, M) → q_W K 3 Q 0 0 M 2 [some (.ref l0), some (.int l1), some (.int l2)] []) (kE0 : ∀ (M : q_Mem), stp = .inr (.inl M) → q_W K 3 Q 0 0 M 19 [none, none, none] []) (kE1 : ∀ (M : q_Mem), stp = .inr (.inr M) → q_W K 3 Q 0 0 M 27 [none, none, none] []) : q_W K 3 Q 0 0 M 2 [some (.ref l0), some (.int l1), some (.int l2)] [] := by
  unfold B_X12_isAmong_2 at h
  refine q_iload_n C dX12_isAmong_2 rfl ?_
  refine q_aload_n C dX12_isAmong_3 rfl ?_
  obtain ⟨hk, h⟩ := q_obE h
  obtain ⟨u1, e1, h⟩ := q_bind h
  refine x_callT C dX12_isAmong_4 wd_1405 mV_J0_length_8abf5 rfl hk (c_J0_length_8abf5 _ _ _ _ e1) rfl rfl (Nat.le_of_ble_eq_true rfl) (by decide) (by decide) ?_
  refine q_icmp_ge (tgt := 27) C dX12_isAmong_7 (by decide) h (fun _ h => ?_) (fun _ h => ?_)
  · refine q_aload_n C dX12_isAmong_10 rfl ?_
    refine q_iload_n C dX12_isAmong_11 rfl ?_
    obtain ⟨hk, h⟩ := q_obE h
    obtain ⟨⟨u2, M3⟩, e1, h⟩ := q_bind h
    refine x_callT C dX12_isAmong_12 wd_1409 mV_J0_charAt_5068e rfl hk (c_J0_charAt_5068e _ _ _ _ _ e1) rfl rfl (Nat.le_of_ble_eq_true rfl) (by decide) (by decide) ?_
    refine q_iload_n C dX12_isAmong_15 rfl ?_
    refine q_icmp_ne (tgt := 21) C dX12_isAmong_16 (by decide) h (fun _ h => ?_) (fun _ h => ?_)
    · exact q_msk [false, false, false] (kE0 _ (Option.some.inj h).symm)
    · refine x_iinc (w := (1 : Int32)) (L' := [some (.ref l0), some (.int l1), some (.int (l2 + (1 : Int32)))]) C dX12_isAmong_21 rfl (by decide) (by decide) rfl rfl ?_
      refine q_goto (tgt := 2) C dX12_isAmong_24 (by decide) ?_
      exact q_msk [true, true, true] (kC _ _ (Option.some.inj h).symm)
  · exact q_msk [false, false, false] (kE1 _ (Option.some.inj h).symm)
set_option maxRecDepth 100000 in
set_option maxHeartbeats 4000000 in
theorem lW_X12_isAmong_2 {K : q_K} {Q : State → Prop} (C : q_C K yX12_isAmong cX12_isAmong 3 (Option.some Jvm.ClassFile.FieldType.boolean) 7 1 0) (l0 : Nat) (l1 : Int32) (n : Nat) : ∀ (l2 : Int32) (M : q_Mem) (e : ((q_Mem) ⊕ (q_Mem))), q_lp (fun s => B_X12_isAmong_2 l0 l1 s.1 s.2) n (l2, M) = some e → (∀ (M : q_Mem), e = (.inl M) → q_W K 3 Q 0 0 M 19 [none, none, none] []) → (∀ (M : q_Mem), e = (.inr M) → q_W K 3 Q 0 0 M 27 [none, none, none] []) → q_W K 3 Q 0 0 M 2 [some (.ref l0), some (.int l1), some (.int l2)] [] := by
  induction n with
  | zero => intro l2 M e h; cases h
  | succ n ih =>
    intro l2 M e h kE0 kE1
    obtain ⟨stp, e1, e2⟩ := q_bind h
    refine bW_X12_isAmong_2 C l0 l1 l2 M e1 (fun a0 a1 hs => ?_) (fun b0 hs => ?_) (fun b0 hs => ?_)
    · subst hs; exact ih _ _ _ e2 kE0 kE1
    · subst hs; exact kE0 _ (Option.some.inj e2).symm
    · subst hs; exact kE1 _ (Option.some.inj e2).symm
noncomputable def F_X12_isAmong (l0 : Nat) (l1 : Int32) (M : q_Mem) : Option (Int32 × q_Mem) := (q_lp (fun s => B_X12_isAmong_2 l0 l1 s.1 s.2) q_fu ((0 : Int32), M)).bind (fun e4 => match e4 with | .inl M5 => q_rz (1 : Int32) M5 | .inr M6 => q_rz (0 : Int32) M6)
set_option maxRecDepth 100000 in
set_option maxHeartbeats 4000000 in
theorem c_X12_isAmong (l : Launch) (G : q_G) (l0 : Nat) (l1 : Int32) (M : q_Mem) {r : Int32} {M' : q_Mem} (h : F_X12_isAmong l0 l1 M = some (r, M')) : q_Met l G yX12_isAmong cX12_isAmong 3 (Option.some Jvm.ClassFile.FieldType.boolean) 7 1 0 [.ref l0, .int l1] M (some (.int r)) M' := by
  unfold F_X12_isAmong at h
  refine q_enter [some (.ref l0), some (.int l1), none] (by decide) (Nat.le_of_ble_eq_true rfl) rfl (fun K C => ?_)
  refine x_iconst (v := (0 : Int32)) C dX12_isAmong_0 (by decide) ?_
  refine q_istore_n (L' := [some (.ref l0), some (.int l1), some (.int (0 : Int32))]) C dX12_isAmong_1 (by decide) rfl rfl ?_
  obtain ⟨e4, he, h⟩ := q_bind h
  refine q_msk [true, true, true] (lW_X12_isAmong_2 C l0 l1 q_fu _ _ _ he (fun M5 hs => ?_) (fun M6 hs => ?_))
  · have hs := hs.symm
    subst hs
    refine x_iconst (v := (1 : Int32)) C dX12_isAmong_19 (by decide) ?_
    exact q_zret C dX12_isAmong_20 rfl (by decide) (by decide) (q_rzE h).1 (q_rzE h).2
  · have hs := hs.symm
    subst hs
    refine x_iconst (v := (0 : Int32)) C dX12_isAmong_27 (by decide) ?_
    exact q_zret C dX12_isAmong_28 rfl (by decide) (by decide) (q_rzE h).1 (q_rzE h).2
noncomputable def J_X12_takes_16 (l0 : Nat) (M : q_Mem) : Option (Int32 × q_Mem) := (q_ob M l0 12 ((F_X12_fails l0 M).bind (fun x => match x with | (u6, M7) => q_rz u6 M7)))
set_option maxRecDepth 100000 in
set_option maxHeartbeats 4000000 in
theorem jW_X12_takes_16 {K : q_K} (C : q_C K yX12_takes cX12_takes 2 (Option.some Jvm.ClassFile.FieldType.boolean) 2 0 0) (l0 : Nat) (M : q_Mem) {r : Int32} {M' : q_Mem} (h : J_X12_takes_16 l0 M = some (r, M')) : q_W K 2 (q_Q K (some (.int r)) M' 0 0) 0 0 M 16 [some (.ref l0), none] [] := by
  unfold J_X12_takes_16 at h
  refine q_aload_n C dX12_takes_16 rfl ?_
  obtain ⟨hk, h⟩ := q_obE h
  obtain ⟨⟨u6, M7⟩, e1, h⟩ := q_bind h
  refine x_callV0 C dX12_takes_17 lkM_X12_130 mV_X12_fails ⟨_, rfl, rfl⟩ hk (c_X12_fails _ _ _ _ e1) rfl rfl (Nat.le_of_ble_eq_true rfl) (by decide) (by decide) ?_
  exact q_zret C dX12_takes_20 rfl (by decide) (by decide) (q_rzE h).1 (q_rzE h).2
noncomputable def F_X12_takes (l0 : Nat) (l1 : Int32) (M : q_Mem) : Option (Int32 × q_Mem) := (q_gI M l0 12 11 (fun v1 => (if v1 = (-1 : Int32) then (q_ob M l0 12 ((F_X12_look l0 M).bind (fun x => match x with | (u2, M3) => (if u2 = l1 then (q_gI M3 l0 12 10 (fun v4 => (q_pI M3 l0 12 10 (v4 + (1 : Int32)) (fun M5 => q_rz (1 : Int32) M5)))) else J_X12_takes_16 l0 M3)))) else J_X12_takes_16 l0 M)))
set_option maxRecDepth 100000 in
set_option maxHeartbeats 4000000 in
theorem c_X12_takes (l : Launch) (G : q_G) (l0 : Nat) (l1 : Int32) (M : q_Mem) {r : Int32} {M' : q_Mem} (h : F_X12_takes l0 l1 M = some (r, M')) : q_Met l G yX12_takes cX12_takes 2 (Option.some Jvm.ClassFile.FieldType.boolean) 2 0 0 [.ref l0, .int l1] M (some (.int r)) M' := by
  unfold F_X12_takes at h
  refine q_enter [some (.ref l0), some (.int l1)] (by decide) (Nat.le_of_ble_eq_true rfl) rfl (fun K C => ?_)
  refine q_aload_n C dX12_takes_0 rfl ?_
  refine x_getI (ci := 12) (j := 11) C dX12_takes_1 lkF_X12_124 rfl h (fun v1 h => ?_)
  refine x_iconst (v := (-1 : Int32)) C dX12_takes_4 (by decide) ?_
  refine q_icmp_ne (tgt := 16) C dX12_takes_5 (by decide) h (fun _ h => ?_) (fun _ h => ?_)
  · refine q_aload_n C dX12_takes_8 rfl ?_
    obtain ⟨hk, h⟩ := q_obE h
    obtain ⟨⟨u2, M3⟩, e1, h⟩ := q_bind h
    refine x_callV0 C dX12_takes_9 lkM_X12_134 mV_X12_look ⟨_, rfl, rfl⟩ hk (c_X12_look _ _ _ _ e1) rfl rfl (Nat.le_of_ble_eq_true rfl) (by decide) (by decide) ?_
    refine q_iload_n C dX12_takes_12 rfl ?_
    refine q_icmp_eq (tgt := 21) C dX12_takes_13 (by decide) h (fun _ h => ?_) (fun _ h => ?_)
    · refine q_aload_n C dX12_takes_21 rfl ?_
      refine q_dup C dX12_takes_22 rfl ?_
      refine x_getI (ci := 12) (j := 10) C dX12_takes_23 lkF_X12_115 rfl h (fun v4 h => ?_)
      refine x_iconst (v := (1 : Int32)) C dX12_takes_26 (by decide) ?_
      refine q_iadd C dX12_takes_27 ?_
      refine x_putI (ci := 12) (j := 10) C dX12_takes_28 lkF_X12_115 (fun r hr => by cases hr; rfl) rfl h (fun M5 h => ?_)
      refine x_iconst (v := (1 : Int32)) C dX12_takes_31 (by decide) ?_
      exact q_zret C dX12_takes_32 rfl (by decide) (by decide) (q_rzE h).1 (q_rzE h).2
    · exact q_msk [true, false] (jW_X12_takes_16 C l0 M3 h)
  · exact q_msk [true, false] (jW_X12_takes_16 C l0 M h)
noncomputable def F_X12_goesIn (l0 : Nat) (M : q_Mem) : Option (Int32 × q_Mem) := (q_gI M l0 12 12 (fun v1 => (if v1 = (6 : Int32) then (q_ob M l0 12 ((F_X12_fails l0 M).bind (fun x => match x with | (u2, M3) => q_rz u2 M3))) else (q_gI M l0 12 12 (fun v4 => (q_pI M l0 12 12 (v4 + (1 : Int32)) (fun M5 => (q_gI M5 l0 12 10 (fun v6 => (q_pI M5 l0 12 10 (v6 + (1 : Int32)) (fun M7 => q_rz (1 : Int32) M7)))))))))))
set_option maxRecDepth 100000 in
set_option maxHeartbeats 4000000 in
theorem c_X12_goesIn (l : Launch) (G : q_G) (l0 : Nat) (M : q_Mem) {r : Int32} {M' : q_Mem} (h : F_X12_goesIn l0 M = some (r, M')) : q_Met l G yX12_goesIn cX12_goesIn 1 (Option.some Jvm.ClassFile.FieldType.boolean) 2 0 0 [.ref l0] M (some (.int r)) M' := by
  unfold F_X12_goesIn at h
  refine q_enter [some (.ref l0)] (by decide) (Nat.le_of_ble_eq_true rfl) rfl (fun K C => ?_)
  refine q_aload_n C dX12_goesIn_0 rfl ?_
  refine x_getI (ci := 12) (j := 12) C dX12_goesIn_1 lkF_X12_127 rfl h (fun v1 h => ?_)
  refine x_bipush (v := (6 : Int32)) C dX12_goesIn_4 (by decide) ?_
  refine q_icmp_ne (tgt := 14) C dX12_goesIn_6 (by decide) h (fun _ h => ?_) (fun _ h => ?_)
  · refine q_aload_n C dX12_goesIn_9 rfl ?_
    obtain ⟨hk, h⟩ := q_obE h
    obtain ⟨⟨u2, M3⟩, e1, h⟩ := q_bind h
    refine x_callV0 C dX12_goesIn_10 lkM_X12_130 mV_X12_fails ⟨_, rfl, rfl⟩ hk (c_X12_fails _ _ _ _ e1) rfl rfl (Nat.le_of_ble_eq_true rfl) (by decide) (by decide) ?_
    exact q_zret C dX12_goesIn_13 rfl (by decide) (by decide) (q_rzE h).1 (q_rzE h).2
  · refine q_aload_n C dX12_goesIn_14 rfl ?_
    refine q_dup C dX12_goesIn_15 rfl ?_
    refine x_getI (ci := 12) (j := 12) C dX12_goesIn_16 lkF_X12_127 rfl h (fun v4 h => ?_)
    refine x_iconst (v := (1 : Int32)) C dX12_goesIn_19 (by decide) ?_
    refine q_iadd C dX12_goesIn_20 ?_
    refine x_putI (ci := 12) (j := 12) C dX12_goesIn_21 lkF_X12_127 (fun r hr => by cases hr; rfl) rfl h (fun M5 h => ?_)
    refine q_aload_n C dX12_goesIn_24 rfl ?_
    refine q_dup C dX12_goesIn_25 rfl ?_
    refine x_getI (ci := 12) (j := 10) C dX12_goesIn_26 lkF_X12_115 rfl h (fun v6 h => ?_)
    refine x_iconst (v := (1 : Int32)) C dX12_goesIn_29 (by decide) ?_
    refine q_iadd C dX12_goesIn_30 ?_
    refine x_putI (ci := 12) (j := 10) C dX12_goesIn_31 lkF_X12_115 (fun r hr => by cases hr; rfl) rfl h (fun M7 h => ?_)
    refine x_iconst (v := (1 : Int32)) C dX12_goesIn_34 (by decide) ?_
    exact q_zret C dX12_goesIn_35 rfl (by decide) (by decide) (q_rzE h).1 (q_rzE h).2
noncomputable def F_X12_within (l0 : Int64) (M : q_Mem) : Option (Int32) := ((F_J9_min_f86c9 (1000000 : Int64) l0 M).bind (fun u1 => ((F_J9_max_f86c9 (-1000000 : Int64) u1 M).bind (fun u2 => some u2.toInt32))))
set_option maxRecDepth 100000 in
set_option maxHeartbeats 4000000 in
theorem c_X12_within (l : Launch) (G : q_G) (l0 : Int64) (M : q_Mem) {r : Int32} (h : F_X12_within l0 M = some r) : q_Met l G yX12_within cX12_within 2 (Option.some Jvm.ClassFile.FieldType.int) 2 0 0 [.long l0] M (some (.int r)) M := by
  unfold F_X12_within at h
  refine q_enter [some (.long l0), none] (by decide) (Nat.le_of_ble_eq_true rfl) rfl (fun K C => ?_)
  refine q_ldc2 (v := (-1000000 : Int64)) C dX12_within_0 wd_1495 ?_
  refine q_ldc2 (v := (1000000 : Int64)) C dX12_within_3 wd_1496 ?_
  refine q_lload_n C dX12_within_6 rfl ?_
  obtain ⟨u1, e1, h⟩ := q_bind h
  refine x_callS0 C dX12_within_7 lkM_X12_141 mS_J9_min_f86c9 (c_J9_min_f86c9 _ _ _ _ _ e1) rfl rfl (Nat.le_of_ble_eq_true rfl) (by decide) (by decide) ?_
  obtain ⟨u2, e1, h⟩ := q_bind h
  refine x_callS0 C dX12_within_10 lkM_X12_147 mS_J9_max_f86c9 (c_J9_max_f86c9 _ _ _ _ _ e1) rfl rfl (Nat.le_of_ble_eq_true rfl) (by decide) (by decide) ?_
  refine q_l2i C dX12_within_13 ?_
  exact q_iret (res := (r, M)) C dX12_within_14 rfl (by decide) (by decide) (congrArg (fun z => (z, M)) (Option.some.inj h))
def Hr_X12_atom (n0 : Nat) (rec : (Nat → Nat → q_Mem → Option (Int32 × q_Mem))) : Prop := ∀ (l : Launch) (G : q_G), (∀ (a0 : Nat) (M : q_Mem) (r : Int32) (M' : q_Mem), rec 0 a0 M = some (r, M') → q_Met l G yX12_atom cX12_atom 4 (Option.some Jvm.ClassFile.FieldType.int) (n0 + 8) 0 0 [.ref a0] M (some (.int r)) M') ∧ (∀ (a0 : Nat) (M : q_Mem) (r : Int32) (M' : q_Mem), rec 1 a0 M = some (r, M') → q_Met l G yX12_sum cX12_sum 5 (Option.some Jvm.ClassFile.FieldType.int) (n0 + 8) 0 0 [.ref a0] M (some (.int r)) M') ∧ (∀ (a0 : Nat) (M : q_Mem) (r : Int32) (M' : q_Mem), rec 2 a0 M = some (r, M') → q_Met l G yX12_term cX12_term 5 (Option.some Jvm.ClassFile.FieldType.int) (n0 + 8) 0 0 [.ref a0] M (some (.int r)) M')
noncomputable def B_X12_atom_90 (rec : (Nat → Nat → q_Mem → Option (Int32 × q_Mem))) (l0 : Nat) (l2 : Int32) (l3 : Int32) (M : q_Mem) : Option ((Int32 × Int32 × q_Mem) ⊕ ((q_Mem) ⊕ (Int32 × q_Mem))) := (q_ob M l0 12 ((F_X12_isDigit l0 M).bind (fun u16 => (if u16 = 0 then some (.inr (.inr (l2, M))) else (q_gI M l0 12 11 (fun v17 => (if v17 = (-1 : Int32) then (if l3 = (4 : Int32) then some (.inr (.inl M)) else (q_gR M l0 12 5 (fun c18 => q_nn c18 (fun r19 => (q_gI M l0 12 8 (fun v20 => (q_gI M l0 12 10 (fun v21 => (q_lI M 1 r19 (v20 + v21) (fun v22 => (q_gI M l0 12 10 (fun v23 => (q_pI M l0 12 10 (v23 + (1 : Int32)) (fun M24 => some (.inl (((((10 : Int32) * l2) + v22) - (48 : Int32)), (l3 + (1 : Int32)), M24)))))))))))))))) else some (.inr (.inr (l2, M))))))))))
set_option maxRecDepth 100000 in
set_option maxHeartbeats 4000000 in
theorem bW_X12_atom_90 {K : q_K} {Q : State → Prop} {n0 : Nat} (C : q_C K yX12_atom cX12_atom 4 (Option.some Jvm.ClassFile.FieldType.int) (n0 + 8 + 1) 1 0) {rec : (Nat → Nat → q_Mem → Option (Int32 × q_Mem))} (hr : Hr_X12_atom n0 rec) (l0 : Nat) (l2 : Int32) (l3 : Int32) (M : q_Mem) {stp : (Int32 × Int32 × q_Mem) ⊕ ((q_Mem) ⊕ (Int32 × q_Mem))} (h : B_X12_atom_90 rec l0 l2 l3 M = some stp) (kC : ∀ (l2 : Int32) (l3 : Int32) (M : q_Mem), stp = .inl (l2, l3, M) → q_W K 4 Q 0 0 M 90 [some (.ref l0), none, some (.int l2), some (.int l3)] []) (kE0 : ∀ (M : q_Mem), stp = .inr (.inl M) → q_W K 4 Q 0 0 M 110 [some (.ref l0), none, none, none] []) (kE1 : ∀ (l2 : Int32) (M : q_Mem), stp = .inr (.inr (l2, M)) → q_W K 4 Q 0 0 M 156 [none, none, some (.int l2), none] []) : q_W K 4 Q 0 0 M 90 [some (.ref l0), none, some (.int l2), some (.int l3)] [] := by
  unfold B_X12_atom_90 at h
  refine q_aload_n C dX12_atom_90 rfl ?_
  obtain ⟨hk, h⟩ := q_obE h
  obtain ⟨u16, e1, h⟩ := q_bind h
  refine x_callV0 C dX12_atom_91 lkM_X12_164 mV_X12_isDigit ⟨_, rfl, rfl⟩ hk (c_X12_isDigit _ _ _ _ e1) rfl rfl (Nat.le_of_ble_eq_true rfl) (⟨by omega, by decide⟩) (by decide) ?_
  refine q_if_eq (tgt := 156) C dX12_atom_94 (by decide) h (fun _ h => ?_) (fun _ h => ?_)
  · exact q_msk [false, false, true, false] (kE1 _ _ (Option.some.inj h).symm)
  · refine q_aload_n C dX12_atom_97 rfl ?_
    refine x_getI (ci := 12) (j := 11) C dX12_atom_98 lkF_X12_124 rfl h (fun v17 h => ?_)
    refine x_iconst (v := (-1 : Int32)) C dX12_atom_101 (by decide) ?_
    refine q_icmp_ne (tgt := 156) C dX12_atom_102 (by decide) h (fun _ h => ?_) (fun _ h => ?_)
    · refine q_iload_n C dX12_atom_105 rfl ?_
      refine x_iconst (v := (4 : Int32)) C dX12_atom_106 (by decide) ?_
      refine q_icmp_ne (tgt := 117) C dX12_atom_107 (by decide) h (fun _ h => ?_) (fun _ h => ?_)
      · exact q_msk [true, false, false, false] (kE0 _ (Option.some.inj h).symm)
      · refine x_bipush (v := (10 : Int32)) C dX12_atom_117 (by decide) ?_
        refine q_iload_n C dX12_atom_119 rfl ?_
        refine q_imul C dX12_atom_120 ?_
        refine q_aload_n C dX12_atom_121 rfl ?_
        refine x_getR (ci := 12) (j := 5) C dX12_atom_122 lkF_X12_23 rfl h (fun c18 h => ?_)
        refine x_nn h (fun r19 h => ?_)
        refine q_aload_n C dX12_atom_125 rfl ?_
        refine x_getI (ci := 12) (j := 8) C dX12_atom_126 lkF_X12_121 rfl h (fun v20 h => ?_)
        refine q_aload_n C dX12_atom_129 rfl ?_
        refine x_getI (ci := 12) (j := 10) C dX12_atom_130 lkF_X12_115 rfl h (fun v21 h => ?_)
        refine q_iadd C dX12_atom_133 ?_
        refine x_bald C dX12_atom_134 h (fun v22 h => ?_)
        refine q_iadd C dX12_atom_135 ?_
        refine x_bipush (v := (48 : Int32)) C dX12_atom_136 (by decide) ?_
        refine q_isub C dX12_atom_138 ?_
        refine q_istore_n (L' := [some (.ref l0), none, some (.int ((((10 : Int32) * l2) + v22) - (48 : Int32))), some (.int l3)]) C dX12_atom_139 (by decide) rfl rfl ?_
        refine q_aload_n C dX12_atom_140 rfl ?_
        refine q_dup C dX12_atom_141 rfl ?_
        refine x_getI (ci := 12) (j := 10) C dX12_atom_142 lkF_X12_115 rfl h (fun v23 h => ?_)
        refine x_iconst (v := (1 : Int32)) C dX12_atom_145 (by decide) ?_
        refine q_iadd C dX12_atom_146 ?_
        refine x_putI (ci := 12) (j := 10) C dX12_atom_147 lkF_X12_115 (fun r hr => by cases hr; rfl) rfl h (fun M24 h => ?_)
        refine x_iinc (w := (1 : Int32)) (L' := [some (.ref l0), none, some (.int ((((10 : Int32) * l2) + v22) - (48 : Int32))), some (.int (l3 + (1 : Int32)))]) C dX12_atom_150 rfl (by decide) (by decide) rfl rfl ?_
        refine q_goto (tgt := 90) C dX12_atom_153 (by decide) ?_
        exact q_msk [true, false, true, true] (kC _ _ _ (Option.some.inj h).symm)
    · exact q_msk [false, false, true, false] (kE1 _ _ (Option.some.inj h).symm)
set_option maxRecDepth 100000 in
set_option maxHeartbeats 4000000 in
theorem lW_X12_atom_90 {K : q_K} {Q : State → Prop} {n0 : Nat} (C : q_C K yX12_atom cX12_atom 4 (Option.some Jvm.ClassFile.FieldType.int) (n0 + 8 + 1) 1 0) {rec : (Nat → Nat → q_Mem → Option (Int32 × q_Mem))} (hr : Hr_X12_atom n0 rec) (l0 : Nat) (n : Nat) : ∀ (l2 : Int32) (l3 : Int32) (M : q_Mem) (e : ((q_Mem) ⊕ (Int32 × q_Mem))), q_lp (fun s => B_X12_atom_90 rec l0 s.1 s.2.1 s.2.2) n (l2, l3, M) = some e → (∀ (M : q_Mem), e = (.inl M) → q_W K 4 Q 0 0 M 110 [some (.ref l0), none, none, none] []) → (∀ (l2 : Int32) (M : q_Mem), e = (.inr (l2, M)) → q_W K 4 Q 0 0 M 156 [none, none, some (.int l2), none] []) → q_W K 4 Q 0 0 M 90 [some (.ref l0), none, some (.int l2), some (.int l3)] [] := by
  induction n with
  | zero => intro l2 l3 M e h; cases h
  | succ n ih =>
    intro l2 l3 M e h kE0 kE1
    obtain ⟨stp, e1, e2⟩ := q_bind h
    refine bW_X12_atom_90 C hr l0 l2 l3 M e1 (fun a0 a1 a2 hs => ?_) (fun b0 hs => ?_) (fun b0 b1 hs => ?_)
    · subst hs; exact ih _ _ _ _ e2 kE0 kE1
    · subst hs; exact kE0 _ (Option.some.inj e2).symm
    · subst hs; exact kE1 _ _ (Option.some.inj e2).symm
noncomputable def J_X12_atom_86 (rec : (Nat → Nat → q_Mem → Option (Int32 × q_Mem))) (l0 : Nat) (M : q_Mem) : Option (Int32 × q_Mem) := (q_lp (fun s => B_X12_atom_90 rec l0 s.1 s.2.1 s.2.2) q_fu ((0 : Int32), (0 : Int32), M)).bind (fun e25 => match e25 with | .inl M26 => (q_ob M26 l0 12 ((F_X12_fails l0 M26).bind (fun x => match x with | (u27, M28) => some ((0 : Int32), M28)))) | .inr (w29, M30) => some (w29, M30))
set_option maxRecDepth 100000 in
set_option maxHeartbeats 4000000 in
theorem jW_X12_atom_86 {K : q_K} {n0 : Nat} (C : q_C K yX12_atom cX12_atom 4 (Option.some Jvm.ClassFile.FieldType.int) (n0 + 8 + 1) 1 0) {rec : (Nat → Nat → q_Mem → Option (Int32 × q_Mem))} (hr : Hr_X12_atom n0 rec) (l0 : Nat) (M : q_Mem) {r : Int32} {M' : q_Mem} (h : J_X12_atom_86 rec l0 M = some (r, M')) : q_W K 4 (q_Q K (some (.int r)) M' 1 0) 0 0 M 86 [some (.ref l0), none, none, none] [] := by
  unfold J_X12_atom_86 at h
  refine x_iconst (v := (0 : Int32)) C dX12_atom_86 (by decide) ?_
  refine q_istore_n (L' := [some (.ref l0), none, some (.int (0 : Int32)), none]) C dX12_atom_87 (by decide) rfl rfl ?_
  refine x_iconst (v := (0 : Int32)) C dX12_atom_88 (by decide) ?_
  refine q_istore_n (L' := [some (.ref l0), none, some (.int (0 : Int32)), some (.int (0 : Int32))]) C dX12_atom_89 (by decide) rfl rfl ?_
  obtain ⟨e25, he, h⟩ := q_bind h
  refine q_msk [true, false, true, true] (lW_X12_atom_90 C hr l0 q_fu _ _ _ _ he (fun M26 hs => ?_) (fun w29 M30 hs => ?_))
  · have hs := hs.symm
    subst hs
    refine q_aload_n C dX12_atom_110 rfl ?_
    obtain ⟨hk, h⟩ := q_obE h
    obtain ⟨⟨u27, M28⟩, e1, h⟩ := q_bind h
    refine x_callV0 C dX12_atom_111 lkM_X12_130 mV_X12_fails ⟨_, rfl, rfl⟩ hk (c_X12_fails _ _ _ _ e1) rfl rfl (Nat.le_of_ble_eq_true rfl) (⟨by omega, by decide⟩) (by decide) ?_
    refine q_pop C dX12_atom_114 rfl ?_
    refine x_iconst (v := (0 : Int32)) C dX12_atom_115 (by decide) ?_
    exact q_iret C dX12_atom_116 rfl (by decide) (by decide) (Option.some.inj h)
  · have hs := hs.symm
    subst hs
    refine q_iload_n C dX12_atom_156 rfl ?_
    exact q_iret C dX12_atom_157 rfl (by decide) (by decide) (Option.some.inj h)
noncomputable def F_X12_atom (rec : (Nat → Nat → q_Mem → Option (Int32 × q_Mem))) (l0 : Nat) (M : q_Mem) : Option (Int32 × q_Mem) := (q_ob M l0 12 ((F_X12_look l0 M).bind (fun x => match x with | (u1, M2) => ((F_X12_isAmong 32 u1 M2).bind (fun x => match x with | (u3, M4) => (if u3 = 0 then (if u1 = (91 : Int32) then (q_ob M4 l0 12 ((F_X12_goesIn l0 M4).bind (fun x => match x with | (u5, M6) => (if u5 = 0 then some ((0 : Int32), M6) else (q_ob M6 l0 12 ((rec 1 l0 M6).bind (fun x => match x with | (u7, M8) => (q_ob M8 l0 12 ((F_X12_takes l0 (93 : Int32) M8).bind (fun x => match x with | (u9, M10) => (if u9 = 0 then some ((0 : Int32), M10) else (q_gI M10 l0 12 12 (fun v11 => (q_pI M10 l0 12 12 (v11 - (1 : Int32)) (fun M12 => some (u7, M12)))))))))))))))) else (q_ob M4 l0 12 ((F_X12_isDigit l0 M4).bind (fun u13 => (if u13 = 0 then (q_ob M4 l0 12 ((F_X12_fails l0 M4).bind (fun x => match x with | (u14, M15) => J_X12_atom_86 rec l0 M15))) else J_X12_atom_86 rec l0 M4))))) else (q_gI M4 l0 12 10 (fun v31 => (q_pI M4 l0 12 10 (v31 + (1 : Int32)) (fun M32 => (q_gR M32 l0 12 4 (fun c33 => q_nn c33 (fun r34 => (q_lI M32 0 r34 u1 (fun v35 => some (v35, M32))))))))))))))))
set_option maxRecDepth 100000 in
set_option maxHeartbeats 4000000 in
theorem cr_X12_atom {l : Launch} {G : q_G} {n0 : Nat} {rec : (Nat → Nat → q_Mem → Option (Int32 × q_Mem))} (hr : Hr_X12_atom n0 rec) (l0 : Nat) (M : q_Mem) {r : Int32} {M' : q_Mem} (h : F_X12_atom rec l0 M = some (r, M')) : q_Met l G yX12_atom cX12_atom 4 (Option.some Jvm.ClassFile.FieldType.int) (n0 + 8 + 1) 1 0 [.ref l0] M (some (.int r)) M' := by
  unfold F_X12_atom at h
  refine q_enter [some (.ref l0), none, none, none] (by decide) (Nat.le_of_ble_eq_true rfl) rfl (fun K C => ?_)
  refine q_aload_n C dX12_atom_0 rfl ?_
  obtain ⟨hk, h⟩ := q_obE h
  obtain ⟨⟨u1, M2⟩, e1, h⟩ := q_bind h
  refine x_callV0 C dX12_atom_1 lkM_X12_134 mV_X12_look ⟨_, rfl, rfl⟩ hk (c_X12_look _ _ _ _ e1) rfl rfl (Nat.le_of_ble_eq_true rfl) (⟨by omega, by decide⟩) (by decide) ?_
  refine q_istore_n (L' := [some (.ref l0), some (.int u1), none, none]) C dX12_atom_4 (by decide) rfl rfl ?_
  refine q_ldcS (i := 14) C dX12_atom_5 rfl ?_
  refine q_iload_n C dX12_atom_7 rfl ?_
  obtain ⟨⟨u3, M4⟩, e1, h⟩ := q_bind h
  refine x_callS C dX12_atom_8 lkM_X12_150 mS_X12_isAmong (c_X12_isAmong _ _ _ _ _ e1) rfl rfl (Nat.le_of_ble_eq_true rfl) (⟨by omega, by decide⟩) (by decide) ?_
  refine q_if_eq (tgt := 31) C dX12_atom_11 (by decide) h (fun _ h => ?_) (fun _ h => ?_)
  · refine q_iload_n C dX12_atom_31 rfl ?_
    refine x_bipush (v := (91 : Int32)) C dX12_atom_32 (by decide) ?_
    refine q_icmp_ne (tgt := 74) C dX12_atom_34 (by decide) h (fun _ h => ?_) (fun _ h => ?_)
    · refine q_aload_n C dX12_atom_37 rfl ?_
      obtain ⟨hk, h⟩ := q_obE h
      obtain ⟨⟨u5, M6⟩, e1, h⟩ := q_bind h
      refine x_callV0 C dX12_atom_38 lkM_X12_154 mV_X12_goesIn ⟨_, rfl, rfl⟩ hk (c_X12_goesIn _ _ _ _ e1) rfl rfl (Nat.le_of_ble_eq_true rfl) (⟨by omega, by decide⟩) (by decide) ?_
      refine q_if_ne (tgt := 46) C dX12_atom_41 (by decide) h (fun _ h => ?_) (fun _ h => ?_)
      · refine x_iconst (v := (0 : Int32)) C dX12_atom_44 (by decide) ?_
        exact q_iret C dX12_atom_45 rfl (by decide) (by decide) (Option.some.inj h)
      · refine q_aload_n C dX12_atom_46 rfl ?_
        obtain ⟨hk, h⟩ := q_obE h
        obtain ⟨⟨u7, M8⟩, e1, h⟩ := q_bind h
        refine x_callV0 C dX12_atom_47 lkM_X12_157 mV_X12_sum ⟨_, rfl, rfl⟩ hk ((hr _ _).2.1 _ _ _ _ e1) rfl rfl (Nat.le_of_ble_eq_true rfl) (⟨by omega, by decide⟩) (by decide) ?_
        refine q_istore_n (L' := [some (.ref l0), some (.int u1), some (.int u7), none]) C dX12_atom_50 (by decide) rfl rfl ?_
        refine q_aload_n C dX12_atom_51 rfl ?_
        refine x_bipush (v := (93 : Int32)) C dX12_atom_52 (by decide) ?_
        obtain ⟨hk, h⟩ := q_obE h
        obtain ⟨⟨u9, M10⟩, e1, h⟩ := q_bind h
        refine x_callV0 C dX12_atom_54 lkM_X12_160 mV_X12_takes ⟨_, rfl, rfl⟩ hk (c_X12_takes _ _ _ _ _ e1) rfl rfl (Nat.le_of_ble_eq_true rfl) (⟨by omega, by decide⟩) (by decide) ?_
        refine q_if_ne (tgt := 62) C dX12_atom_57 (by decide) h (fun _ h => ?_) (fun _ h => ?_)
        · refine x_iconst (v := (0 : Int32)) C dX12_atom_60 (by decide) ?_
          exact q_iret C dX12_atom_61 rfl (by decide) (by decide) (Option.some.inj h)
        · refine q_aload_n C dX12_atom_62 rfl ?_
          refine q_dup C dX12_atom_63 rfl ?_
          refine x_getI (ci := 12) (j := 12) C dX12_atom_64 lkF_X12_127 rfl h (fun v11 h => ?_)
          refine x_iconst (v := (1 : Int32)) C dX12_atom_67 (by decide) ?_
          refine q_isub C dX12_atom_68 ?_
          refine x_putI (ci := 12) (j := 12) C dX12_atom_69 lkF_X12_127 (fun r hr => by cases hr; rfl) rfl h (fun M12 h => ?_)
          refine q_iload_n C dX12_atom_72 rfl ?_
          exact q_iret C dX12_atom_73 rfl (by decide) (by decide) (Option.some.inj h)
    · refine q_aload_n C dX12_atom_74 rfl ?_
      obtain ⟨hk, h⟩ := q_obE h
      obtain ⟨u13, e1, h⟩ := q_bind h
      refine x_callV0 C dX12_atom_75 lkM_X12_164 mV_X12_isDigit ⟨_, rfl, rfl⟩ hk (c_X12_isDigit _ _ _ _ e1) rfl rfl (Nat.le_of_ble_eq_true rfl) (⟨by omega, by decide⟩) (by decide) ?_
      refine q_if_ne (tgt := 86) C dX12_atom_78 (by decide) h (fun _ h => ?_) (fun _ h => ?_)
      · refine q_aload_n C dX12_atom_81 rfl ?_
        obtain ⟨hk, h⟩ := q_obE h
        obtain ⟨⟨u14, M15⟩, e1, h⟩ := q_bind h
        refine x_callV0 C dX12_atom_82 lkM_X12_130 mV_X12_fails ⟨_, rfl, rfl⟩ hk (c_X12_fails _ _ _ _ e1) rfl rfl (Nat.le_of_ble_eq_true rfl) (⟨by omega, by decide⟩) (by decide) ?_
        refine q_pop C dX12_atom_85 rfl ?_
        exact q_msk [true, false, false, false] (jW_X12_atom_86 C hr l0 M15 h)
      · exact q_msk [true, false, false, false] (jW_X12_atom_86 C hr l0 M4 h)
  · refine q_aload_n C dX12_atom_14 rfl ?_
    refine q_dup C dX12_atom_15 rfl ?_
    refine x_getI (ci := 12) (j := 10) C dX12_atom_16 lkF_X12_115 rfl h (fun v31 h => ?_)
    refine x_iconst (v := (1 : Int32)) C dX12_atom_19 (by decide) ?_
    refine q_iadd C dX12_atom_20 ?_
    refine x_putI (ci := 12) (j := 10) C dX12_atom_21 lkF_X12_115 (fun r hr => by cases hr; rfl) rfl h (fun M32 h => ?_)
    refine q_aload_n C dX12_atom_24 rfl ?_
    refine x_getR (ci := 12) (j := 4) C dX12_atom_25 lkF_X12_20 rfl h (fun c33 h => ?_)
    refine x_nn h (fun r34 h => ?_)
    refine q_iload_n C dX12_atom_28 rfl ?_
    refine x_iald C dX12_atom_29 h (fun v35 h => ?_)
    exact q_iret C dX12_atom_30 rfl (by decide) (by decide) (Option.some.inj h)
noncomputable def J_X12_sum_77_5 (rec : (Nat → Nat → q_Mem → Option (Int32 × q_Mem))) (l0 : Nat) (s0 : Int64) (M : q_Mem) : Option ((Int32 × q_Mem) ⊕ (Int32 × q_Mem)) := ((F_X12_within s0 M).bind (fun u12 => some (.inl (u12, M))))
set_option maxRecDepth 100000 in
set_option maxHeartbeats 4000000 in
theorem jW_X12_sum_77_5 {K : q_K} {Q : State → Prop} {n0 : Nat} (C : q_C K yX12_sum cX12_sum 5 (Option.some Jvm.ClassFile.FieldType.int) (n0 + 8 + 1) 0 0) {rec : (Nat → Nat → q_Mem → Option (Int32 × q_Mem))} (hr : Hr_X12_atom n0 rec) (l0 : Nat) (s0 : Int64) (M : q_Mem) {stp : (Int32 × q_Mem) ⊕ (Int32 × q_Mem)} (h : J_X12_sum_77_5 rec l0 s0 M = some stp) (kC : ∀ (l1 : Int32) (M : q_Mem), stp = .inl (l1, M) → q_W K 5 Q 0 0 M 5 [some (.ref l0), some (.int l1), none, none, none] []) (kE0 : ∀ (l1 : Int32) (M : q_Mem), stp = .inr (l1, M) → q_W K 5 Q 0 0 M 84 [none, some (.int l1), none, none, none] []) : q_W K 5 Q 0 0 M 77 [some (.ref l0), none, none, none, none] [.long s0] := by
  unfold J_X12_sum_77_5 at h
  obtain ⟨u12, e1, h⟩ := q_bind h
  refine x_callS0 C dX12_sum_77 lkM_X12_170 mS_X12_within (c_X12_within _ _ _ _ e1) rfl rfl (Nat.le_of_ble_eq_true rfl) (⟨by omega, by decide⟩) (by decide) ?_
  refine q_istore_n (L' := [some (.ref l0), some (.int u12), none, none, none]) C dX12_sum_80 (by decide) rfl rfl ?_
  refine q_goto (tgt := 5) C dX12_sum_81 (by decide) ?_
  exact q_msk [true, true, false, false, false] (kC _ _ (Option.some.inj h).symm)
noncomputable def J_X12_sum_45_5 (rec : (Nat → Nat → q_Mem → Option (Int32 × q_Mem))) (l0 : Nat) (l1 : Int32) (s0 : Int32) (M : q_Mem) : Option ((Int32 × q_Mem) ⊕ (Int32 × q_Mem)) := (q_gI M l0 12 10 (fun v8 => (q_pI M l0 12 10 (v8 + (1 : Int32)) (fun M9 => (q_ob M9 l0 12 ((rec 2 l0 M9).bind (fun x => match x with | (u10, M11) => (if s0 = 0 then J_X12_sum_77_5 rec l0 (l1.toInt64 - u10.toInt64) M11 else J_X12_sum_77_5 rec l0 (l1.toInt64 + u10.toInt64) M11))))))))
set_option maxRecDepth 100000 in
set_option maxHeartbeats 4000000 in
theorem jW_X12_sum_45_5 {K : q_K} {Q : State → Prop} {n0 : Nat} (C : q_C K yX12_sum cX12_sum 5 (Option.some Jvm.ClassFile.FieldType.int) (n0 + 8 + 1) 0 0) {rec : (Nat → Nat → q_Mem → Option (Int32 × q_Mem))} (hr : Hr_X12_atom n0 rec) (l0 : Nat) (l1 : Int32) (s0 : Int32) (M : q_Mem) {stp : (Int32 × q_Mem) ⊕ (Int32 × q_Mem)} (h : J_X12_sum_45_5 rec l0 l1 s0 M = some stp) (kC : ∀ (l1 : Int32) (M : q_Mem), stp = .inl (l1, M) → q_W K 5 Q 0 0 M 5 [some (.ref l0), some (.int l1), none, none, none] []) (kE0 : ∀ (l1 : Int32) (M : q_Mem), stp = .inr (l1, M) → q_W K 5 Q 0 0 M 84 [none, some (.int l1), none, none, none] []) : q_W K 5 Q 0 0 M 45 [some (.ref l0), some (.int l1), none, none, none] [.int s0] := by
  unfold J_X12_sum_45_5 at h
  refine q_istore_n (L' := [some (.ref l0), some (.int l1), some (.int s0), none, none]) C dX12_sum_45 (by decide) rfl rfl ?_
  refine q_aload_n C dX12_sum_46 rfl ?_
  refine q_dup C dX12_sum_47 rfl ?_
  refine x_getI (ci := 12) (j := 10) C dX12_sum_48 lkF_X12_115 rfl h (fun v8 h => ?_)
  refine x_iconst (v := (1 : Int32)) C dX12_sum_51 (by decide) ?_
  refine q_iadd C dX12_sum_52 ?_
  refine x_putI (ci := 12) (j := 10) C dX12_sum_53 lkF_X12_115 (fun r hr => by cases hr; rfl) rfl h (fun M9 h => ?_)
  refine q_aload_n C dX12_sum_56 rfl ?_
  obtain ⟨hk, h⟩ := q_obE h
  obtain ⟨⟨u10, M11⟩, e1, h⟩ := q_bind h
  refine x_callV0 C dX12_sum_57 lkM_X12_174 mV_X12_term ⟨_, rfl, rfl⟩ hk ((hr _ _).2.2 _ _ _ _ e1) rfl rfl (Nat.le_of_ble_eq_true rfl) (⟨by omega, by decide⟩) (by decide) ?_
  refine q_i2l C dX12_sum_60 ?_
  refine q_lstore_n (L' := [some (.ref l0), some (.int l1), some (.int s0), some (.long u10.toInt64), none]) C dX12_sum_61 (by decide) rfl rfl ?_
  refine q_iload_n C dX12_sum_62 rfl ?_
  refine q_if_eq (tgt := 73) C dX12_sum_63 (by decide) h (fun _ h => ?_) (fun _ h => ?_)
  · refine q_iload_n C dX12_sum_73 rfl ?_
    refine q_i2l C dX12_sum_74 ?_
    refine q_lload_n C dX12_sum_75 rfl ?_
    refine q_lsub C dX12_sum_76 ?_
    exact q_msk [true, false, false, false, false] (jW_X12_sum_77_5 C hr l0 (l1.toInt64 - u10.toInt64) M11 h kC kE0)
  · refine q_iload_n C dX12_sum_66 rfl ?_
    refine q_i2l C dX12_sum_67 ?_
    refine q_lload_n C dX12_sum_68 rfl ?_
    refine q_ladd C dX12_sum_69 ?_
    refine q_goto (tgt := 77) C dX12_sum_70 (by decide) ?_
    exact q_msk [true, false, false, false, false] (jW_X12_sum_77_5 C hr l0 (l1.toInt64 + u10.toInt64) M11 h kC kE0)
noncomputable def J_X12_sum_31_5 (rec : (Nat → Nat → q_Mem → Option (Int32 × q_Mem))) (l0 : Nat) (l1 : Int32) (M : q_Mem) : Option ((Int32 × q_Mem) ⊕ (Int32 × q_Mem)) := (q_ob M l0 12 ((F_X12_look l0 M).bind (fun x => match x with | (u6, M7) => (if u6 = (43 : Int32) then J_X12_sum_45_5 rec l0 l1 (1 : Int32) M7 else J_X12_sum_45_5 rec l0 l1 (0 : Int32) M7))))
set_option maxRecDepth 100000 in
set_option maxHeartbeats 4000000 in
theorem jW_X12_sum_31_5 {K : q_K} {Q : State → Prop} {n0 : Nat} (C : q_C K yX12_sum cX12_sum 5 (Option.some Jvm.ClassFile.FieldType.int) (n0 + 8 + 1) 0 0) {rec : (Nat → Nat → q_Mem → Option (Int32 × q_Mem))} (hr : Hr_X12_atom n0 rec) (l0 : Nat) (l1 : Int32) (M : q_Mem) {stp : (Int32 × q_Mem) ⊕ (Int32 × q_Mem)} (h : J_X12_sum_31_5 rec l0 l1 M = some stp) (kC : ∀ (l1 : Int32) (M : q_Mem), stp = .inl (l1, M) → q_W K 5 Q 0 0 M 5 [some (.ref l0), some (.int l1), none, none, none] []) (kE0 : ∀ (l1 : Int32) (M : q_Mem), stp = .inr (l1, M) → q_W K 5 Q 0 0 M 84 [none, some (.int l1), none, none, none] []) : q_W K 5 Q 0 0 M 31 [some (.ref l0), some (.int l1), none, none, none] [] := by
  unfold J_X12_sum_31_5 at h
  refine q_aload_n C dX12_sum_31 rfl ?_
  obtain ⟨hk, h⟩ := q_obE h
  obtain ⟨⟨u6, M7⟩, e1, h⟩ := q_bind h
  refine x_callV0 C dX12_sum_32 lkM_X12_134 mV_X12_look ⟨_, rfl, rfl⟩ hk (c_X12_look _ _ _ _ e1) rfl rfl (Nat.le_of_ble_eq_true rfl) (⟨by omega, by decide⟩) (by decide) ?_
  refine x_bipush (v := (43 : Int32)) C dX12_sum_35 (by decide) ?_
  refine q_icmp_ne (tgt := 44) C dX12_sum_37 (by decide) h (fun _ h => ?_) (fun _ h => ?_)
  · refine x_iconst (v := (1 : Int32)) C dX12_sum_40 (by decide) ?_
    refine q_goto (tgt := 45) C dX12_sum_41 (by decide) ?_
    exact q_msk [true, true, false, false, false] (jW_X12_sum_45_5 C hr l0 l1 (1 : Int32) M7 h kC kE0)
  · refine x_iconst (v := (0 : Int32)) C dX12_sum_44 (by decide) ?_
    exact q_msk [true, true, false, false, false] (jW_X12_sum_45_5 C hr l0 l1 (0 : Int32) M7 h kC kE0)
noncomputable def B_X12_sum_5 (rec : (Nat → Nat → q_Mem → Option (Int32 × q_Mem))) (l0 : Nat) (l1 : Int32) (M : q_Mem) : Option ((Int32 × q_Mem) ⊕ (Int32 × q_Mem)) := (q_gI M l0 12 11 (fun v3 => (if v3 = (-1 : Int32) then (q_ob M l0 12 ((F_X12_look l0 M).bind (fun x => match x with | (u4, M5) => (if u4 = (43 : Int32) then J_X12_sum_31_5 rec l0 l1 M5 else (q_ob M5 l0 12 ((F_X12_look l0 M5).bind (fun x => match x with | (u13, M14) => (if u13 = (45 : Int32) then J_X12_sum_31_5 rec l0 l1 M14 else some (.inr (l1, M14)))))))))) else some (.inr (l1, M)))))
set_option maxRecDepth 100000 in
set_option maxHeartbeats 4000000 in
theorem bW_X12_sum_5 {K : q_K} {Q : State → Prop} {n0 : Nat} (C : q_C K yX12_sum cX12_sum 5 (Option.some Jvm.ClassFile.FieldType.int) (n0 + 8 + 1) 0 0) {rec : (Nat → Nat → q_Mem → Option (Int32 × q_Mem))} (hr : Hr_X12_atom n0 rec) (l0 : Nat) (l1 : Int32) (M : q_Mem) {stp : (Int32 × q_Mem) ⊕ (Int32 × q_Mem)} (h : B_X12_sum_5 rec l0 l1 M = some stp) (kC : ∀ (l1 : Int32) (M : q_Mem), stp = .inl (l1, M) → q_W K 5 Q 0 0 M 5 [some (.ref l0), some (.int l1), none, none, none] []) (kE0 : ∀ (l1 : Int32) (M : q_Mem), stp = .inr (l1, M) → q_W K 5 Q 0 0 M 84 [none, some (.int l1), none, none, none] []) : q_W K 5 Q 0 0 M 5 [some (.ref l0), some (.int l1), none, none, none] [] := by
  unfold B_X12_sum_5 at h
  refine q_aload_n C dX12_sum_5 rfl ?_
  refine x_getI (ci := 12) (j := 11) C dX12_sum_6 lkF_X12_124 rfl h (fun v3 h => ?_)
  refine x_iconst (v := (-1 : Int32)) C dX12_sum_9 (by decide) ?_
  refine q_icmp_ne (tgt := 84) C dX12_sum_10 (by decide) h (fun _ h => ?_) (fun _ h => ?_)
  · refine q_aload_n C dX12_sum_13 rfl ?_
    obtain ⟨hk, h⟩ := q_obE h
    obtain ⟨⟨u4, M5⟩, e1, h⟩ := q_bind h
    refine x_callV0 C dX12_sum_14 lkM_X12_134 mV_X12_look ⟨_, rfl, rfl⟩ hk (c_X12_look _ _ _ _ e1) rfl rfl (Nat.le_of_ble_eq_true rfl) (⟨by omega, by decide⟩) (by decide) ?_
    refine x_bipush (v := (43 : Int32)) C dX12_sum_17 (by decide) ?_
    refine q_icmp_eq (tgt := 31) C dX12_sum_19 (by decide) h (fun _ h => ?_) (fun _ h => ?_)
    · exact q_msk [true, true, false, false, false] (jW_X12_sum_31_5 C hr l0 l1 M5 h kC kE0)
    · refine q_aload_n C dX12_sum_22 rfl ?_
      obtain ⟨hk, h⟩ := q_obE h
      obtain ⟨⟨u13, M14⟩, e1, h⟩ := q_bind h
      refine x_callV0 C dX12_sum_23 lkM_X12_134 mV_X12_look ⟨_, rfl, rfl⟩ hk (c_X12_look _ _ _ _ e1) rfl rfl (Nat.le_of_ble_eq_true rfl) (⟨by omega, by decide⟩) (by decide) ?_
      refine x_bipush (v := (45 : Int32)) C dX12_sum_26 (by decide) ?_
      refine q_icmp_ne (tgt := 84) C dX12_sum_28 (by decide) h (fun _ h => ?_) (fun _ h => ?_)
      · exact q_msk [true, true, false, false, false] (jW_X12_sum_31_5 C hr l0 l1 M14 h kC kE0)
      · exact q_msk [false, true, false, false, false] (kE0 _ _ (Option.some.inj h).symm)
  · exact q_msk [false, true, false, false, false] (kE0 _ _ (Option.some.inj h).symm)
set_option maxRecDepth 100000 in
set_option maxHeartbeats 4000000 in
theorem lW_X12_sum_5 {K : q_K} {Q : State → Prop} {n0 : Nat} (C : q_C K yX12_sum cX12_sum 5 (Option.some Jvm.ClassFile.FieldType.int) (n0 + 8 + 1) 0 0) {rec : (Nat → Nat → q_Mem → Option (Int32 × q_Mem))} (hr : Hr_X12_atom n0 rec) (l0 : Nat) (n : Nat) : ∀ (l1 : Int32) (M : q_Mem) (e : (Int32 × q_Mem)), q_lp (fun s => B_X12_sum_5 rec l0 s.1 s.2) n (l1, M) = some e → (∀ (l1 : Int32) (M : q_Mem), e = (l1, M) → q_W K 5 Q 0 0 M 84 [none, some (.int l1), none, none, none] []) → q_W K 5 Q 0 0 M 5 [some (.ref l0), some (.int l1), none, none, none] [] := by
  induction n with
  | zero => intro l1 M e h; cases h
  | succ n ih =>
    intro l1 M e h kE0
    obtain ⟨stp, e1, e2⟩ := q_bind h
    refine bW_X12_sum_5 C hr l0 l1 M e1 (fun a0 a1 hs => ?_) (fun b0 b1 hs => ?_)
    · subst hs; exact ih _ _ _ e2 kE0
    · subst hs; exact kE0 _ _ (Option.some.inj e2).symm
noncomputable def F_X12_sum (rec : (Nat → Nat → q_Mem → Option (Int32 × q_Mem))) (l0 : Nat) (M : q_Mem) : Option (Int32 × q_Mem) := (q_ob M l0 12 ((rec 2 l0 M).bind (fun x => match x with | (u1, M2) => (q_lp (fun s => B_X12_sum_5 rec l0 s.1 s.2) q_fu (u1, M2)).bind (fun e15 => match e15 with | (w16, M17) => some (w16, M17)))))
set_option maxRecDepth 100000 in
set_option maxHeartbeats 4000000 in
theorem cr_X12_sum {l : Launch} {G : q_G} {n0 : Nat} {rec : (Nat → Nat → q_Mem → Option (Int32 × q_Mem))} (hr : Hr_X12_atom n0 rec) (l0 : Nat) (M : q_Mem) {r : Int32} {M' : q_Mem} (h : F_X12_sum rec l0 M = some (r, M')) : q_Met l G yX12_sum cX12_sum 5 (Option.some Jvm.ClassFile.FieldType.int) (n0 + 8 + 1) 0 0 [.ref l0] M (some (.int r)) M' := by
  unfold F_X12_sum at h
  refine q_enter [some (.ref l0), none, none, none, none] (by decide) (Nat.le_of_ble_eq_true rfl) rfl (fun K C => ?_)
  refine q_aload_n C dX12_sum_0 rfl ?_
  obtain ⟨hk, h⟩ := q_obE h
  obtain ⟨⟨u1, M2⟩, e1, h⟩ := q_bind h
  refine x_callV0 C dX12_sum_1 lkM_X12_174 mV_X12_term ⟨_, rfl, rfl⟩ hk ((hr _ _).2.2 _ _ _ _ e1) rfl rfl (Nat.le_of_ble_eq_true rfl) (⟨by omega, by decide⟩) (by decide) ?_
  refine q_istore_n (L' := [some (.ref l0), some (.int u1), none, none, none]) C dX12_sum_4 (by decide) rfl rfl ?_
  obtain ⟨e15, he, h⟩ := q_bind h
  refine q_msk [true, true, false, false, false] (lW_X12_sum_5 C hr l0 q_fu _ _ _ he (fun w16 M17 hs => ?_))
  · have hs := hs.symm
    subst hs
    refine q_iload_n C dX12_sum_84 rfl ?_
    exact q_iret C dX12_sum_85 rfl (by decide) (by decide) (Option.some.inj h)
noncomputable def J_X12_term_87_5 (rec : (Nat → Nat → q_Mem → Option (Int32 × q_Mem))) (l0 : Nat) (s0 : Int64) (M : q_Mem) : Option ((Int32 × q_Mem) ⊕ (Int32 × q_Mem)) := ((F_X12_within s0 M).bind (fun u12 => some (.inl (u12, M))))
set_option maxRecDepth 100000 in
set_option maxHeartbeats 4000000 in
theorem jW_X12_term_87_5 {K : q_K} {Q : State → Prop} {n0 : Nat} (C : q_C K yX12_term cX12_term 5 (Option.some Jvm.ClassFile.FieldType.int) (n0 + 8 + 1) 0 0) {rec : (Nat → Nat → q_Mem → Option (Int32 × q_Mem))} (hr : Hr_X12_atom n0 rec) (l0 : Nat) (s0 : Int64) (M : q_Mem) {stp : (Int32 × q_Mem) ⊕ (Int32 × q_Mem)} (h : J_X12_term_87_5 rec l0 s0 M = some stp) (kC : ∀ (l1 : Int32) (M : q_Mem), stp = .inl (l1, M) → q_W K 5 Q 0 0 M 5 [some (.ref l0), some (.int l1), none, none, none] []) (kE0 : ∀ (l1 : Int32) (M : q_Mem), stp = .inr (l1, M) → q_W K 5 Q 0 0 M 94 [none, some (.int l1), none, none, none] []) : q_W K 5 Q 0 0 M 87 [some (.ref l0), none, none, none, none] [.long s0] := by
  unfold J_X12_term_87_5 at h
  obtain ⟨u12, e1, h⟩ := q_bind h
  refine x_callS0 C dX12_term_87 lkM_X12_170 mS_X12_within (c_X12_within _ _ _ _ e1) rfl rfl (Nat.le_of_ble_eq_true rfl) (⟨by omega, by decide⟩) (by decide) ?_
  refine q_istore_n (L' := [some (.ref l0), some (.int u12), none, none, none]) C dX12_term_90 (by decide) rfl rfl ?_
  refine q_goto (tgt := 5) C dX12_term_91 (by decide) ?_
  exact q_msk [true, true, false, false, false] (kC _ _ (Option.some.inj h).symm)
noncomputable def J_X12_term_45_5 (rec : (Nat → Nat → q_Mem → Option (Int32 × q_Mem))) (l0 : Nat) (l1 : Int32) (s0 : Int32) (M : q_Mem) : Option ((Int32 × q_Mem) ⊕ (Int32 × q_Mem)) := (q_gI M l0 12 10 (fun v8 => (q_pI M l0 12 10 (v8 + (1 : Int32)) (fun M9 => (q_ob M9 l0 12 ((rec 0 l0 M9).bind (fun x => match x with | (u10, M11) => (if s0 = 0 then (if (lg_cmp u10.toInt64 (0 : Int64)) = 0 then J_X12_term_87_5 rec l0 (0 : Int64) M11 else (q_dvl l1.toInt64 u10.toInt64 (fun v13 => J_X12_term_87_5 rec l0 v13 M11))) else J_X12_term_87_5 rec l0 (l1.toInt64 * u10.toInt64) M11))))))))
set_option maxRecDepth 100000 in
set_option maxHeartbeats 4000000 in
theorem jW_X12_term_45_5 {K : q_K} {Q : State → Prop} {n0 : Nat} (C : q_C K yX12_term cX12_term 5 (Option.some Jvm.ClassFile.FieldType.int) (n0 + 8 + 1) 0 0) {rec : (Nat → Nat → q_Mem → Option (Int32 × q_Mem))} (hr : Hr_X12_atom n0 rec) (l0 : Nat) (l1 : Int32) (s0 : Int32) (M : q_Mem) {stp : (Int32 × q_Mem) ⊕ (Int32 × q_Mem)} (h : J_X12_term_45_5 rec l0 l1 s0 M = some stp) (kC : ∀ (l1 : Int32) (M : q_Mem), stp = .inl (l1, M) → q_W K 5 Q 0 0 M 5 [some (.ref l0), some (.int l1), none, none, none] []) (kE0 : ∀ (l1 : Int32) (M : q_Mem), stp = .inr (l1, M) → q_W K 5 Q 0 0 M 94 [none, some (.int l1), none, none, none] []) : q_W K 5 Q 0 0 M 45 [some (.ref l0), some (.int l1), none, none, none] [.int s0] := by
  unfold J_X12_term_45_5 at h
  refine q_istore_n (L' := [some (.ref l0), some (.int l1), some (.int s0), none, none]) C dX12_term_45 (by decide) rfl rfl ?_
  refine q_aload_n C dX12_term_46 rfl ?_
  refine q_dup C dX12_term_47 rfl ?_
  refine x_getI (ci := 12) (j := 10) C dX12_term_48 lkF_X12_115 rfl h (fun v8 h => ?_)
  refine x_iconst (v := (1 : Int32)) C dX12_term_51 (by decide) ?_
  refine q_iadd C dX12_term_52 ?_
  refine x_putI (ci := 12) (j := 10) C dX12_term_53 lkF_X12_115 (fun r hr => by cases hr; rfl) rfl h (fun M9 h => ?_)
  refine q_aload_n C dX12_term_56 rfl ?_
  obtain ⟨hk, h⟩ := q_obE h
  obtain ⟨⟨u10, M11⟩, e1, h⟩ := q_bind h
  refine x_callV C dX12_term_57 lkM_X12_167 mV_X12_atom ⟨_, rfl, rfl⟩ hk ((hr _ _).1 _ _ _ _ e1) rfl rfl (Nat.le_of_ble_eq_true rfl) (⟨by omega, by decide⟩) (by decide) ?_
  refine q_i2l C dX12_term_60 ?_
  refine q_lstore_n (L' := [some (.ref l0), some (.int l1), some (.int s0), some (.long u10.toInt64), none]) C dX12_term_61 (by decide) rfl rfl ?_
  refine q_iload_n C dX12_term_62 rfl ?_
  refine q_if_eq (tgt := 73) C dX12_term_63 (by decide) h (fun _ h => ?_) (fun _ h => ?_)
  · refine q_lload_n C dX12_term_73 rfl ?_
    refine x_lconst (v := (0 : Int64)) C dX12_term_74 (by decide) ?_
    refine q_lcmp C dX12_term_75 ?_
    refine q_if_ne (tgt := 83) C dX12_term_76 (by decide) h (fun _ h => ?_) (fun _ h => ?_)
    · refine x_lconst (v := (0 : Int64)) C dX12_term_79 (by decide) ?_
      refine q_goto (tgt := 87) C dX12_term_80 (by decide) ?_
      exact q_msk [true, false, false, false, false] (jW_X12_term_87_5 C hr l0 (0 : Int64) M11 h kC kE0)
    · refine q_iload_n C dX12_term_83 rfl ?_
      refine q_i2l C dX12_term_84 ?_
      refine q_lload_n C dX12_term_85 rfl ?_
      refine q_ldiv C dX12_term_86 h (fun v13 h => ?_)
      exact q_msk [true, false, false, false, false] (jW_X12_term_87_5 C hr l0 v13 M11 h kC kE0)
  · refine q_iload_n C dX12_term_66 rfl ?_
    refine q_i2l C dX12_term_67 ?_
    refine q_lload_n C dX12_term_68 rfl ?_
    refine q_lmul C dX12_term_69 ?_
    refine q_goto (tgt := 87) C dX12_term_70 (by decide) ?_
    exact q_msk [true, false, false, false, false] (jW_X12_term_87_5 C hr l0 (l1.toInt64 * u10.toInt64) M11 h kC kE0)
noncomputable def J_X12_term_31_5 (rec : (Nat → Nat → q_Mem → Option (Int32 × q_Mem))) (l0 : Nat) (l1 : Int32) (M : q_Mem) : Option ((Int32 × q_Mem) ⊕ (Int32 × q_Mem)) := (q_ob M l0 12 ((F_X12_look l0 M).bind (fun x => match x with | (u6, M7) => (if u6 = (42 : Int32) then J_X12_term_45_5 rec l0 l1 (1 : Int32) M7 else J_X12_term_45_5 rec l0 l1 (0 : Int32) M7))))
set_option maxRecDepth 100000 in
set_option maxHeartbeats 4000000 in
theorem jW_X12_term_31_5 {K : q_K} {Q : State → Prop} {n0 : Nat} (C : q_C K yX12_term cX12_term 5 (Option.some Jvm.ClassFile.FieldType.int) (n0 + 8 + 1) 0 0) {rec : (Nat → Nat → q_Mem → Option (Int32 × q_Mem))} (hr : Hr_X12_atom n0 rec) (l0 : Nat) (l1 : Int32) (M : q_Mem) {stp : (Int32 × q_Mem) ⊕ (Int32 × q_Mem)} (h : J_X12_term_31_5 rec l0 l1 M = some stp) (kC : ∀ (l1 : Int32) (M : q_Mem), stp = .inl (l1, M) → q_W K 5 Q 0 0 M 5 [some (.ref l0), some (.int l1), none, none, none] []) (kE0 : ∀ (l1 : Int32) (M : q_Mem), stp = .inr (l1, M) → q_W K 5 Q 0 0 M 94 [none, some (.int l1), none, none, none] []) : q_W K 5 Q 0 0 M 31 [some (.ref l0), some (.int l1), none, none, none] [] := by
  unfold J_X12_term_31_5 at h
  refine q_aload_n C dX12_term_31 rfl ?_
  obtain ⟨hk, h⟩ := q_obE h
  obtain ⟨⟨u6, M7⟩, e1, h⟩ := q_bind h
  refine x_callV0 C dX12_term_32 lkM_X12_134 mV_X12_look ⟨_, rfl, rfl⟩ hk (c_X12_look _ _ _ _ e1) rfl rfl (Nat.le_of_ble_eq_true rfl) (⟨by omega, by decide⟩) (by decide) ?_
  refine x_bipush (v := (42 : Int32)) C dX12_term_35 (by decide) ?_
  refine q_icmp_ne (tgt := 44) C dX12_term_37 (by decide) h (fun _ h => ?_) (fun _ h => ?_)
  · refine x_iconst (v := (1 : Int32)) C dX12_term_40 (by decide) ?_
    refine q_goto (tgt := 45) C dX12_term_41 (by decide) ?_
    exact q_msk [true, true, false, false, false] (jW_X12_term_45_5 C hr l0 l1 (1 : Int32) M7 h kC kE0)
  · refine x_iconst (v := (0 : Int32)) C dX12_term_44 (by decide) ?_
    exact q_msk [true, true, false, false, false] (jW_X12_term_45_5 C hr l0 l1 (0 : Int32) M7 h kC kE0)
noncomputable def B_X12_term_5 (rec : (Nat → Nat → q_Mem → Option (Int32 × q_Mem))) (l0 : Nat) (l1 : Int32) (M : q_Mem) : Option ((Int32 × q_Mem) ⊕ (Int32 × q_Mem)) := (q_gI M l0 12 11 (fun v3 => (if v3 = (-1 : Int32) then (q_ob M l0 12 ((F_X12_look l0 M).bind (fun x => match x with | (u4, M5) => (if u4 = (42 : Int32) then J_X12_term_31_5 rec l0 l1 M5 else (q_ob M5 l0 12 ((F_X12_look l0 M5).bind (fun x => match x with | (u14, M15) => (if u14 = (47 : Int32) then J_X12_term_31_5 rec l0 l1 M15 else some (.inr (l1, M15)))))))))) else some (.inr (l1, M)))))
set_option maxRecDepth 100000 in
set_option maxHeartbeats 4000000 in
theorem bW_X12_term_5 {K : q_K} {Q : State → Prop} {n0 : Nat} (C : q_C K yX12_term cX12_term 5 (Option.some Jvm.ClassFile.FieldType.int) (n0 + 8 + 1) 0 0) {rec : (Nat → Nat → q_Mem → Option (Int32 × q_Mem))} (hr : Hr_X12_atom n0 rec) (l0 : Nat) (l1 : Int32) (M : q_Mem) {stp : (Int32 × q_Mem) ⊕ (Int32 × q_Mem)} (h : B_X12_term_5 rec l0 l1 M = some stp) (kC : ∀ (l1 : Int32) (M : q_Mem), stp = .inl (l1, M) → q_W K 5 Q 0 0 M 5 [some (.ref l0), some (.int l1), none, none, none] []) (kE0 : ∀ (l1 : Int32) (M : q_Mem), stp = .inr (l1, M) → q_W K 5 Q 0 0 M 94 [none, some (.int l1), none, none, none] []) : q_W K 5 Q 0 0 M 5 [some (.ref l0), some (.int l1), none, none, none] [] := by
  unfold B_X12_term_5 at h
  refine q_aload_n C dX12_term_5 rfl ?_
  refine x_getI (ci := 12) (j := 11) C dX12_term_6 lkF_X12_124 rfl h (fun v3 h => ?_)
  refine x_iconst (v := (-1 : Int32)) C dX12_term_9 (by decide) ?_
  refine q_icmp_ne (tgt := 94) C dX12_term_10 (by decide) h (fun _ h => ?_) (fun _ h => ?_)
  · refine q_aload_n C dX12_term_13 rfl ?_
    obtain ⟨hk, h⟩ := q_obE h
    obtain ⟨⟨u4, M5⟩, e1, h⟩ := q_bind h
    refine x_callV0 C dX12_term_14 lkM_X12_134 mV_X12_look ⟨_, rfl, rfl⟩ hk (c_X12_look _ _ _ _ e1) rfl rfl (Nat.le_of_ble_eq_true rfl) (⟨by omega, by decide⟩) (by decide) ?_
    refine x_bipush (v := (42 : Int32)) C dX12_term_17 (by decide) ?_
    refine q_icmp_eq (tgt := 31) C dX12_term_19 (by decide) h (fun _ h => ?_) (fun _ h => ?_)
    · exact q_msk [true, true, false, false, false] (jW_X12_term_31_5 C hr l0 l1 M5 h kC kE0)
    · refine q_aload_n C dX12_term_22 rfl ?_
      obtain ⟨hk, h⟩ := q_obE h
      obtain ⟨⟨u14, M15⟩, e1, h⟩ := q_bind h
      refine x_callV0 C dX12_term_23 lkM_X12_134 mV_X12_look ⟨_, rfl, rfl⟩ hk (c_X12_look _ _ _ _ e1) rfl rfl (Nat.le_of_ble_eq_true rfl) (⟨by omega, by decide⟩) (by decide) ?_
      refine x_bipush (v := (47 : Int32)) C dX12_term_26 (by decide) ?_
      refine q_icmp_ne (tgt := 94) C dX12_term_28 (by decide) h (fun _ h => ?_) (fun _ h => ?_)
      · exact q_msk [true, true, false, false, false] (jW_X12_term_31_5 C hr l0 l1 M15 h kC kE0)
      · exact q_msk [false, true, false, false, false] (kE0 _ _ (Option.some.inj h).symm)
  · exact q_msk [false, true, false, false, false] (kE0 _ _ (Option.some.inj h).symm)
set_option maxRecDepth 100000 in
set_option maxHeartbeats 4000000 in
theorem lW_X12_term_5 {K : q_K} {Q : State → Prop} {n0 : Nat} (C : q_C K yX12_term cX12_term 5 (Option.some Jvm.ClassFile.FieldType.int) (n0 + 8 + 1) 0 0) {rec : (Nat → Nat → q_Mem → Option (Int32 × q_Mem))} (hr : Hr_X12_atom n0 rec) (l0 : Nat) (n : Nat) : ∀ (l1 : Int32) (M : q_Mem) (e : (Int32 × q_Mem)), q_lp (fun s => B_X12_term_5 rec l0 s.1 s.2) n (l1, M) = some e → (∀ (l1 : Int32) (M : q_Mem), e = (l1, M) → q_W K 5 Q 0 0 M 94 [none, some (.int l1), none, none, none] []) → q_W K 5 Q 0 0 M 5 [some (.ref l0), some (.int l1), none, none, none] [] := by
  induction n with
  | zero => intro l1 M e h; cases h
  | succ n ih =>
    intro l1 M e h kE0
    obtain ⟨stp, e1, e2⟩ := q_bind h
    refine bW_X12_term_5 C hr l0 l1 M e1 (fun a0 a1 hs => ?_) (fun b0 b1 hs => ?_)
    · subst hs; exact ih _ _ _ e2 kE0
    · subst hs; exact kE0 _ _ (Option.some.inj e2).symm
noncomputable def F_X12_term (rec : (Nat → Nat → q_Mem → Option (Int32 × q_Mem))) (l0 : Nat) (M : q_Mem) : Option (Int32 × q_Mem) := (q_ob M l0 12 ((rec 0 l0 M).bind (fun x => match x with | (u1, M2) => (q_lp (fun s => B_X12_term_5 rec l0 s.1 s.2) q_fu (u1, M2)).bind (fun e16 => match e16 with | (w17, M18) => some (w17, M18)))))
set_option maxRecDepth 100000 in
set_option maxHeartbeats 4000000 in
theorem cr_X12_term {l : Launch} {G : q_G} {n0 : Nat} {rec : (Nat → Nat → q_Mem → Option (Int32 × q_Mem))} (hr : Hr_X12_atom n0 rec) (l0 : Nat) (M : q_Mem) {r : Int32} {M' : q_Mem} (h : F_X12_term rec l0 M = some (r, M')) : q_Met l G yX12_term cX12_term 5 (Option.some Jvm.ClassFile.FieldType.int) (n0 + 8 + 1) 0 0 [.ref l0] M (some (.int r)) M' := by
  unfold F_X12_term at h
  refine q_enter [some (.ref l0), none, none, none, none] (by decide) (Nat.le_of_ble_eq_true rfl) rfl (fun K C => ?_)
  refine q_aload_n C dX12_term_0 rfl ?_
  obtain ⟨hk, h⟩ := q_obE h
  obtain ⟨⟨u1, M2⟩, e1, h⟩ := q_bind h
  refine x_callV C dX12_term_1 lkM_X12_167 mV_X12_atom ⟨_, rfl, rfl⟩ hk ((hr _ _).1 _ _ _ _ e1) rfl rfl (Nat.le_of_ble_eq_true rfl) (⟨by omega, by decide⟩) (by decide) ?_
  refine q_istore_n (L' := [some (.ref l0), some (.int u1), none, none, none]) C dX12_term_4 (by decide) rfl rfl ?_
  obtain ⟨e16, he, h⟩ := q_bind h
  refine q_msk [true, true, false, false, false] (lW_X12_term_5 C hr l0 q_fu _ _ _ he (fun w17 M18 hs => ?_))
  · have hs := hs.symm
    subst hs
    refine q_iload_n C dX12_term_94 rfl ?_
    exact q_iret C dX12_term_95 rfl (by decide) (by decide) (Option.some.inj h)
noncomputable def R_X12_atom : Nat → Nat → Nat → q_Mem → Option (Int32 × q_Mem)
  | 0 => fun _ _ _ => none
  | n + 1 => fun tag a0  M => match tag with | 0 => F_X12_atom (R_X12_atom n) a0 M | 1 => F_X12_sum (R_X12_atom n) a0 M | _ => F_X12_term (R_X12_atom n) a0 M
set_option maxRecDepth 100000 in
theorem Rok_X12_atom (n : Nat) : Hr_X12_atom n (R_X12_atom n) := by
  induction n with
  | zero => exact fun l G => ⟨fun a0 M r M' h => by cases h, fun a0 M r M' h => by cases h, fun a0 M r M' h => by cases h⟩
  | succ n ih => exact fun l G => ⟨fun a0 M r M' h => cr_X12_atom ih a0 M h, fun a0 M r M' h => cr_X12_sum ih a0 M h, fun a0 M r M' h => cr_X12_term ih a0 M h⟩
theorem c_X12_atom (l : Launch) (G : q_G) (a0 : Nat) (M : q_Mem) {r : Int32} {M' : q_Mem} (h : R_X12_atom 60 0 a0 M = some (r, M')) : q_Met l G yX12_atom cX12_atom 4 (Option.some Jvm.ClassFile.FieldType.int) 68 0 0 [.ref a0] M (some (.int r)) M' := (Rok_X12_atom 60 l G).1 a0 M r M' h
theorem c_X12_sum (l : Launch) (G : q_G) (a0 : Nat) (M : q_Mem) {r : Int32} {M' : q_Mem} (h : R_X12_atom 60 1 a0 M = some (r, M')) : q_Met l G yX12_sum cX12_sum 5 (Option.some Jvm.ClassFile.FieldType.int) 68 0 0 [.ref a0] M (some (.int r)) M' := (Rok_X12_atom 60 l G).2.1 a0 M r M' h
theorem c_X12_term (l : Launch) (G : q_G) (a0 : Nat) (M : q_Mem) {r : Int32} {M' : q_Mem} (h : R_X12_atom 60 2 a0 M = some (r, M')) : q_Met l G yX12_term cX12_term 5 (Option.some Jvm.ClassFile.FieldType.int) 68 0 0 [.ref a0] M (some (.int r)) M' := (Rok_X12_atom 60 l G).2.2 a0 M r M' h
noncomputable def F_X12_isSign (l0 : Int32) (M : q_Mem) : Option (Int32) := (if l0 = (61 : Int32) then q_rq (1 : Int32) else (if l0 = (60 : Int32) then q_rq (1 : Int32) else (if l0 = (62 : Int32) then q_rq (1 : Int32) else q_rq (0 : Int32))))
set_option maxRecDepth 100000 in
set_option maxHeartbeats 4000000 in
theorem c_X12_isSign (l : Launch) (G : q_G) (l0 : Int32) (M : q_Mem) {r : Int32} (h : F_X12_isSign l0 M = some r) : q_Met l G yX12_isSign cX12_isSign 1 (Option.some Jvm.ClassFile.FieldType.boolean) 1 0 0 [.int l0] M (some (.int r)) M := by
  unfold F_X12_isSign at h
  refine q_enter [some (.int l0)] (by decide) (Nat.le_of_ble_eq_true rfl) rfl (fun K C => ?_)
  refine q_iload_n C dX12_isSign_0 rfl ?_
  refine x_bipush (v := (61 : Int32)) C dX12_isSign_1 (by decide) ?_
  refine q_icmp_eq (tgt := 18) C dX12_isSign_3 (by decide) h (fun _ h => ?_) (fun _ h => ?_)
  · refine x_iconst (v := (1 : Int32)) C dX12_isSign_18 (by decide) ?_
    refine q_goto (tgt := 23) C dX12_isSign_19 (by decide) ?_
    exact q_zret (res := (r, M)) C dX12_isSign_23 rfl (by decide) (by decide) (q_rqE h).1 (congrArg (fun z => (z, M)) (q_rqE h).2)
  · refine q_iload_n C dX12_isSign_6 rfl ?_
    refine x_bipush (v := (60 : Int32)) C dX12_isSign_7 (by decide) ?_
    refine q_icmp_eq (tgt := 18) C dX12_isSign_9 (by decide) h (fun _ h => ?_) (fun _ h => ?_)
    · refine x_iconst (v := (1 : Int32)) C dX12_isSign_18 (by decide) ?_
      refine q_goto (tgt := 23) C dX12_isSign_19 (by decide) ?_
      exact q_zret (res := (r, M)) C dX12_isSign_23 rfl (by decide) (by decide) (q_rqE h).1 (congrArg (fun z => (z, M)) (q_rqE h).2)
    · refine q_iload_n C dX12_isSign_12 rfl ?_
      refine x_bipush (v := (62 : Int32)) C dX12_isSign_13 (by decide) ?_
      refine q_icmp_ne (tgt := 22) C dX12_isSign_15 (by decide) h (fun _ h => ?_) (fun _ h => ?_)
      · refine x_iconst (v := (1 : Int32)) C dX12_isSign_18 (by decide) ?_
        refine q_goto (tgt := 23) C dX12_isSign_19 (by decide) ?_
        exact q_zret (res := (r, M)) C dX12_isSign_23 rfl (by decide) (by decide) (q_rqE h).1 (congrArg (fun z => (z, M)) (q_rqE h).2)
      · refine x_iconst (v := (0 : Int32)) C dX12_isSign_22 (by decide) ?_
        exact q_zret (res := (r, M)) C dX12_isSign_23 rfl (by decide) (by decide) (q_rqE h).1 (congrArg (fun z => (z, M)) (q_rqE h).2)
noncomputable def J_X12_compares_12 (l0 : Nat) (s0 : Int32) (M : q_Mem) : Option (Int32 × q_Mem) := (q_gI M l0 12 11 (fun v3 => (if v3 = (-1 : Int32) then (q_ob M l0 12 ((F_X12_look l0 M).bind (fun x => match x with | (u4, M5) => ((F_X12_isSign u4 M5).bind (fun u6 => (if u6 = 0 then (q_ob M5 l0 12 ((F_X12_fails l0 M5).bind (fun x => match x with | (u7, M8) => q_rz u7 M8))) else (q_gI M5 l0 12 10 (fun v9 => (q_pI M5 l0 12 10 (v9 + (1 : Int32)) (fun M10 => (q_ob M10 l0 12 ((R_X12_atom 60 1 l0 M10).bind (fun x => match x with | (u11, M12) => (if u4 = (61 : Int32) then (if s0 = u11 then q_rz (1 : Int32) M12 else q_rz (0 : Int32) M12) else (if u4 = (60 : Int32) then (if s0 < u11 then q_rz (1 : Int32) M12 else q_rz (0 : Int32) M12) else (if u11 < s0 then q_rz (1 : Int32) M12 else q_rz (0 : Int32) M12)))))))))))))))) else q_rz (0 : Int32) M)))
set_option maxRecDepth 100000 in
set_option maxHeartbeats 4000000 in
theorem jW_X12_compares_12 {K : q_K} (C : q_C K yX12_compares cX12_compares 6 (Option.some Jvm.ClassFile.FieldType.boolean) 69 0 0) (l0 : Nat) (s0 : Int32) (M : q_Mem) {r : Int32} {M' : q_Mem} (h : J_X12_compares_12 l0 s0 M = some (r, M')) : q_W K 6 (q_Q K (some (.int r)) M' 0 0) 0 0 M 12 [some (.ref l0), none, none, none, none, none] [.int s0] := by
  unfold J_X12_compares_12 at h
  refine q_istore_n (L' := [some (.ref l0), none, none, some (.int s0), none, none]) C dX12_compares_12 (by decide) rfl rfl ?_
  refine q_aload_n C dX12_compares_13 rfl ?_
  refine x_getI (ci := 12) (j := 11) C dX12_compares_14 lkF_X12_124 rfl h (fun v3 h => ?_)
  refine x_iconst (v := (-1 : Int32)) C dX12_compares_17 (by decide) ?_
  refine q_icmp_eq (tgt := 23) C dX12_compares_18 (by decide) h (fun _ h => ?_) (fun _ h => ?_)
  · refine q_aload_n C dX12_compares_23 rfl ?_
    obtain ⟨hk, h⟩ := q_obE h
    obtain ⟨⟨u4, M5⟩, e1, h⟩ := q_bind h
    refine x_callV0 C dX12_compares_24 lkM_X12_134 mV_X12_look ⟨_, rfl, rfl⟩ hk (c_X12_look _ _ _ _ e1) rfl rfl (Nat.le_of_ble_eq_true rfl) (by decide) (by decide) ?_
    refine q_istore (L' := [some (.ref l0), none, none, some (.int s0), some (.int u4), none]) C dX12_compares_27 (by decide) rfl rfl ?_
    refine q_iload C dX12_compares_29 rfl ?_
    obtain ⟨u6, e1, h⟩ := q_bind h
    refine x_callS0 C dX12_compares_31 lkM_X12_177 mS_X12_isSign (c_X12_isSign _ _ _ _ e1) rfl rfl (Nat.le_of_ble_eq_true rfl) (by decide) (by decide) ?_
    refine q_if_ne (tgt := 42) C dX12_compares_34 (by decide) h (fun _ h => ?_) (fun _ h => ?_)
    · refine q_aload_n C dX12_compares_37 rfl ?_
      obtain ⟨hk, h⟩ := q_obE h
      obtain ⟨⟨u7, M8⟩, e1, h⟩ := q_bind h
      refine x_callV0 C dX12_compares_38 lkM_X12_130 mV_X12_fails ⟨_, rfl, rfl⟩ hk (c_X12_fails _ _ _ _ e1) rfl rfl (Nat.le_of_ble_eq_true rfl) (by decide) (by decide) ?_
      exact q_zret C dX12_compares_41 rfl (by decide) (by decide) (q_rzE h).1 (q_rzE h).2
    · refine q_aload_n C dX12_compares_42 rfl ?_
      refine q_dup C dX12_compares_43 rfl ?_
      refine x_getI (ci := 12) (j := 10) C dX12_compares_44 lkF_X12_115 rfl h (fun v9 h => ?_)
      refine x_iconst (v := (1 : Int32)) C dX12_compares_47 (by decide) ?_
      refine q_iadd C dX12_compares_48 ?_
      refine x_putI (ci := 12) (j := 10) C dX12_compares_49 lkF_X12_115 (fun r hr => by cases hr; rfl) rfl h (fun M10 h => ?_)
      refine q_aload_n C dX12_compares_52 rfl ?_
      obtain ⟨hk, h⟩ := q_obE h
      obtain ⟨⟨u11, M12⟩, e1, h⟩ := q_bind h
      refine x_callV0 C dX12_compares_53 lkM_X12_157 mV_X12_sum ⟨_, rfl, rfl⟩ hk (c_X12_sum _ _ _ _ e1) rfl rfl (Nat.le_of_ble_eq_true rfl) (by decide) (by decide) ?_
      refine q_istore (L' := [some (.ref l0), none, none, some (.int s0), some (.int u4), some (.int u11)]) C dX12_compares_56 (by decide) rfl rfl ?_
      refine q_iload C dX12_compares_58 rfl ?_
      refine x_bipush (v := (61 : Int32)) C dX12_compares_60 (by decide) ?_
      refine q_icmp_ne (tgt := 79) C dX12_compares_62 (by decide) h (fun _ h => ?_) (fun _ h => ?_)
      · refine q_iload_n C dX12_compares_65 rfl ?_
        refine q_iload C dX12_compares_66 rfl ?_
        refine q_icmp_ne (tgt := 75) C dX12_compares_68 (by decide) h (fun _ h => ?_) (fun _ h => ?_)
        · refine x_iconst (v := (1 : Int32)) C dX12_compares_71 (by decide) ?_
          refine q_goto (tgt := 111) C dX12_compares_72 (by decide) ?_
          exact q_zret C dX12_compares_111 rfl (by decide) (by decide) (q_rzE h).1 (q_rzE h).2
        · refine x_iconst (v := (0 : Int32)) C dX12_compares_75 (by decide) ?_
          refine q_goto (tgt := 111) C dX12_compares_76 (by decide) ?_
          exact q_zret C dX12_compares_111 rfl (by decide) (by decide) (q_rzE h).1 (q_rzE h).2
      · refine q_iload C dX12_compares_79 rfl ?_
        refine x_bipush (v := (60 : Int32)) C dX12_compares_81 (by decide) ?_
        refine q_icmp_ne (tgt := 100) C dX12_compares_83 (by decide) h (fun _ h => ?_) (fun _ h => ?_)
        · refine q_iload_n C dX12_compares_86 rfl ?_
          refine q_iload C dX12_compares_87 rfl ?_
          refine q_icmp_ge (tgt := 96) C dX12_compares_89 (by decide) h (fun _ h => ?_) (fun _ h => ?_)
          · refine x_iconst (v := (1 : Int32)) C dX12_compares_92 (by decide) ?_
            refine q_goto (tgt := 111) C dX12_compares_93 (by decide) ?_
            exact q_zret C dX12_compares_111 rfl (by decide) (by decide) (q_rzE h).1 (q_rzE h).2
          · refine x_iconst (v := (0 : Int32)) C dX12_compares_96 (by decide) ?_
            refine q_goto (tgt := 111) C dX12_compares_97 (by decide) ?_
            exact q_zret C dX12_compares_111 rfl (by decide) (by decide) (q_rzE h).1 (q_rzE h).2
        · refine q_iload_n C dX12_compares_100 rfl ?_
          refine q_iload C dX12_compares_101 rfl ?_
          refine q_icmp_le (tgt := 110) C dX12_compares_103 (by decide) h (fun _ h => ?_) (fun _ h => ?_)
          · refine x_iconst (v := (1 : Int32)) C dX12_compares_106 (by decide) ?_
            refine q_goto (tgt := 111) C dX12_compares_107 (by decide) ?_
            exact q_zret C dX12_compares_111 rfl (by decide) (by decide) (q_rzE h).1 (q_rzE h).2
          · refine x_iconst (v := (0 : Int32)) C dX12_compares_110 (by decide) ?_
            exact q_zret C dX12_compares_111 rfl (by decide) (by decide) (q_rzE h).1 (q_rzE h).2
  · refine x_iconst (v := (0 : Int32)) C dX12_compares_21 (by decide) ?_
    exact q_zret C dX12_compares_22 rfl (by decide) (by decide) (q_rzE h).1 (q_rzE h).2
noncomputable def F_X12_compares (l0 : Nat) (l1 : Int32) (l2 : Int32) (M : q_Mem) : Option (Int32 × q_Mem) := (if l1 = 0 then (q_ob M l0 12 ((R_X12_atom 60 1 l0 M).bind (fun x => match x with | (u1, M2) => J_X12_compares_12 l0 u1 M2))) else J_X12_compares_12 l0 l2 M)
set_option maxRecDepth 100000 in
set_option maxHeartbeats 4000000 in
theorem c_X12_compares (l : Launch) (G : q_G) (l0 : Nat) (l1 : Int32) (l2 : Int32) (M : q_Mem) {r : Int32} {M' : q_Mem} (h : F_X12_compares l0 l1 l2 M = some (r, M')) : q_Met l G yX12_compares cX12_compares 6 (Option.some Jvm.ClassFile.FieldType.boolean) 69 0 0 [.ref l0, .int l1, .int l2] M (some (.int r)) M' := by
  unfold F_X12_compares at h
  refine q_enter [some (.ref l0), some (.int l1), some (.int l2), none, none, none] (by decide) (Nat.le_of_ble_eq_true rfl) rfl (fun K C => ?_)
  refine q_iload_n C dX12_compares_0 rfl ?_
  refine q_if_eq (tgt := 8) C dX12_compares_1 (by decide) h (fun _ h => ?_) (fun _ h => ?_)
  · refine q_aload_n C dX12_compares_8 rfl ?_
    obtain ⟨hk, h⟩ := q_obE h
    obtain ⟨⟨u1, M2⟩, e1, h⟩ := q_bind h
    refine x_callV0 C dX12_compares_9 lkM_X12_157 mV_X12_sum ⟨_, rfl, rfl⟩ hk (c_X12_sum _ _ _ _ e1) rfl rfl (Nat.le_of_ble_eq_true rfl) (by decide) (by decide) ?_
    exact q_msk [true, false, false, false, false, false] (jW_X12_compares_12 C l0 u1 M2 h)
  · refine q_iload_n C dX12_compares_4 rfl ?_
    refine q_goto (tgt := 12) C dX12_compares_5 (by decide) ?_
    exact q_msk [true, false, false, false, false, false] (jW_X12_compares_12 C l0 l2 M h)
def Hr_X12_condition (n0 : Nat) (rec : (Nat → Nat → Int32 → Int32 → q_Mem → Option (Int32 × q_Mem))) : Prop := ∀ (l : Launch) (G : q_G), (∀ (a0 : Nat) (a1 : Int32) (a2 : Int32) (M : q_Mem) (r : Int32) (M' : q_Mem), rec 0 a0 a1 a2 M = some (r, M') → q_Met l G yX12_condition cX12_condition 5 (Option.some Jvm.ClassFile.FieldType.boolean) (n0 + 70) 0 0 [.ref a0, .int a1, .int a2] M (some (.int r)) M') ∧ (∀ (a0 : Nat) (a1 : Int32) (a2 : Int32) (M : q_Mem) (r : Int32) (M' : q_Mem), rec 1 a0 a1 a2 M = some (r, M') → q_Met l G yX12_part cX12_part 5 (Option.some Jvm.ClassFile.FieldType.boolean) (n0 + 70) 0 0 [.ref a0, .int a1, .int a2] M (some (.int r)) M') ∧ (∀ (a0 : Nat) (M : q_Mem) (r : Int32) (M' : q_Mem), rec 2 a0 0 0 M = some (r, M') → q_Met l G yX12_unit cX12_unit 3 (Option.some Jvm.ClassFile.FieldType.boolean) (n0 + 70) 0 0 [.ref a0] M (some (.int r)) M')
noncomputable def J_X12_condition_56_7 (rec : (Nat → Nat → Int32 → Int32 → q_Mem → Option (Int32 × q_Mem))) (l0 : Nat) (s0 : Int32) (M : q_Mem) : Option ((Int32 × q_Mem) ⊕ (Int32 × q_Mem)) := some (.inl (s0, M))
set_option maxRecDepth 100000 in
set_option maxHeartbeats 4000000 in
theorem jW_X12_condition_56_7 {K : q_K} {Q : State → Prop} {n0 : Nat} (C : q_C K yX12_condition cX12_condition 5 (Option.some Jvm.ClassFile.FieldType.boolean) (n0 + 70 + 1) 0 0) {rec : (Nat → Nat → Int32 → Int32 → q_Mem → Option (Int32 × q_Mem))} (hr : Hr_X12_condition n0 rec) (l0 : Nat) (s0 : Int32) (M : q_Mem) {stp : (Int32 × q_Mem) ⊕ (Int32 × q_Mem)} (h : J_X12_condition_56_7 rec l0 s0 M = some stp) (kC : ∀ (l3 : Int32) (M : q_Mem), stp = .inl (l3, M) → q_W K 5 Q 0 0 M 7 [some (.ref l0), none, none, some (.int l3), none] []) (kE0 : ∀ (l3 : Int32) (M : q_Mem), stp = .inr (l3, M) → q_W K 5 Q 0 0 M 60 [none, none, none, some (.int l3), none] []) : q_W K 5 Q 0 0 M 56 [some (.ref l0), none, none, none, none] [.int s0] := by
  unfold J_X12_condition_56_7 at h
  refine q_istore_n (L' := [some (.ref l0), none, none, some (.int s0), none]) C dX12_condition_56 (by decide) rfl rfl ?_
  refine q_goto (tgt := 7) C dX12_condition_57 (by decide) ?_
  exact q_msk [true, false, false, true, false] (kC _ _ (Option.some.inj h).symm)
noncomputable def J_X12_condition_51_7 (rec : (Nat → Nat → Int32 → Int32 → q_Mem → Option (Int32 × q_Mem))) (l0 : Nat) (M : q_Mem) : Option ((Int32 × q_Mem) ⊕ (Int32 × q_Mem)) := J_X12_condition_56_7 rec l0 (1 : Int32) M
set_option maxRecDepth 100000 in
set_option maxHeartbeats 4000000 in
theorem jW_X12_condition_51_7 {K : q_K} {Q : State → Prop} {n0 : Nat} (C : q_C K yX12_condition cX12_condition 5 (Option.some Jvm.ClassFile.FieldType.boolean) (n0 + 70 + 1) 0 0) {rec : (Nat → Nat → Int32 → Int32 → q_Mem → Option (Int32 × q_Mem))} (hr : Hr_X12_condition n0 rec) (l0 : Nat) (M : q_Mem) {stp : (Int32 × q_Mem) ⊕ (Int32 × q_Mem)} (h : J_X12_condition_51_7 rec l0 M = some stp) (kC : ∀ (l3 : Int32) (M : q_Mem), stp = .inl (l3, M) → q_W K 5 Q 0 0 M 7 [some (.ref l0), none, none, some (.int l3), none] []) (kE0 : ∀ (l3 : Int32) (M : q_Mem), stp = .inr (l3, M) → q_W K 5 Q 0 0 M 60 [none, none, none, some (.int l3), none] []) : q_W K 5 Q 0 0 M 51 [some (.ref l0), none, none, none, none] [] := by
  unfold J_X12_condition_51_7 at h
  refine x_iconst (v := (1 : Int32)) C dX12_condition_51 (by decide) ?_
  refine q_goto (tgt := 56) C dX12_condition_52 (by decide) ?_
  exact q_msk [true, false, false, false, false] (jW_X12_condition_56_7 C hr l0 (1 : Int32) M h kC kE0)
noncomputable def B_X12_condition_7 (rec : (Nat → Nat → Int32 → Int32 → q_Mem → Option (Int32 × q_Mem))) (l0 : Nat) (l3 : Int32) (M : q_Mem) : Option ((Int32 × q_Mem) ⊕ (Int32 × q_Mem)) := (q_gI M l0 12 11 (fun v3 => (if v3 = (-1 : Int32) then (q_ob M l0 12 ((F_X12_look l0 M).bind (fun x => match x with | (u4, M5) => (if u4 = (124 : Int32) then (q_gI M5 l0 12 10 (fun v6 => (q_pI M5 l0 12 10 (v6 + (1 : Int32)) (fun M7 => (q_ob M7 l0 12 ((rec 1 l0 (0 : Int32) (0 : Int32) M7).bind (fun x => match x with | (u8, M9) => (if l3 = 0 then (if u8 = 0 then J_X12_condition_56_7 rec l0 (0 : Int32) M9 else J_X12_condition_51_7 rec l0 M9) else J_X12_condition_51_7 rec l0 M9)))))))) else some (.inr (l3, M5)))))) else some (.inr (l3, M)))))
set_option maxRecDepth 100000 in
set_option maxHeartbeats 4000000 in
theorem bW_X12_condition_7 {K : q_K} {Q : State → Prop} {n0 : Nat} (C : q_C K yX12_condition cX12_condition 5 (Option.some Jvm.ClassFile.FieldType.boolean) (n0 + 70 + 1) 0 0) {rec : (Nat → Nat → Int32 → Int32 → q_Mem → Option (Int32 × q_Mem))} (hr : Hr_X12_condition n0 rec) (l0 : Nat) (l3 : Int32) (M : q_Mem) {stp : (Int32 × q_Mem) ⊕ (Int32 × q_Mem)} (h : B_X12_condition_7 rec l0 l3 M = some stp) (kC : ∀ (l3 : Int32) (M : q_Mem), stp = .inl (l3, M) → q_W K 5 Q 0 0 M 7 [some (.ref l0), none, none, some (.int l3), none] []) (kE0 : ∀ (l3 : Int32) (M : q_Mem), stp = .inr (l3, M) → q_W K 5 Q 0 0 M 60 [none, none, none, some (.int l3), none] []) : q_W K 5 Q 0 0 M 7 [some (.ref l0), none, none, some (.int l3), none] [] := by
  unfold B_X12_condition_7 at h
  refine q_aload_n C dX12_condition_7 rfl ?_
  refine x_getI (ci := 12) (j := 11) C dX12_condition_8 lkF_X12_124 rfl h (fun v3 h => ?_)
  refine x_iconst (v := (-1 : Int32)) C dX12_condition_11 (by decide) ?_
  refine q_icmp_ne (tgt := 60) C dX12_condition_12 (by decide) h (fun _ h => ?_) (fun _ h => ?_)
  · refine q_aload_n C dX12_condition_15 rfl ?_
    obtain ⟨hk, h⟩ := q_obE h
    obtain ⟨⟨u4, M5⟩, e1, h⟩ := q_bind h
    refine x_callV0 C dX12_condition_16 lkM_X12_134 mV_X12_look ⟨_, rfl, rfl⟩ hk (c_X12_look _ _ _ _ e1) rfl rfl (Nat.le_of_ble_eq_true rfl) (⟨by omega, by decide⟩) (by decide) ?_
    refine x_bipush (v := (124 : Int32)) C dX12_condition_19 (by decide) ?_
    refine q_icmp_ne (tgt := 60) C dX12_condition_21 (by decide) h (fun _ h => ?_) (fun _ h => ?_)
    · refine q_aload_n C dX12_condition_24 rfl ?_
      refine q_dup C dX12_condition_25 rfl ?_
      refine x_getI (ci := 12) (j := 10) C dX12_condition_26 lkF_X12_115 rfl h (fun v6 h => ?_)
      refine x_iconst (v := (1 : Int32)) C dX12_condition_29 (by decide) ?_
      refine q_iadd C dX12_condition_30 ?_
      refine x_putI (ci := 12) (j := 10) C dX12_condition_31 lkF_X12_115 (fun r hr => by cases hr; rfl) rfl h (fun M7 h => ?_)
      refine q_aload_n C dX12_condition_34 rfl ?_
      refine x_iconst (v := (0 : Int32)) C dX12_condition_35 (by decide) ?_
      refine x_iconst (v := (0 : Int32)) C dX12_condition_36 (by decide) ?_
      obtain ⟨hk, h⟩ := q_obE h
      obtain ⟨⟨u8, M9⟩, e1, h⟩ := q_bind h
      refine x_callV0 C dX12_condition_37 lkM_X12_190 mV_X12_part ⟨_, rfl, rfl⟩ hk ((hr _ _).2.1 _ _ _ _ _ _ e1) rfl rfl (Nat.le_of_ble_eq_true rfl) (⟨by omega, by decide⟩) (by decide) ?_
      refine q_istore (L' := [some (.ref l0), none, none, some (.int l3), some (.int u8)]) C dX12_condition_40 (by decide) rfl rfl ?_
      refine q_iload_n C dX12_condition_42 rfl ?_
      refine q_if_ne (tgt := 51) C dX12_condition_43 (by decide) h (fun _ h => ?_) (fun _ h => ?_)
      · refine q_iload C dX12_condition_46 rfl ?_
        refine q_if_eq (tgt := 55) C dX12_condition_48 (by decide) h (fun _ h => ?_) (fun _ h => ?_)
        · refine x_iconst (v := (0 : Int32)) C dX12_condition_55 (by decide) ?_
          exact q_msk [true, false, false, false, false] (jW_X12_condition_56_7 C hr l0 (0 : Int32) M9 h kC kE0)
        · exact q_msk [true, false, false, false, false] (jW_X12_condition_51_7 C hr l0 M9 h kC kE0)
      · exact q_msk [true, false, false, false, false] (jW_X12_condition_51_7 C hr l0 M9 h kC kE0)
    · exact q_msk [false, false, false, true, false] (kE0 _ _ (Option.some.inj h).symm)
  · exact q_msk [false, false, false, true, false] (kE0 _ _ (Option.some.inj h).symm)
set_option maxRecDepth 100000 in
set_option maxHeartbeats 4000000 in
theorem lW_X12_condition_7 {K : q_K} {Q : State → Prop} {n0 : Nat} (C : q_C K yX12_condition cX12_condition 5 (Option.some Jvm.ClassFile.FieldType.boolean) (n0 + 70 + 1) 0 0) {rec : (Nat → Nat → Int32 → Int32 → q_Mem → Option (Int32 × q_Mem))} (hr : Hr_X12_condition n0 rec) (l0 : Nat) (n : Nat) : ∀ (l3 : Int32) (M : q_Mem) (e : (Int32 × q_Mem)), q_lp (fun s => B_X12_condition_7 rec l0 s.1 s.2) n (l3, M) = some e → (∀ (l3 : Int32) (M : q_Mem), e = (l3, M) → q_W K 5 Q 0 0 M 60 [none, none, none, some (.int l3), none] []) → q_W K 5 Q 0 0 M 7 [some (.ref l0), none, none, some (.int l3), none] [] := by
  induction n with
  | zero => intro l3 M e h; cases h
  | succ n ih =>
    intro l3 M e h kE0
    obtain ⟨stp, e1, e2⟩ := q_bind h
    refine bW_X12_condition_7 C hr l0 l3 M e1 (fun a0 a1 hs => ?_) (fun b0 b1 hs => ?_)
    · subst hs; exact ih _ _ _ e2 kE0
    · subst hs; exact kE0 _ _ (Option.some.inj e2).symm
noncomputable def F_X12_condition (rec : (Nat → Nat → Int32 → Int32 → q_Mem → Option (Int32 × q_Mem))) (l0 : Nat) (l1 : Int32) (l2 : Int32) (M : q_Mem) : Option (Int32 × q_Mem) := (q_ob M l0 12 ((rec 1 l0 l1 l2 M).bind (fun x => match x with | (u1, M2) => (q_lp (fun s => B_X12_condition_7 rec l0 s.1 s.2) q_fu (u1, M2)).bind (fun e10 => match e10 with | (w11, M12) => q_rz w11 M12))))
set_option maxRecDepth 100000 in
set_option maxHeartbeats 4000000 in
theorem cr_X12_condition {l : Launch} {G : q_G} {n0 : Nat} {rec : (Nat → Nat → Int32 → Int32 → q_Mem → Option (Int32 × q_Mem))} (hr : Hr_X12_condition n0 rec) (l0 : Nat) (l1 : Int32) (l2 : Int32) (M : q_Mem) {r : Int32} {M' : q_Mem} (h : F_X12_condition rec l0 l1 l2 M = some (r, M')) : q_Met l G yX12_condition cX12_condition 5 (Option.some Jvm.ClassFile.FieldType.boolean) (n0 + 70 + 1) 0 0 [.ref l0, .int l1, .int l2] M (some (.int r)) M' := by
  unfold F_X12_condition at h
  refine q_enter [some (.ref l0), some (.int l1), some (.int l2), none, none] (by decide) (Nat.le_of_ble_eq_true rfl) rfl (fun K C => ?_)
  refine q_aload_n C dX12_condition_0 rfl ?_
  refine q_iload_n C dX12_condition_1 rfl ?_
  refine q_iload_n C dX12_condition_2 rfl ?_
  obtain ⟨hk, h⟩ := q_obE h
  obtain ⟨⟨u1, M2⟩, e1, h⟩ := q_bind h
  refine x_callV0 C dX12_condition_3 lkM_X12_190 mV_X12_part ⟨_, rfl, rfl⟩ hk ((hr _ _).2.1 _ _ _ _ _ _ e1) rfl rfl (Nat.le_of_ble_eq_true rfl) (⟨by omega, by decide⟩) (by decide) ?_
  refine q_istore_n (L' := [some (.ref l0), some (.int l1), some (.int l2), some (.int u1), none]) C dX12_condition_6 (by decide) rfl rfl ?_
  obtain ⟨e10, he, h⟩ := q_bind h
  refine q_msk [true, false, false, true, false] (lW_X12_condition_7 C hr l0 q_fu _ _ _ he (fun w11 M12 hs => ?_))
  · have hs := hs.symm
    subst hs
    refine q_iload_n C dX12_condition_60 rfl ?_
    exact q_zret C dX12_condition_61 rfl (by decide) (by decide) (q_rzE h).1 (q_rzE h).2
noncomputable def J_X12_part_65_18 (rec : (Nat → Nat → Int32 → Int32 → q_Mem → Option (Int32 × q_Mem))) (l0 : Nat) (s0 : Int32) (M : q_Mem) : Option ((Int32 × q_Mem) ⊕ (Int32 × q_Mem)) := some (.inl (s0, M))
set_option maxRecDepth 100000 in
set_option maxHeartbeats 4000000 in
theorem jW_X12_part_65_18 {K : q_K} {Q : State → Prop} {n0 : Nat} (C : q_C K yX12_part cX12_part 5 (Option.some Jvm.ClassFile.FieldType.boolean) (n0 + 70 + 1) 0 0) {rec : (Nat → Nat → Int32 → Int32 → q_Mem → Option (Int32 × q_Mem))} (hr : Hr_X12_condition n0 rec) (l0 : Nat) (s0 : Int32) (M : q_Mem) {stp : (Int32 × q_Mem) ⊕ (Int32 × q_Mem)} (h : J_X12_part_65_18 rec l0 s0 M = some stp) (kC : ∀ (l3 : Int32) (M : q_Mem), stp = .inl (l3, M) → q_W K 5 Q 0 0 M 18 [some (.ref l0), none, none, some (.int l3), none] []) (kE0 : ∀ (l3 : Int32) (M : q_Mem), stp = .inr (l3, M) → q_W K 5 Q 0 0 M 69 [none, none, none, some (.int l3), none] []) : q_W K 5 Q 0 0 M 65 [some (.ref l0), none, none, none, none] [.int s0] := by
  unfold J_X12_part_65_18 at h
  refine q_istore_n (L' := [some (.ref l0), none, none, some (.int s0), none]) C dX12_part_65 (by decide) rfl rfl ?_
  refine q_goto (tgt := 18) C dX12_part_66 (by decide) ?_
  exact q_msk [true, false, false, true, false] (kC _ _ (Option.some.inj h).symm)
noncomputable def J_X12_part_64_18 (rec : (Nat → Nat → Int32 → Int32 → q_Mem → Option (Int32 × q_Mem))) (l0 : Nat) (M : q_Mem) : Option ((Int32 × q_Mem) ⊕ (Int32 × q_Mem)) := J_X12_part_65_18 rec l0 (0 : Int32) M
set_option maxRecDepth 100000 in
set_option maxHeartbeats 4000000 in
theorem jW_X12_part_64_18 {K : q_K} {Q : State → Prop} {n0 : Nat} (C : q_C K yX12_part cX12_part 5 (Option.some Jvm.ClassFile.FieldType.boolean) (n0 + 70 + 1) 0 0) {rec : (Nat → Nat → Int32 → Int32 → q_Mem → Option (Int32 × q_Mem))} (hr : Hr_X12_condition n0 rec) (l0 : Nat) (M : q_Mem) {stp : (Int32 × q_Mem) ⊕ (Int32 × q_Mem)} (h : J_X12_part_64_18 rec l0 M = some stp) (kC : ∀ (l3 : Int32) (M : q_Mem), stp = .inl (l3, M) → q_W K 5 Q 0 0 M 18 [some (.ref l0), none, none, some (.int l3), none] []) (kE0 : ∀ (l3 : Int32) (M : q_Mem), stp = .inr (l3, M) → q_W K 5 Q 0 0 M 69 [none, none, none, some (.int l3), none] []) : q_W K 5 Q 0 0 M 64 [some (.ref l0), none, none, none, none] [] := by
  unfold J_X12_part_64_18 at h
  refine x_iconst (v := (0 : Int32)) C dX12_part_64 (by decide) ?_
  exact q_msk [true, false, false, false, false] (jW_X12_part_65_18 C hr l0 (0 : Int32) M h kC kE0)
noncomputable def B_X12_part_18 (rec : (Nat → Nat → Int32 → Int32 → q_Mem → Option (Int32 × q_Mem))) (l0 : Nat) (l3 : Int32) (M : q_Mem) : Option ((Int32 × q_Mem) ⊕ (Int32 × q_Mem)) := (q_gI M l0 12 11 (fun v3 => (if v3 = (-1 : Int32) then (q_ob M l0 12 ((F_X12_look l0 M).bind (fun x => match x with | (u4, M5) => (if u4 = (38 : Int32) then (q_gI M5 l0 12 10 (fun v6 => (q_pI M5 l0 12 10 (v6 + (1 : Int32)) (fun M7 => (q_ob M7 l0 12 ((rec 2 l0 0 0 M7).bind (fun x => match x with | (u8, M9) => (if l3 = 0 then J_X12_part_64_18 rec l0 M9 else (if u8 = 0 then J_X12_part_64_18 rec l0 M9 else J_X12_part_65_18 rec l0 (1 : Int32) M9))))))))) else some (.inr (l3, M5)))))) else some (.inr (l3, M)))))
set_option maxRecDepth 100000 in
set_option maxHeartbeats 4000000 in
theorem bW_X12_part_18 {K : q_K} {Q : State → Prop} {n0 : Nat} (C : q_C K yX12_part cX12_part 5 (Option.some Jvm.ClassFile.FieldType.boolean) (n0 + 70 + 1) 0 0) {rec : (Nat → Nat → Int32 → Int32 → q_Mem → Option (Int32 × q_Mem))} (hr : Hr_X12_condition n0 rec) (l0 : Nat) (l3 : Int32) (M : q_Mem) {stp : (Int32 × q_Mem) ⊕ (Int32 × q_Mem)} (h : B_X12_part_18 rec l0 l3 M = some stp) (kC : ∀ (l3 : Int32) (M : q_Mem), stp = .inl (l3, M) → q_W K 5 Q 0 0 M 18 [some (.ref l0), none, none, some (.int l3), none] []) (kE0 : ∀ (l3 : Int32) (M : q_Mem), stp = .inr (l3, M) → q_W K 5 Q 0 0 M 69 [none, none, none, some (.int l3), none] []) : q_W K 5 Q 0 0 M 18 [some (.ref l0), none, none, some (.int l3), none] [] := by
  unfold B_X12_part_18 at h
  refine q_aload_n C dX12_part_18 rfl ?_
  refine x_getI (ci := 12) (j := 11) C dX12_part_19 lkF_X12_124 rfl h (fun v3 h => ?_)
  refine x_iconst (v := (-1 : Int32)) C dX12_part_22 (by decide) ?_
  refine q_icmp_ne (tgt := 69) C dX12_part_23 (by decide) h (fun _ h => ?_) (fun _ h => ?_)
  · refine q_aload_n C dX12_part_26 rfl ?_
    obtain ⟨hk, h⟩ := q_obE h
    obtain ⟨⟨u4, M5⟩, e1, h⟩ := q_bind h
    refine x_callV0 C dX12_part_27 lkM_X12_134 mV_X12_look ⟨_, rfl, rfl⟩ hk (c_X12_look _ _ _ _ e1) rfl rfl (Nat.le_of_ble_eq_true rfl) (⟨by omega, by decide⟩) (by decide) ?_
    refine x_bipush (v := (38 : Int32)) C dX12_part_30 (by decide) ?_
    refine q_icmp_ne (tgt := 69) C dX12_part_32 (by decide) h (fun _ h => ?_) (fun _ h => ?_)
    · refine q_aload_n C dX12_part_35 rfl ?_
      refine q_dup C dX12_part_36 rfl ?_
      refine x_getI (ci := 12) (j := 10) C dX12_part_37 lkF_X12_115 rfl h (fun v6 h => ?_)
      refine x_iconst (v := (1 : Int32)) C dX12_part_40 (by decide) ?_
      refine q_iadd C dX12_part_41 ?_
      refine x_putI (ci := 12) (j := 10) C dX12_part_42 lkF_X12_115 (fun r hr => by cases hr; rfl) rfl h (fun M7 h => ?_)
      refine q_aload_n C dX12_part_45 rfl ?_
      obtain ⟨hk, h⟩ := q_obE h
      obtain ⟨⟨u8, M9⟩, e1, h⟩ := q_bind h
      refine x_callV0 C dX12_part_46 lkM_X12_180 mV_X12_unit ⟨_, rfl, rfl⟩ hk ((hr _ _).2.2 _ _ _ _ e1) rfl rfl (Nat.le_of_ble_eq_true rfl) (⟨by omega, by decide⟩) (by decide) ?_
      refine q_istore (L' := [some (.ref l0), none, none, some (.int l3), some (.int u8)]) C dX12_part_49 (by decide) rfl rfl ?_
      refine q_iload_n C dX12_part_51 rfl ?_
      refine q_if_eq (tgt := 64) C dX12_part_52 (by decide) h (fun _ h => ?_) (fun _ h => ?_)
      · exact q_msk [true, false, false, false, false] (jW_X12_part_64_18 C hr l0 M9 h kC kE0)
      · refine q_iload C dX12_part_55 rfl ?_
        refine q_if_eq (tgt := 64) C dX12_part_57 (by decide) h (fun _ h => ?_) (fun _ h => ?_)
        · exact q_msk [true, false, false, false, false] (jW_X12_part_64_18 C hr l0 M9 h kC kE0)
        · refine x_iconst (v := (1 : Int32)) C dX12_part_60 (by decide) ?_
          refine q_goto (tgt := 65) C dX12_part_61 (by decide) ?_
          exact q_msk [true, false, false, false, false] (jW_X12_part_65_18 C hr l0 (1 : Int32) M9 h kC kE0)
    · exact q_msk [false, false, false, true, false] (kE0 _ _ (Option.some.inj h).symm)
  · exact q_msk [false, false, false, true, false] (kE0 _ _ (Option.some.inj h).symm)
set_option maxRecDepth 100000 in
set_option maxHeartbeats 4000000 in
theorem lW_X12_part_18 {K : q_K} {Q : State → Prop} {n0 : Nat} (C : q_C K yX12_part cX12_part 5 (Option.some Jvm.ClassFile.FieldType.boolean) (n0 + 70 + 1) 0 0) {rec : (Nat → Nat → Int32 → Int32 → q_Mem → Option (Int32 × q_Mem))} (hr : Hr_X12_condition n0 rec) (l0 : Nat) (n : Nat) : ∀ (l3 : Int32) (M : q_Mem) (e : (Int32 × q_Mem)), q_lp (fun s => B_X12_part_18 rec l0 s.1 s.2) n (l3, M) = some e → (∀ (l3 : Int32) (M : q_Mem), e = (l3, M) → q_W K 5 Q 0 0 M 69 [none, none, none, some (.int l3), none] []) → q_W K 5 Q 0 0 M 18 [some (.ref l0), none, none, some (.int l3), none] [] := by
  induction n with
  | zero => intro l3 M e h; cases h
  | succ n ih =>
    intro l3 M e h kE0
    obtain ⟨stp, e1, e2⟩ := q_bind h
    refine bW_X12_part_18 C hr l0 l3 M e1 (fun a0 a1 hs => ?_) (fun b0 b1 hs => ?_)
    · subst hs; exact ih _ _ _ e2 kE0
    · subst hs; exact kE0 _ _ (Option.some.inj e2).symm
noncomputable def J_X12_part_17 (rec : (Nat → Nat → Int32 → Int32 → q_Mem → Option (Int32 × q_Mem))) (l0 : Nat) (s0 : Int32) (M : q_Mem) : Option (Int32 × q_Mem) := (q_lp (fun s => B_X12_part_18 rec l0 s.1 s.2) q_fu (s0, M)).bind (fun e10 => match e10 with | (w11, M12) => q_rz w11 M12)
set_option maxRecDepth 100000 in
set_option maxHeartbeats 4000000 in
theorem jW_X12_part_17 {K : q_K} {n0 : Nat} (C : q_C K yX12_part cX12_part 5 (Option.some Jvm.ClassFile.FieldType.boolean) (n0 + 70 + 1) 0 0) {rec : (Nat → Nat → Int32 → Int32 → q_Mem → Option (Int32 × q_Mem))} (hr : Hr_X12_condition n0 rec) (l0 : Nat) (s0 : Int32) (M : q_Mem) {r : Int32} {M' : q_Mem} (h : J_X12_part_17 rec l0 s0 M = some (r, M')) : q_W K 5 (q_Q K (some (.int r)) M' 0 0) 0 0 M 17 [some (.ref l0), none, none, none, none] [.int s0] := by
  unfold J_X12_part_17 at h
  refine q_istore_n (L' := [some (.ref l0), none, none, some (.int s0), none]) C dX12_part_17 (by decide) rfl rfl ?_
  obtain ⟨e10, he, h⟩ := q_bind h
  refine q_msk [true, false, false, true, false] (lW_X12_part_18 C hr l0 q_fu _ _ _ he (fun w11 M12 hs => ?_))
  · have hs := hs.symm
    subst hs
    refine q_iload_n C dX12_part_69 rfl ?_
    exact q_zret C dX12_part_70 rfl (by decide) (by decide) (q_rzE h).1 (q_rzE h).2
noncomputable def F_X12_part (rec : (Nat → Nat → Int32 → Int32 → q_Mem → Option (Int32 × q_Mem))) (l0 : Nat) (l1 : Int32) (l2 : Int32) (M : q_Mem) : Option (Int32 × q_Mem) := (if l1 = 0 then (q_ob M l0 12 ((rec 2 l0 0 0 M).bind (fun x => match x with | (u1, M2) => J_X12_part_17 rec l0 u1 M2))) else (q_ob M l0 12 ((F_X12_compares l0 (1 : Int32) l2 M).bind (fun x => match x with | (u13, M14) => J_X12_part_17 rec l0 u13 M14))))
set_option maxRecDepth 100000 in
set_option maxHeartbeats 4000000 in
theorem cr_X12_part {l : Launch} {G : q_G} {n0 : Nat} {rec : (Nat → Nat → Int32 → Int32 → q_Mem → Option (Int32 × q_Mem))} (hr : Hr_X12_condition n0 rec) (l0 : Nat) (l1 : Int32) (l2 : Int32) (M : q_Mem) {r : Int32} {M' : q_Mem} (h : F_X12_part rec l0 l1 l2 M = some (r, M')) : q_Met l G yX12_part cX12_part 5 (Option.some Jvm.ClassFile.FieldType.boolean) (n0 + 70 + 1) 0 0 [.ref l0, .int l1, .int l2] M (some (.int r)) M' := by
  unfold F_X12_part at h
  refine q_enter [some (.ref l0), some (.int l1), some (.int l2), none, none] (by decide) (Nat.le_of_ble_eq_true rfl) rfl (fun K C => ?_)
  refine q_iload_n C dX12_part_0 rfl ?_
  refine q_if_eq (tgt := 13) C dX12_part_1 (by decide) h (fun _ h => ?_) (fun _ h => ?_)
  · refine q_aload_n C dX12_part_13 rfl ?_
    obtain ⟨hk, h⟩ := q_obE h
    obtain ⟨⟨u1, M2⟩, e1, h⟩ := q_bind h
    refine x_callV0 C dX12_part_14 lkM_X12_180 mV_X12_unit ⟨_, rfl, rfl⟩ hk ((hr _ _).2.2 _ _ _ _ e1) rfl rfl (Nat.le_of_ble_eq_true rfl) (⟨by omega, by decide⟩) (by decide) ?_
    exact q_msk [true, false, false, false, false] (jW_X12_part_17 C hr l0 u1 M2 h)
  · refine q_aload_n C dX12_part_4 rfl ?_
    refine x_iconst (v := (1 : Int32)) C dX12_part_5 (by decide) ?_
    refine q_iload_n C dX12_part_6 rfl ?_
    obtain ⟨hk, h⟩ := q_obE h
    obtain ⟨⟨u13, M14⟩, e1, h⟩ := q_bind h
    refine x_callV0 C dX12_part_7 lkM_X12_187 mV_X12_compares ⟨_, rfl, rfl⟩ hk (c_X12_compares _ _ _ _ _ _ e1) rfl rfl (Nat.le_of_ble_eq_true rfl) (⟨by omega, by decide⟩) (by decide) ?_
    refine q_goto (tgt := 17) C dX12_part_10 (by decide) ?_
    exact q_msk [true, false, false, false, false] (jW_X12_part_17 C hr l0 u13 M14 h)
noncomputable def F_X12_unit (rec : (Nat → Nat → Int32 → Int32 → q_Mem → Option (Int32 × q_Mem))) (l0 : Nat) (M : q_Mem) : Option (Int32 × q_Mem) := (q_ob M l0 12 ((F_X12_look l0 M).bind (fun x => match x with | (u1, M2) => (if u1 = (33 : Int32) then (q_ob M2 l0 12 ((F_X12_goesIn l0 M2).bind (fun x => match x with | (u3, M4) => (if u3 = 0 then q_rz (0 : Int32) M4 else (q_ob M4 l0 12 ((rec 2 l0 0 0 M4).bind (fun x => match x with | (u5, M6) => (q_gI M6 l0 12 12 (fun v7 => (q_pI M6 l0 12 12 (v7 - (1 : Int32)) (fun M8 => (if u5 = 0 then q_rz (1 : Int32) M8 else q_rz (0 : Int32) M8)))))))))))) else (if u1 = (40 : Int32) then (q_ob M2 l0 12 ((F_X12_goesIn l0 M2).bind (fun x => match x with | (u9, M10) => (if u9 = 0 then q_rz (0 : Int32) M10 else (q_ob M10 l0 12 ((rec 0 l0 (0 : Int32) (0 : Int32) M10).bind (fun x => match x with | (u11, M12) => (q_ob M12 l0 12 ((F_X12_takes l0 (41 : Int32) M12).bind (fun x => match x with | (u13, M14) => (if u13 = 0 then q_rz (0 : Int32) M14 else (q_gI M14 l0 12 12 (fun v15 => (q_pI M14 l0 12 12 (v15 - (1 : Int32)) (fun M16 => q_rz u11 M16))))))))))))))) else (q_ob M2 l0 12 ((F_X12_compares l0 (0 : Int32) (0 : Int32) M2).bind (fun x => match x with | (u17, M18) => q_rz u17 M18))))))))
set_option maxRecDepth 100000 in
set_option maxHeartbeats 4000000 in
theorem cr_X12_unit {l : Launch} {G : q_G} {n0 : Nat} {rec : (Nat → Nat → Int32 → Int32 → q_Mem → Option (Int32 × q_Mem))} (hr : Hr_X12_condition n0 rec) (l0 : Nat) (M : q_Mem) {r : Int32} {M' : q_Mem} (h : F_X12_unit rec l0 M = some (r, M')) : q_Met l G yX12_unit cX12_unit 3 (Option.some Jvm.ClassFile.FieldType.boolean) (n0 + 70 + 1) 0 0 [.ref l0] M (some (.int r)) M' := by
  unfold F_X12_unit at h
  refine q_enter [some (.ref l0), none, none] (by decide) (Nat.le_of_ble_eq_true rfl) rfl (fun K C => ?_)
  refine q_aload_n C dX12_unit_0 rfl ?_
  obtain ⟨hk, h⟩ := q_obE h
  obtain ⟨⟨u1, M2⟩, e1, h⟩ := q_bind h
  refine x_callV0 C dX12_unit_1 lkM_X12_134 mV_X12_look ⟨_, rfl, rfl⟩ hk (c_X12_look _ _ _ _ e1) rfl rfl (Nat.le_of_ble_eq_true rfl) (⟨by omega, by decide⟩) (by decide) ?_
  refine q_istore_n (L' := [some (.ref l0), some (.int u1), none]) C dX12_unit_4 (by decide) rfl rfl ?_
  refine q_iload_n C dX12_unit_5 rfl ?_
  refine x_bipush (v := (33 : Int32)) C dX12_unit_6 (by decide) ?_
  refine q_icmp_ne (tgt := 45) C dX12_unit_8 (by decide) h (fun _ h => ?_) (fun _ h => ?_)
  · refine q_aload_n C dX12_unit_11 rfl ?_
    obtain ⟨hk, h⟩ := q_obE h
    obtain ⟨⟨u3, M4⟩, e1, h⟩ := q_bind h
    refine x_callV0 C dX12_unit_12 lkM_X12_154 mV_X12_goesIn ⟨_, rfl, rfl⟩ hk (c_X12_goesIn _ _ _ _ e1) rfl rfl (Nat.le_of_ble_eq_true rfl) (⟨by omega, by decide⟩) (by decide) ?_
    refine q_if_ne (tgt := 20) C dX12_unit_15 (by decide) h (fun _ h => ?_) (fun _ h => ?_)
    · refine x_iconst (v := (0 : Int32)) C dX12_unit_18 (by decide) ?_
      exact q_zret C dX12_unit_19 rfl (by decide) (by decide) (q_rzE h).1 (q_rzE h).2
    · refine q_aload_n C dX12_unit_20 rfl ?_
      obtain ⟨hk, h⟩ := q_obE h
      obtain ⟨⟨u5, M6⟩, e1, h⟩ := q_bind h
      refine x_callV0 C dX12_unit_21 lkM_X12_180 mV_X12_unit ⟨_, rfl, rfl⟩ hk ((hr _ _).2.2 _ _ _ _ e1) rfl rfl (Nat.le_of_ble_eq_true rfl) (⟨by omega, by decide⟩) (by decide) ?_
      refine q_istore_n (L' := [some (.ref l0), some (.int u1), some (.int u5)]) C dX12_unit_24 (by decide) rfl rfl ?_
      refine q_aload_n C dX12_unit_25 rfl ?_
      refine q_dup C dX12_unit_26 rfl ?_
      refine x_getI (ci := 12) (j := 12) C dX12_unit_27 lkF_X12_127 rfl h (fun v7 h => ?_)
      refine x_iconst (v := (1 : Int32)) C dX12_unit_30 (by decide) ?_
      refine q_isub C dX12_unit_31 ?_
      refine x_putI (ci := 12) (j := 12) C dX12_unit_32 lkF_X12_127 (fun r hr => by cases hr; rfl) rfl h (fun M8 h => ?_)
      refine q_iload_n C dX12_unit_35 rfl ?_
      refine q_if_ne (tgt := 43) C dX12_unit_36 (by decide) h (fun _ h => ?_) (fun _ h => ?_)
      · refine x_iconst (v := (1 : Int32)) C dX12_unit_39 (by decide) ?_
        refine q_goto (tgt := 44) C dX12_unit_40 (by decide) ?_
        exact q_zret C dX12_unit_44 rfl (by decide) (by decide) (q_rzE h).1 (q_rzE h).2
      · refine x_iconst (v := (0 : Int32)) C dX12_unit_43 (by decide) ?_
        exact q_zret C dX12_unit_44 rfl (by decide) (by decide) (q_rzE h).1 (q_rzE h).2
  · refine q_iload_n C dX12_unit_45 rfl ?_
    refine x_bipush (v := (40 : Int32)) C dX12_unit_46 (by decide) ?_
    refine q_icmp_ne (tgt := 90) C dX12_unit_48 (by decide) h (fun _ h => ?_) (fun _ h => ?_)
    · refine q_aload_n C dX12_unit_51 rfl ?_
      obtain ⟨hk, h⟩ := q_obE h
      obtain ⟨⟨u9, M10⟩, e1, h⟩ := q_bind h
      refine x_callV0 C dX12_unit_52 lkM_X12_154 mV_X12_goesIn ⟨_, rfl, rfl⟩ hk (c_X12_goesIn _ _ _ _ e1) rfl rfl (Nat.le_of_ble_eq_true rfl) (⟨by omega, by decide⟩) (by decide) ?_
      refine q_if_ne (tgt := 60) C dX12_unit_55 (by decide) h (fun _ h => ?_) (fun _ h => ?_)
      · refine x_iconst (v := (0 : Int32)) C dX12_unit_58 (by decide) ?_
        exact q_zret C dX12_unit_59 rfl (by decide) (by decide) (q_rzE h).1 (q_rzE h).2
      · refine q_aload_n C dX12_unit_60 rfl ?_
        refine x_iconst (v := (0 : Int32)) C dX12_unit_61 (by decide) ?_
        refine x_iconst (v := (0 : Int32)) C dX12_unit_62 (by decide) ?_
        obtain ⟨hk, h⟩ := q_obE h
        obtain ⟨⟨u11, M12⟩, e1, h⟩ := q_bind h
        refine x_callV0 C dX12_unit_63 lkM_X12_183 mV_X12_condition ⟨_, rfl, rfl⟩ hk ((hr _ _).1 _ _ _ _ _ _ e1) rfl rfl (Nat.le_of_ble_eq_true rfl) (⟨by omega, by decide⟩) (by decide) ?_
        refine q_istore_n (L' := [some (.ref l0), some (.int u1), some (.int u11)]) C dX12_unit_66 (by decide) rfl rfl ?_
        refine q_aload_n C dX12_unit_67 rfl ?_
        refine x_bipush (v := (41 : Int32)) C dX12_unit_68 (by decide) ?_
        obtain ⟨hk, h⟩ := q_obE h
        obtain ⟨⟨u13, M14⟩, e1, h⟩ := q_bind h
        refine x_callV0 C dX12_unit_70 lkM_X12_160 mV_X12_takes ⟨_, rfl, rfl⟩ hk (c_X12_takes _ _ _ _ _ e1) rfl rfl (Nat.le_of_ble_eq_true rfl) (⟨by omega, by decide⟩) (by decide) ?_
        refine q_if_ne (tgt := 78) C dX12_unit_73 (by decide) h (fun _ h => ?_) (fun _ h => ?_)
        · refine x_iconst (v := (0 : Int32)) C dX12_unit_76 (by decide) ?_
          exact q_zret C dX12_unit_77 rfl (by decide) (by decide) (q_rzE h).1 (q_rzE h).2
        · refine q_aload_n C dX12_unit_78 rfl ?_
          refine q_dup C dX12_unit_79 rfl ?_
          refine x_getI (ci := 12) (j := 12) C dX12_unit_80 lkF_X12_127 rfl h (fun v15 h => ?_)
          refine x_iconst (v := (1 : Int32)) C dX12_unit_83 (by decide) ?_
          refine q_isub C dX12_unit_84 ?_
          refine x_putI (ci := 12) (j := 12) C dX12_unit_85 lkF_X12_127 (fun r hr => by cases hr; rfl) rfl h (fun M16 h => ?_)
          refine q_iload_n C dX12_unit_88 rfl ?_
          exact q_zret C dX12_unit_89 rfl (by decide) (by decide) (q_rzE h).1 (q_rzE h).2
    · refine q_aload_n C dX12_unit_90 rfl ?_
      refine x_iconst (v := (0 : Int32)) C dX12_unit_91 (by decide) ?_
      refine x_iconst (v := (0 : Int32)) C dX12_unit_92 (by decide) ?_
      obtain ⟨hk, h⟩ := q_obE h
      obtain ⟨⟨u17, M18⟩, e1, h⟩ := q_bind h
      refine x_callV0 C dX12_unit_93 lkM_X12_187 mV_X12_compares ⟨_, rfl, rfl⟩ hk (c_X12_compares _ _ _ _ _ _ e1) rfl rfl (Nat.le_of_ble_eq_true rfl) (⟨by omega, by decide⟩) (by decide) ?_
      exact q_zret C dX12_unit_96 rfl (by decide) (by decide) (q_rzE h).1 (q_rzE h).2
noncomputable def R_X12_condition : Nat → Nat → Nat → Int32 → Int32 → q_Mem → Option (Int32 × q_Mem)
  | 0 => fun _ _ _ _ _ => none
  | n + 1 => fun tag a0 b0 b1 M => match tag with | 0 => F_X12_condition (R_X12_condition n) a0 b0 b1 M | 1 => F_X12_part (R_X12_condition n) a0 b0 b1 M | _ => F_X12_unit (R_X12_condition n) a0 M
set_option maxRecDepth 100000 in
theorem Rok_X12_condition (n : Nat) : Hr_X12_condition n (R_X12_condition n) := by
  induction n with
  | zero => exact fun l G => ⟨fun a0 a1 a2 M r M' h => by cases h, fun a0 a1 a2 M r M' h => by cases h, fun a0 M r M' h => by cases h⟩
  | succ n ih => exact fun l G => ⟨fun a0 a1 a2 M r M' h => cr_X12_condition ih a0 a1 a2 M h, fun a0 a1 a2 M r M' h => cr_X12_part ih a0 a1 a2 M h, fun a0 M r M' h => cr_X12_unit ih a0 M h⟩
theorem c_X12_condition (l : Launch) (G : q_G) (a0 : Nat) (a1 : Int32) (a2 : Int32) (M : q_Mem) {r : Int32} {M' : q_Mem} (h : R_X12_condition 60 0 a0 a1 a2 M = some (r, M')) : q_Met l G yX12_condition cX12_condition 5 (Option.some Jvm.ClassFile.FieldType.boolean) 130 0 0 [.ref a0, .int a1, .int a2] M (some (.int r)) M' := (Rok_X12_condition 60 l G).1 a0 a1 a2 M r M' h
theorem c_X12_part (l : Launch) (G : q_G) (a0 : Nat) (a1 : Int32) (a2 : Int32) (M : q_Mem) {r : Int32} {M' : q_Mem} (h : R_X12_condition 60 1 a0 a1 a2 M = some (r, M')) : q_Met l G yX12_part cX12_part 5 (Option.some Jvm.ClassFile.FieldType.boolean) 130 0 0 [.ref a0, .int a1, .int a2] M (some (.int r)) M' := (Rok_X12_condition 60 l G).2.1 a0 a1 a2 M r M' h
theorem c_X12_unit (l : Launch) (G : q_G) (a0 : Nat) (M : q_Mem) {r : Int32} {M' : q_Mem} (h : R_X12_condition 60 2 a0 0 0 M = some (r, M')) : q_Met l G yX12_unit cX12_unit 3 (Option.some Jvm.ClassFile.FieldType.boolean) 130 0 0 [.ref a0] M (some (.int r)) M' := (Rok_X12_condition 60 l G).2.2 a0 M r M' h
noncomputable def J_X12_clause_134 (l0 : Nat) (l1 : Int32) (l2 : Int32) (l3 : Int32) (M : q_Mem) : Option (Unit × q_Mem) := (q_gI M l0 12 11 (fun v19 => (if v19 = (-1 : Int32) then (q_gI M l0 12 17 (fun v20 => (if v20 = 0 then (q_gI M l0 12 13 (fun v21 => (if l1 = v21 then (if l2 = 0 then some ((), M) else (q_pZ M l0 12 17 (1 : Int32) (fun M22 => (q_pI M22 l0 12 14 l3 (fun M23 => some ((), M23)))))) else some ((), M)))) else some ((), M)))) else some ((), M))))
set_option maxRecDepth 100000 in
set_option maxHeartbeats 4000000 in
theorem jW_X12_clause_134 {K : q_K} (C : q_C K yX12_clause cX12_clause 5 (Option.none : Option Jvm.ClassFile.FieldType) 131 1 0) (l0 : Nat) (l1 : Int32) (l2 : Int32) (l3 : Int32) (M : q_Mem) {r : Unit} {M' : q_Mem} (h : J_X12_clause_134 l0 l1 l2 l3 M = some (r, M')) : q_W K 5 (q_Q K none M' 1 0) 0 0 M 134 [some (.ref l0), some (.int l1), some (.int l2), some (.int l3), none] [] := by
  unfold J_X12_clause_134 at h
  refine q_aload_n C dX12_clause_134 rfl ?_
  refine x_getI (ci := 12) (j := 11) C dX12_clause_135 lkF_X12_124 rfl h (fun v19 h => ?_)
  refine x_iconst (v := (-1 : Int32)) C dX12_clause_138 (by decide) ?_
  refine q_icmp_ne (tgt := 161) C dX12_clause_139 (by decide) h (fun _ h => ?_) (fun _ h => ?_)
  · refine q_aload_n C dX12_clause_142 rfl ?_
    refine x_getI (ci := 12) (j := 17) C dX12_clause_143 lkF_X12_193 rfl h (fun v20 h => ?_)
    refine q_if_ne (tgt := 161) C dX12_clause_146 (by decide) h (fun _ h => ?_) (fun _ h => ?_)
    · refine q_iload_n C dX12_clause_149 rfl ?_
      refine q_aload_n C dX12_clause_150 rfl ?_
      refine x_getI (ci := 12) (j := 13) C dX12_clause_151 lkF_X12_197 rfl h (fun v21 h => ?_)
      refine q_icmp_ne (tgt := 161) C dX12_clause_154 (by decide) h (fun _ h => ?_) (fun _ h => ?_)
      · refine q_iload_n C dX12_clause_157 rfl ?_
        refine q_if_ne (tgt := 162) C dX12_clause_158 (by decide) h (fun _ h => ?_) (fun _ h => ?_)
        · exact q_vret C dX12_clause_161 rfl (by decide) (by decide) (Option.some.inj h)
        · refine q_aload_n C dX12_clause_162 rfl ?_
          refine x_iconst (v := (1 : Int32)) C dX12_clause_163 (by decide) ?_
          refine x_putZ (ci := 12) (j := 17) C dX12_clause_164 lkF_X12_193 (fun r hr => by cases hr; rfl) rfl h (fun M22 h => ?_)
          refine q_aload_n C dX12_clause_167 rfl ?_
          refine q_iload_n C dX12_clause_168 rfl ?_
          refine x_putI (ci := 12) (j := 14) C dX12_clause_169 lkF_X12_200 (fun r hr => by cases hr; rfl) rfl h (fun M23 h => ?_)
          exact q_vret C dX12_clause_172 rfl (by decide) (by decide) (Option.some.inj h)
      · exact q_vret C dX12_clause_161 rfl (by decide) (by decide) (Option.some.inj h)
    · exact q_vret C dX12_clause_161 rfl (by decide) (by decide) (Option.some.inj h)
  · exact q_vret C dX12_clause_161 rfl (by decide) (by decide) (Option.some.inj h)
noncomputable def J_X12_clause_64 (l0 : Nat) (l1 : Int32) (M : q_Mem) : Option (Unit × q_Mem) := (q_ob M l0 12 ((R_X12_condition 60 0 l0 (0 : Int32) (0 : Int32) M).bind (fun x => match x with | (u13, M14) => (q_ob M14 l0 12 ((F_X12_takes l0 (63 : Int32) M14).bind (fun x => match x with | (u15, M16) => (if u15 = 0 then some ((), M16) else (q_ob M16 l0 12 ((R_X12_atom 60 1 l0 M16).bind (fun x => match x with | (u17, M18) => J_X12_clause_134 l0 l1 u13 u17 M18))))))))))
set_option maxRecDepth 100000 in
set_option maxHeartbeats 4000000 in
theorem jW_X12_clause_64 {K : q_K} (C : q_C K yX12_clause cX12_clause 5 (Option.none : Option Jvm.ClassFile.FieldType) 131 1 0) (l0 : Nat) (l1 : Int32) (M : q_Mem) {r : Unit} {M' : q_Mem} (h : J_X12_clause_64 l0 l1 M = some (r, M')) : q_W K 5 (q_Q K none M' 1 0) 0 0 M 64 [some (.ref l0), some (.int l1), none, none, none] [] := by
  unfold J_X12_clause_64 at h
  refine q_aload_n C dX12_clause_64 rfl ?_
  refine x_iconst (v := (0 : Int32)) C dX12_clause_65 (by decide) ?_
  refine x_iconst (v := (0 : Int32)) C dX12_clause_66 (by decide) ?_
  obtain ⟨hk, h⟩ := q_obE h
  obtain ⟨⟨u13, M14⟩, e1, h⟩ := q_bind h
  refine x_callV0 C dX12_clause_67 lkM_X12_183 mV_X12_condition ⟨_, rfl, rfl⟩ hk (c_X12_condition _ _ _ _ _ _ e1) rfl rfl (Nat.le_of_ble_eq_true rfl) (by decide) (by decide) ?_
  refine q_istore_n (L' := [some (.ref l0), some (.int l1), some (.int u13), none, none]) C dX12_clause_70 (by decide) rfl rfl ?_
  refine q_aload_n C dX12_clause_71 rfl ?_
  refine x_bipush (v := (63 : Int32)) C dX12_clause_72 (by decide) ?_
  obtain ⟨hk, h⟩ := q_obE h
  obtain ⟨⟨u15, M16⟩, e1, h⟩ := q_bind h
  refine x_callV0 C dX12_clause_74 lkM_X12_160 mV_X12_takes ⟨_, rfl, rfl⟩ hk (c_X12_takes _ _ _ _ _ e1) rfl rfl (Nat.le_of_ble_eq_true rfl) (by decide) (by decide) ?_
  refine q_if_ne (tgt := 81) C dX12_clause_77 (by decide) h (fun _ h => ?_) (fun _ h => ?_)
  · exact q_vret C dX12_clause_80 rfl (by decide) (by decide) (Option.some.inj h)
  · refine q_aload_n C dX12_clause_81 rfl ?_
    obtain ⟨hk, h⟩ := q_obE h
    obtain ⟨⟨u17, M18⟩, e1, h⟩ := q_bind h
    refine x_callV0 C dX12_clause_82 lkM_X12_157 mV_X12_sum ⟨_, rfl, rfl⟩ hk (c_X12_sum _ _ _ _ e1) rfl rfl (Nat.le_of_ble_eq_true rfl) (by decide) (by decide) ?_
    refine q_istore_n (L' := [some (.ref l0), some (.int l1), some (.int u13), some (.int u17), none]) C dX12_clause_85 (by decide) rfl rfl ?_
    refine q_goto (tgt := 134) C dX12_clause_86 (by decide) ?_
    exact q_msk [true, true, true, true, false] (jW_X12_clause_134 C l0 l1 u13 u17 M18 h)
noncomputable def F_X12_clause (l0 : Nat) (M : q_Mem) : Option (Unit × q_Mem) := (q_ob M l0 12 ((F_X12_look l0 M).bind (fun x => match x with | (u1, M2) => ((F_X12_isAmong 30 u1 M2).bind (fun x => match x with | (u3, M4) => (if u3 = 0 then (q_ob M4 l0 12 ((F_X12_fails l0 M4).bind (fun x => match x with | (u5, M6) => some ((), M6)))) else (q_gI M4 l0 12 10 (fun v7 => (q_pI M4 l0 12 10 (v7 + (1 : Int32)) (fun M8 => (q_ob M8 l0 12 ((F_X12_takes l0 (58 : Int32) M8).bind (fun x => match x with | (u9, M10) => (if u9 = 0 then some ((), M10) else (q_ob M10 l0 12 ((F_X12_look l0 M10).bind (fun x => match x with | (u11, M12) => (if u11 = (33 : Int32) then J_X12_clause_64 l0 u1 M12 else (if u11 = (40 : Int32) then J_X12_clause_64 l0 u1 M12 else (q_ob M12 l0 12 ((R_X12_atom 60 1 l0 M12).bind (fun x => match x with | (u24, M25) => (q_gI M25 l0 12 11 (fun v26 => (if v26 = (-1 : Int32) then (q_ob M25 l0 12 ((F_X12_look l0 M25).bind (fun x => match x with | (u27, M28) => ((F_X12_isSign u27 M28).bind (fun u29 => (if u29 = 0 then J_X12_clause_134 l0 u1 (1 : Int32) u24 M28 else (q_ob M28 l0 12 ((R_X12_condition 60 0 l0 (1 : Int32) u24 M28).bind (fun x => match x with | (u30, M31) => (q_ob M31 l0 12 ((F_X12_takes l0 (63 : Int32) M31).bind (fun x => match x with | (u32, M33) => (if u32 = 0 then some ((), M33) else (q_ob M33 l0 12 ((R_X12_atom 60 1 l0 M33).bind (fun x => match x with | (u34, M35) => J_X12_clause_134 l0 u1 u30 u34 M35)))))))))))))))) else J_X12_clause_134 l0 u1 (1 : Int32) u24 M25)))))))))))))))))))))))))
set_option maxRecDepth 100000 in
set_option maxHeartbeats 4000000 in
theorem c_X12_clause (l : Launch) (G : q_G) (l0 : Nat) (M : q_Mem) {r : Unit} {M' : q_Mem} (h : F_X12_clause l0 M = some (r, M')) : q_Met l G yX12_clause cX12_clause 5 (Option.none : Option Jvm.ClassFile.FieldType) 131 1 0 [.ref l0] M none M' := by
  unfold F_X12_clause at h
  refine q_enter [some (.ref l0), none, none, none, none] (by decide) (Nat.le_of_ble_eq_true rfl) rfl (fun K C => ?_)
  refine q_aload_n C dX12_clause_0 rfl ?_
  obtain ⟨hk, h⟩ := q_obE h
  obtain ⟨⟨u1, M2⟩, e1, h⟩ := q_bind h
  refine x_callV0 C dX12_clause_1 lkM_X12_134 mV_X12_look ⟨_, rfl, rfl⟩ hk (c_X12_look _ _ _ _ e1) rfl rfl (Nat.le_of_ble_eq_true rfl) (by decide) (by decide) ?_
  refine q_istore_n (L' := [some (.ref l0), some (.int u1), none, none, none]) C dX12_clause_4 (by decide) rfl rfl ?_
  refine q_ldcS (i := 13) C dX12_clause_5 rfl ?_
  refine q_iload_n C dX12_clause_7 rfl ?_
  obtain ⟨⟨u3, M4⟩, e1, h⟩ := q_bind h
  refine x_callS C dX12_clause_8 lkM_X12_150 mS_X12_isAmong (c_X12_isAmong _ _ _ _ _ e1) rfl rfl (Nat.le_of_ble_eq_true rfl) (by decide) (by decide) ?_
  refine q_if_ne (tgt := 20) C dX12_clause_11 (by decide) h (fun _ h => ?_) (fun _ h => ?_)
  · refine q_aload_n C dX12_clause_14 rfl ?_
    obtain ⟨hk, h⟩ := q_obE h
    obtain ⟨⟨u5, M6⟩, e1, h⟩ := q_bind h
    refine x_callV0 C dX12_clause_15 lkM_X12_130 mV_X12_fails ⟨_, rfl, rfl⟩ hk (c_X12_fails _ _ _ _ e1) rfl rfl (Nat.le_of_ble_eq_true rfl) (by decide) (by decide) ?_
    refine q_pop C dX12_clause_18 rfl ?_
    exact q_vret C dX12_clause_19 rfl (by decide) (by decide) (Option.some.inj h)
  · refine q_aload_n C dX12_clause_20 rfl ?_
    refine q_dup C dX12_clause_21 rfl ?_
    refine x_getI (ci := 12) (j := 10) C dX12_clause_22 lkF_X12_115 rfl h (fun v7 h => ?_)
    refine x_iconst (v := (1 : Int32)) C dX12_clause_25 (by decide) ?_
    refine q_iadd C dX12_clause_26 ?_
    refine x_putI (ci := 12) (j := 10) C dX12_clause_27 lkF_X12_115 (fun r hr => by cases hr; rfl) rfl h (fun M8 h => ?_)
    refine q_aload_n C dX12_clause_30 rfl ?_
    refine x_bipush (v := (58 : Int32)) C dX12_clause_31 (by decide) ?_
    obtain ⟨hk, h⟩ := q_obE h
    obtain ⟨⟨u9, M10⟩, e1, h⟩ := q_bind h
    refine x_callV0 C dX12_clause_33 lkM_X12_160 mV_X12_takes ⟨_, rfl, rfl⟩ hk (c_X12_takes _ _ _ _ _ e1) rfl rfl (Nat.le_of_ble_eq_true rfl) (by decide) (by decide) ?_
    refine q_if_ne (tgt := 40) C dX12_clause_36 (by decide) h (fun _ h => ?_) (fun _ h => ?_)
    · exact q_vret C dX12_clause_39 rfl (by decide) (by decide) (Option.some.inj h)
    · refine x_iconst (v := (1 : Int32)) C dX12_clause_40 (by decide) ?_
      refine q_istore_n (L' := [some (.ref l0), some (.int u1), some (.int (1 : Int32)), none, none]) C dX12_clause_41 (by decide) rfl rfl ?_
      refine x_iconst (v := (0 : Int32)) C dX12_clause_42 (by decide) ?_
      refine q_istore_n (L' := [some (.ref l0), some (.int u1), some (.int (1 : Int32)), some (.int (0 : Int32)), none]) C dX12_clause_43 (by decide) rfl rfl ?_
      refine q_aload_n C dX12_clause_44 rfl ?_
      obtain ⟨hk, h⟩ := q_obE h
      obtain ⟨⟨u11, M12⟩, e1, h⟩ := q_bind h
      refine x_callV0 C dX12_clause_45 lkM_X12_134 mV_X12_look ⟨_, rfl, rfl⟩ hk (c_X12_look _ _ _ _ e1) rfl rfl (Nat.le_of_ble_eq_true rfl) (by decide) (by decide) ?_
      refine q_istore (L' := [some (.ref l0), some (.int u1), some (.int (1 : Int32)), some (.int (0 : Int32)), some (.int u11)]) C dX12_clause_48 (by decide) rfl rfl ?_
      refine q_iload C dX12_clause_50 rfl ?_
      refine x_bipush (v := (33 : Int32)) C dX12_clause_52 (by decide) ?_
      refine q_icmp_eq (tgt := 64) C dX12_clause_54 (by decide) h (fun _ h => ?_) (fun _ h => ?_)
      · exact q_msk [true, true, false, false, false] (jW_X12_clause_64 C l0 u1 M12 h)
      · refine q_iload C dX12_clause_57 rfl ?_
        refine x_bipush (v := (40 : Int32)) C dX12_clause_59 (by decide) ?_
        refine q_icmp_ne (tgt := 89) C dX12_clause_61 (by decide) h (fun _ h => ?_) (fun _ h => ?_)
        · exact q_msk [true, true, false, false, false] (jW_X12_clause_64 C l0 u1 M12 h)
        · refine q_aload_n C dX12_clause_89 rfl ?_
          obtain ⟨hk, h⟩ := q_obE h
          obtain ⟨⟨u24, M25⟩, e1, h⟩ := q_bind h
          refine x_callV0 C dX12_clause_90 lkM_X12_157 mV_X12_sum ⟨_, rfl, rfl⟩ hk (c_X12_sum _ _ _ _ e1) rfl rfl (Nat.le_of_ble_eq_true rfl) (by decide) (by decide) ?_
          refine q_istore_n (L' := [some (.ref l0), some (.int u1), some (.int (1 : Int32)), some (.int u24), some (.int u11)]) C dX12_clause_93 (by decide) rfl rfl ?_
          refine q_aload_n C dX12_clause_94 rfl ?_
          refine x_getI (ci := 12) (j := 11) C dX12_clause_95 lkF_X12_124 rfl h (fun v26 h => ?_)
          refine x_iconst (v := (-1 : Int32)) C dX12_clause_98 (by decide) ?_
          refine q_icmp_ne (tgt := 134) C dX12_clause_99 (by decide) h (fun _ h => ?_) (fun _ h => ?_)
          · refine q_aload_n C dX12_clause_102 rfl ?_
            obtain ⟨hk, h⟩ := q_obE h
            obtain ⟨⟨u27, M28⟩, e1, h⟩ := q_bind h
            refine x_callV0 C dX12_clause_103 lkM_X12_134 mV_X12_look ⟨_, rfl, rfl⟩ hk (c_X12_look _ _ _ _ e1) rfl rfl (Nat.le_of_ble_eq_true rfl) (by decide) (by decide) ?_
            obtain ⟨u29, e1, h⟩ := q_bind h
            refine x_callS0 C dX12_clause_106 lkM_X12_177 mS_X12_isSign (c_X12_isSign _ _ _ _ e1) rfl rfl (Nat.le_of_ble_eq_true rfl) (by decide) (by decide) ?_
            refine q_if_eq (tgt := 134) C dX12_clause_109 (by decide) h (fun _ h => ?_) (fun _ h => ?_)
            · exact q_msk [true, true, true, true, false] (jW_X12_clause_134 C l0 u1 (1 : Int32) u24 M28 h)
            · refine q_aload_n C dX12_clause_112 rfl ?_
              refine x_iconst (v := (1 : Int32)) C dX12_clause_113 (by decide) ?_
              refine q_iload_n C dX12_clause_114 rfl ?_
              obtain ⟨hk, h⟩ := q_obE h
              obtain ⟨⟨u30, M31⟩, e1, h⟩ := q_bind h
              refine x_callV0 C dX12_clause_115 lkM_X12_183 mV_X12_condition ⟨_, rfl, rfl⟩ hk (c_X12_condition _ _ _ _ _ _ e1) rfl rfl (Nat.le_of_ble_eq_true rfl) (by decide) (by decide) ?_
              refine q_istore_n (L' := [some (.ref l0), some (.int u1), some (.int u30), some (.int u24), some (.int u11)]) C dX12_clause_118 (by decide) rfl rfl ?_
              refine q_aload_n C dX12_clause_119 rfl ?_
              refine x_bipush (v := (63 : Int32)) C dX12_clause_120 (by decide) ?_
              obtain ⟨hk, h⟩ := q_obE h
              obtain ⟨⟨u32, M33⟩, e1, h⟩ := q_bind h
              refine x_callV0 C dX12_clause_122 lkM_X12_160 mV_X12_takes ⟨_, rfl, rfl⟩ hk (c_X12_takes _ _ _ _ _ e1) rfl rfl (Nat.le_of_ble_eq_true rfl) (by decide) (by decide) ?_
              refine q_if_ne (tgt := 129) C dX12_clause_125 (by decide) h (fun _ h => ?_) (fun _ h => ?_)
              · exact q_vret C dX12_clause_128 rfl (by decide) (by decide) (Option.some.inj h)
              · refine q_aload_n C dX12_clause_129 rfl ?_
                obtain ⟨hk, h⟩ := q_obE h
                obtain ⟨⟨u34, M35⟩, e1, h⟩ := q_bind h
                refine x_callV0 C dX12_clause_130 lkM_X12_157 mV_X12_sum ⟨_, rfl, rfl⟩ hk (c_X12_sum _ _ _ _ e1) rfl rfl (Nat.le_of_ble_eq_true rfl) (by decide) (by decide) ?_
                refine q_istore_n (L' := [some (.ref l0), some (.int u1), some (.int u30), some (.int u34), some (.int u11)]) C dX12_clause_133 (by decide) rfl rfl ?_
                exact q_msk [true, true, true, true, false] (jW_X12_clause_134 C l0 u1 u30 u34 M35 h)
          · exact q_msk [true, true, true, true, false] (jW_X12_clause_134 C l0 u1 (1 : Int32) u24 M25 h)
noncomputable def B_X12_goThrough_32 (l0 : Nat) (M : q_Mem) : Option ((q_Mem) ⊕ (q_Mem)) := (q_gI M l0 12 11 (fun v9 => (if v9 = (-1 : Int32) then (q_ob M l0 12 ((F_X12_look l0 M).bind (fun x => match x with | (u10, M11) => (if u10 = (59 : Int32) then (q_gI M11 l0 12 10 (fun v12 => (q_pI M11 l0 12 10 (v12 + (1 : Int32)) (fun M13 => (q_ob M13 l0 12 ((F_X12_clause l0 M13).bind (fun x => match x with | (_, M15) => some (.inl M15)))))))) else some (.inr M11))))) else some (.inr M))))
set_option maxRecDepth 100000 in
set_option maxHeartbeats 4000000 in
theorem bW_X12_goThrough_32 {K : q_K} {Q : State → Prop} (C : q_C K yX12_goThrough cX12_goThrough 4 (Option.none : Option Jvm.ClassFile.FieldType) 132 2 0) (l0 : Nat) (M : q_Mem) {stp : (q_Mem) ⊕ (q_Mem)} (h : B_X12_goThrough_32 l0 M = some stp) (kC : ∀ (M : q_Mem), stp = .inl M → q_W K 4 Q 0 0 M 32 [some (.ref l0), none, none, none] []) (kE0 : ∀ (M : q_Mem), stp = .inr M → q_W K 4 Q 0 0 M 66 [some (.ref l0), none, none, none] []) : q_W K 4 Q 0 0 M 32 [some (.ref l0), none, none, none] [] := by
  unfold B_X12_goThrough_32 at h
  refine q_aload_n C dX12_goThrough_32 rfl ?_
  refine x_getI (ci := 12) (j := 11) C dX12_goThrough_33 lkF_X12_124 rfl h (fun v9 h => ?_)
  refine x_iconst (v := (-1 : Int32)) C dX12_goThrough_36 (by decide) ?_
  refine q_icmp_ne (tgt := 66) C dX12_goThrough_37 (by decide) h (fun _ h => ?_) (fun _ h => ?_)
  · refine q_aload_n C dX12_goThrough_40 rfl ?_
    obtain ⟨hk, h⟩ := q_obE h
    obtain ⟨⟨u10, M11⟩, e1, h⟩ := q_bind h
    refine x_callV0 C dX12_goThrough_41 lkM_X12_134 mV_X12_look ⟨_, rfl, rfl⟩ hk (c_X12_look _ _ _ _ e1) rfl rfl (Nat.le_of_ble_eq_true rfl) (by decide) (by decide) ?_
    refine x_bipush (v := (59 : Int32)) C dX12_goThrough_44 (by decide) ?_
    refine q_icmp_ne (tgt := 66) C dX12_goThrough_46 (by decide) h (fun _ h => ?_) (fun _ h => ?_)
    · refine q_aload_n C dX12_goThrough_49 rfl ?_
      refine q_dup C dX12_goThrough_50 rfl ?_
      refine x_getI (ci := 12) (j := 10) C dX12_goThrough_51 lkF_X12_115 rfl h (fun v12 h => ?_)
      refine x_iconst (v := (1 : Int32)) C dX12_goThrough_54 (by decide) ?_
      refine q_iadd C dX12_goThrough_55 ?_
      refine x_putI (ci := 12) (j := 10) C dX12_goThrough_56 lkF_X12_115 (fun r hr => by cases hr; rfl) rfl h (fun M13 h => ?_)
      refine q_aload_n C dX12_goThrough_59 rfl ?_
      obtain ⟨hk, h⟩ := q_obE h
      obtain ⟨⟨_, M15⟩, e1, h⟩ := q_bind h
      refine x_callVv C dX12_goThrough_60 lkM_X12_207 mV_X12_clause ⟨_, rfl, rfl⟩ hk (c_X12_clause _ _ _ _ e1) rfl rfl (Nat.le_of_ble_eq_true rfl) (by decide) (by decide) ?_
      refine q_goto (tgt := 32) C dX12_goThrough_63 (by decide) ?_
      exact q_msk [true, false, false, false] (kC _ (Option.some.inj h).symm)
    · exact q_msk [true, false, false, false] (kE0 _ (Option.some.inj h).symm)
  · exact q_msk [true, false, false, false] (kE0 _ (Option.some.inj h).symm)
set_option maxRecDepth 100000 in
set_option maxHeartbeats 4000000 in
theorem lW_X12_goThrough_32 {K : q_K} {Q : State → Prop} (C : q_C K yX12_goThrough cX12_goThrough 4 (Option.none : Option Jvm.ClassFile.FieldType) 132 2 0) (l0 : Nat) (n : Nat) : ∀ (M : q_Mem) (e : (q_Mem)), q_lp (fun s => B_X12_goThrough_32 l0 s) n M = some e → (∀ (M : q_Mem), e = M → q_W K 4 Q 0 0 M 66 [some (.ref l0), none, none, none] []) → q_W K 4 Q 0 0 M 32 [some (.ref l0), none, none, none] [] := by
  induction n with
  | zero => intro M e h; cases h
  | succ n ih =>
    intro M e h kE0
    obtain ⟨stp, e1, e2⟩ := q_bind h
    refine bW_X12_goThrough_32 C l0 M e1 (fun a0 hs => ?_) (fun b0 hs => ?_)
    · subst hs; exact ih _ _ e2 kE0
    · subst hs; exact kE0 _ (Option.some.inj e2).symm
noncomputable def F_X12_goThrough (l0 : Nat) (l1 : Nat) (l2 : Int32) (l3 : Int32) (M : q_Mem) : Option (Unit × q_Mem) := (q_ob M l0 12 ((F_X12_starts l0 l1 l2 l3 M).bind (fun x => match x with | (_, M2) => (q_pI M2 l0 12 13 (121 : Int32) (fun M3 => (q_pI M3 l0 12 12 (0 : Int32) (fun M4 => (q_pZ M4 l0 12 17 (0 : Int32) (fun M5 => (q_pI M5 l0 12 14 (0 : Int32) (fun M6 => (q_ob M6 l0 12 ((F_X12_clause l0 M6).bind (fun x => match x with | (_, M8) => (q_lp (fun s => B_X12_goThrough_32 l0 s) q_fu M8).bind (fun e16 => match e16 with | M17 => (q_gI M17 l0 12 11 (fun v18 => (if v18 = (-1 : Int32) then (q_ob M17 l0 12 ((F_X12_look l0 M17).bind (fun x => match x with | (u19, M20) => (if u19 = (-1 : Int32) then some ((), M20) else (q_ob M20 l0 12 ((F_X12_fails l0 M20).bind (fun x => match x with | (u21, M22) => some ((), M22)))))))) else some ((), M17)))))))))))))))))))
set_option maxRecDepth 100000 in
set_option maxHeartbeats 4000000 in
theorem c_X12_goThrough (l : Launch) (G : q_G) (l0 : Nat) (l1 : Nat) (l2 : Int32) (l3 : Int32) (M : q_Mem) {r : Unit} {M' : q_Mem} (h : F_X12_goThrough l0 l1 l2 l3 M = some (r, M')) : q_Met l G yX12_goThrough cX12_goThrough 4 (Option.none : Option Jvm.ClassFile.FieldType) 132 2 0 [.ref l0, .ref l1, .int l2, .int l3] M none M' := by
  unfold F_X12_goThrough at h
  refine q_enter [some (.ref l0), some (.ref l1), some (.int l2), some (.int l3)] (by decide) (Nat.le_of_ble_eq_true rfl) rfl (fun K C => ?_)
  refine q_aload_n C dX12_goThrough_0 rfl ?_
  refine q_aload_n C dX12_goThrough_1 rfl ?_
  refine q_iload_n C dX12_goThrough_2 rfl ?_
  refine q_iload_n C dX12_goThrough_3 rfl ?_
  obtain ⟨hk, h⟩ := q_obE h
  obtain ⟨⟨_, M2⟩, e1, h⟩ := q_bind h
  refine x_callVv0 C dX12_goThrough_4 lkM_X12_203 mV_X12_starts ⟨_, rfl, rfl⟩ hk (c_X12_starts _ _ _ _ _ _ _ e1) rfl rfl (Nat.le_of_ble_eq_true rfl) (by decide) (by decide) ?_
  refine q_aload_n C dX12_goThrough_7 rfl ?_
  refine x_bipush (v := (121 : Int32)) C dX12_goThrough_8 (by decide) ?_
  refine x_putI (ci := 12) (j := 13) C dX12_goThrough_10 lkF_X12_197 (fun r hr => by cases hr; rfl) rfl h (fun M3 h => ?_)
  refine q_aload_n C dX12_goThrough_13 rfl ?_
  refine x_iconst (v := (0 : Int32)) C dX12_goThrough_14 (by decide) ?_
  refine x_putI (ci := 12) (j := 12) C dX12_goThrough_15 lkF_X12_127 (fun r hr => by cases hr; rfl) rfl h (fun M4 h => ?_)
  refine q_aload_n C dX12_goThrough_18 rfl ?_
  refine x_iconst (v := (0 : Int32)) C dX12_goThrough_19 (by decide) ?_
  refine x_putZ (ci := 12) (j := 17) C dX12_goThrough_20 lkF_X12_193 (fun r hr => by cases hr; rfl) rfl h (fun M5 h => ?_)
  refine q_aload_n C dX12_goThrough_23 rfl ?_
  refine x_iconst (v := (0 : Int32)) C dX12_goThrough_24 (by decide) ?_
  refine x_putI (ci := 12) (j := 14) C dX12_goThrough_25 lkF_X12_200 (fun r hr => by cases hr; rfl) rfl h (fun M6 h => ?_)
  refine q_aload_n C dX12_goThrough_28 rfl ?_
  obtain ⟨hk, h⟩ := q_obE h
  obtain ⟨⟨_, M8⟩, e1, h⟩ := q_bind h
  refine x_callVv C dX12_goThrough_29 lkM_X12_207 mV_X12_clause ⟨_, rfl, rfl⟩ hk (c_X12_clause _ _ _ _ e1) rfl rfl (Nat.le_of_ble_eq_true rfl) (by decide) (by decide) ?_
  obtain ⟨e16, he, h⟩ := q_bind h
  refine q_msk [true, false, false, false] (lW_X12_goThrough_32 C l0 q_fu _ _ he (fun M17 hs => ?_))
  · have hs := hs.symm
    subst hs
    refine q_aload_n C dX12_goThrough_66 rfl ?_
    refine x_getI (ci := 12) (j := 11) C dX12_goThrough_67 lkF_X12_124 rfl h (fun v18 h => ?_)
    refine x_iconst (v := (-1 : Int32)) C dX12_goThrough_70 (by decide) ?_
    refine q_icmp_ne (tgt := 87) C dX12_goThrough_71 (by decide) h (fun _ h => ?_) (fun _ h => ?_)
    · refine q_aload_n C dX12_goThrough_74 rfl ?_
      obtain ⟨hk, h⟩ := q_obE h
      obtain ⟨⟨u19, M20⟩, e1, h⟩ := q_bind h
      refine x_callV0 C dX12_goThrough_75 lkM_X12_134 mV_X12_look ⟨_, rfl, rfl⟩ hk (c_X12_look _ _ _ _ e1) rfl rfl (Nat.le_of_ble_eq_true rfl) (by decide) (by decide) ?_
      refine x_iconst (v := (-1 : Int32)) C dX12_goThrough_78 (by decide) ?_
      refine q_icmp_eq (tgt := 87) C dX12_goThrough_79 (by decide) h (fun _ h => ?_) (fun _ h => ?_)
      · exact q_vret C dX12_goThrough_87 rfl (by decide) (by decide) (Option.some.inj h)
      · refine q_aload_n C dX12_goThrough_82 rfl ?_
        obtain ⟨hk, h⟩ := q_obE h
        obtain ⟨⟨u21, M22⟩, e1, h⟩ := q_bind h
        refine x_callV0 C dX12_goThrough_83 lkM_X12_130 mV_X12_fails ⟨_, rfl, rfl⟩ hk (c_X12_fails _ _ _ _ e1) rfl rfl (Nat.le_of_ble_eq_true rfl) (by decide) (by decide) ?_
        refine q_pop C dX12_goThrough_86 rfl ?_
        exact q_vret C dX12_goThrough_87 rfl (by decide) (by decide) (Option.some.inj h)
    · exact q_vret C dX12_goThrough_87 rfl (by decide) (by decide) (Option.some.inj h)
noncomputable def F_X12_digit (l0 : Nat) (M : q_Mem) : Option (Int32 × q_Mem) := (q_ob M l0 12 ((F_X12_look l0 M).bind (fun x => match x with | (u1, M2) => (q_ob M2 l0 12 ((F_X12_isDigit l0 M2).bind (fun u3 => (if u3 = 0 then (q_ob M2 l0 12 ((F_X12_fails l0 M2).bind (fun x => match x with | (u4, M5) => some ((0 : Int32), M5)))) else (q_gI M2 l0 12 10 (fun v6 => (q_pI M2 l0 12 10 (v6 + (1 : Int32)) (fun M7 => some ((u1 - (48 : Int32)), M7))))))))))))
set_option maxRecDepth 100000 in
set_option maxHeartbeats 4000000 in
theorem c_X12_digit (l : Launch) (G : q_G) (l0 : Nat) (M : q_Mem) {r : Int32} {M' : q_Mem} (h : F_X12_digit l0 M = some (r, M')) : q_Met l G yX12_digit cX12_digit 2 (Option.some Jvm.ClassFile.FieldType.int) 2 0 0 [.ref l0] M (some (.int r)) M' := by
  unfold F_X12_digit at h
  refine q_enter [some (.ref l0), none] (by decide) (Nat.le_of_ble_eq_true rfl) rfl (fun K C => ?_)
  refine q_aload_n C dX12_digit_0 rfl ?_
  obtain ⟨hk, h⟩ := q_obE h
  obtain ⟨⟨u1, M2⟩, e1, h⟩ := q_bind h
  refine x_callV0 C dX12_digit_1 lkM_X12_134 mV_X12_look ⟨_, rfl, rfl⟩ hk (c_X12_look _ _ _ _ e1) rfl rfl (Nat.le_of_ble_eq_true rfl) (by decide) (by decide) ?_
  refine q_istore_n (L' := [some (.ref l0), some (.int u1)]) C dX12_digit_4 (by decide) rfl rfl ?_
  refine q_aload_n C dX12_digit_5 rfl ?_
  obtain ⟨hk, h⟩ := q_obE h
  obtain ⟨u3, e1, h⟩ := q_bind h
  refine x_callV0 C dX12_digit_6 lkM_X12_164 mV_X12_isDigit ⟨_, rfl, rfl⟩ hk (c_X12_isDigit _ _ _ _ e1) rfl rfl (Nat.le_of_ble_eq_true rfl) (by decide) (by decide) ?_
  refine q_if_ne (tgt := 19) C dX12_digit_9 (by decide) h (fun _ h => ?_) (fun _ h => ?_)
  · refine q_aload_n C dX12_digit_12 rfl ?_
    obtain ⟨hk, h⟩ := q_obE h
    obtain ⟨⟨u4, M5⟩, e1, h⟩ := q_bind h
    refine x_callV0 C dX12_digit_13 lkM_X12_130 mV_X12_fails ⟨_, rfl, rfl⟩ hk (c_X12_fails _ _ _ _ e1) rfl rfl (Nat.le_of_ble_eq_true rfl) (by decide) (by decide) ?_
    refine q_pop C dX12_digit_16 rfl ?_
    refine x_iconst (v := (0 : Int32)) C dX12_digit_17 (by decide) ?_
    exact q_iret C dX12_digit_18 rfl (by decide) (by decide) (Option.some.inj h)
  · refine q_aload_n C dX12_digit_19 rfl ?_
    refine q_dup C dX12_digit_20 rfl ?_
    refine x_getI (ci := 12) (j := 10) C dX12_digit_21 lkF_X12_115 rfl h (fun v6 h => ?_)
    refine x_iconst (v := (1 : Int32)) C dX12_digit_24 (by decide) ?_
    refine q_iadd C dX12_digit_25 ?_
    refine x_putI (ci := 12) (j := 10) C dX12_digit_26 lkF_X12_115 (fun r hr => by cases hr; rfl) rfl h (fun M7 h => ?_)
    refine q_iload_n C dX12_digit_29 rfl ?_
    refine x_bipush (v := (48 : Int32)) C dX12_digit_30 (by decide) ?_
    refine q_isub C dX12_digit_32 ?_
    exact q_iret C dX12_digit_33 rfl (by decide) (by decide) (Option.some.inj h)
noncomputable def J_X12_readStep_68 (l0 : Nat) (l1 : Int32) (l2 : Int32) (M : q_Mem) : Option (Unit × q_Mem) := (q_gR M l0 12 24 (fun c18 => q_nn c18 (fun r19 => (q_ob M l0 12 ((F_X12_digit l0 M).bind (fun x => match x with | (u20, M21) => (q_tI M21 r19 (l1 + (1 : Int32)) u20 (fun M22 => (q_gI M22 l0 12 11 (fun v23 => (if v23 = (-1 : Int32) then (if l2 = (4 : Int32) then (q_gR M22 l0 12 24 (fun c24 => q_nn c24 (fun r25 => (q_ob M22 l0 12 ((F_X12_digit l0 M22).bind (fun x => match x with | (u26, M27) => (q_tI M27 r25 (l1 + (2 : Int32)) u26 (fun M28 => some ((), M28))))))))) else some ((), M22)) else some ((), M22))))))))))))
set_option maxRecDepth 100000 in
set_option maxHeartbeats 4000000 in
theorem jW_X12_readStep_68 {K : q_K} (C : q_C K yX12_readStep cX12_readStep 3 (Option.none : Option Jvm.ClassFile.FieldType) 8 1 0) (l0 : Nat) (l1 : Int32) (l2 : Int32) (M : q_Mem) {r : Unit} {M' : q_Mem} (h : J_X12_readStep_68 l0 l1 l2 M = some (r, M')) : q_W K 3 (q_Q K none M' 1 0) 0 0 M 68 [some (.ref l0), some (.int l1), some (.int l2)] [] := by
  unfold J_X12_readStep_68 at h
  refine q_aload_n C dX12_readStep_68 rfl ?_
  refine x_getR (ci := 12) (j := 24) C dX12_readStep_69 lkF_X12_55 rfl h (fun c18 h => ?_)
  refine x_nn h (fun r19 h => ?_)
  refine q_iload_n C dX12_readStep_72 rfl ?_
  refine x_iconst (v := (1 : Int32)) C dX12_readStep_73 (by decide) ?_
  refine q_iadd C dX12_readStep_74 ?_
  refine q_aload_n C dX12_readStep_75 rfl ?_
  obtain ⟨hk, h⟩ := q_obE h
  obtain ⟨⟨u20, M21⟩, e1, h⟩ := q_bind h
  refine x_callV0 C dX12_readStep_76 lkM_X12_259 mV_X12_digit ⟨_, rfl, rfl⟩ hk (c_X12_digit _ _ _ _ e1) rfl rfl (Nat.le_of_ble_eq_true rfl) (by decide) (by decide) ?_
  refine x_iast C dX12_readStep_79 h (fun M22 h => ?_)
  refine q_aload_n C dX12_readStep_80 rfl ?_
  refine x_getI (ci := 12) (j := 11) C dX12_readStep_81 lkF_X12_124 rfl h (fun v23 h => ?_)
  refine x_iconst (v := (-1 : Int32)) C dX12_readStep_84 (by decide) ?_
  refine q_icmp_ne (tgt := 105) C dX12_readStep_85 (by decide) h (fun _ h => ?_) (fun _ h => ?_)
  · refine q_iload_n C dX12_readStep_88 rfl ?_
    refine x_iconst (v := (4 : Int32)) C dX12_readStep_89 (by decide) ?_
    refine q_icmp_ne (tgt := 105) C dX12_readStep_90 (by decide) h (fun _ h => ?_) (fun _ h => ?_)
    · refine q_aload_n C dX12_readStep_93 rfl ?_
      refine x_getR (ci := 12) (j := 24) C dX12_readStep_94 lkF_X12_55 rfl h (fun c24 h => ?_)
      refine x_nn h (fun r25 h => ?_)
      refine q_iload_n C dX12_readStep_97 rfl ?_
      refine x_iconst (v := (2 : Int32)) C dX12_readStep_98 (by decide) ?_
      refine q_iadd C dX12_readStep_99 ?_
      refine q_aload_n C dX12_readStep_100 rfl ?_
      obtain ⟨hk, h⟩ := q_obE h
      obtain ⟨⟨u26, M27⟩, e1, h⟩ := q_bind h
      refine x_callV0 C dX12_readStep_101 lkM_X12_259 mV_X12_digit ⟨_, rfl, rfl⟩ hk (c_X12_digit _ _ _ _ e1) rfl rfl (Nat.le_of_ble_eq_true rfl) (by decide) (by decide) ?_
      refine x_iast C dX12_readStep_104 h (fun M28 h => ?_)
      exact q_vret C dX12_readStep_105 rfl (by decide) (by decide) (Option.some.inj h)
    · exact q_vret C dX12_readStep_105 rfl (by decide) (by decide) (Option.some.inj h)
  · exact q_vret C dX12_readStep_105 rfl (by decide) (by decide) (Option.some.inj h)
noncomputable def F_X12_readStep (l0 : Nat) (l1 : Int32) (M : q_Mem) : Option (Unit × q_Mem) := (q_ob M l0 12 ((F_X12_look l0 M).bind (fun x => match x with | (u1, M2) => ((F_X12_spotOf 28 u1 M2).bind (fun x => match x with | (u3, M4) => (if u3 = (-1 : Int32) then (q_ob M4 l0 12 ((F_X12_fails l0 M4).bind (fun x => match x with | (u5, M6) => some ((), M6)))) else (q_gI M4 l0 12 10 (fun v7 => (q_pI M4 l0 12 10 (v7 + (1 : Int32)) (fun M8 => (q_gR M8 l0 12 24 (fun c9 => q_nn c9 (fun r10 => (q_tI M8 r10 l1 u3 (fun M11 => (q_gR M11 l0 12 24 (fun c12 => q_nn c12 (fun r13 => (q_tI M11 r13 (l1 + (1 : Int32)) (-1 : Int32) (fun M14 => (q_gR M14 l0 12 24 (fun c15 => q_nn c15 (fun r16 => (q_tI M14 r16 (l1 + (2 : Int32)) (-1 : Int32) (fun M17 => (if u3 = (1 : Int32) then J_X12_readStep_68 l0 l1 u3 M17 else (if u3 = (4 : Int32) then J_X12_readStep_68 l0 l1 u3 M17 else some ((), M17))))))))))))))))))))))))))))
set_option maxRecDepth 100000 in
set_option maxHeartbeats 4000000 in
theorem c_X12_readStep (l : Launch) (G : q_G) (l0 : Nat) (l1 : Int32) (M : q_Mem) {r : Unit} {M' : q_Mem} (h : F_X12_readStep l0 l1 M = some (r, M')) : q_Met l G yX12_readStep cX12_readStep 3 (Option.none : Option Jvm.ClassFile.FieldType) 8 1 0 [.ref l0, .int l1] M none M' := by
  unfold F_X12_readStep at h
  refine q_enter [some (.ref l0), some (.int l1), none] (by decide) (Nat.le_of_ble_eq_true rfl) rfl (fun K C => ?_)
  refine q_ldcS (i := 12) C dX12_readStep_0 rfl ?_
  refine q_aload_n C dX12_readStep_3 rfl ?_
  obtain ⟨hk, h⟩ := q_obE h
  obtain ⟨⟨u1, M2⟩, e1, h⟩ := q_bind h
  refine x_callV0 C dX12_readStep_4 lkM_X12_134 mV_X12_look ⟨_, rfl, rfl⟩ hk (c_X12_look _ _ _ _ e1) rfl rfl (Nat.le_of_ble_eq_true rfl) (by decide) (by decide) ?_
  obtain ⟨⟨u3, M4⟩, e1, h⟩ := q_bind h
  refine x_callS C dX12_readStep_7 lkM_X12_221 mS_X12_spotOf (c_X12_spotOf _ _ _ _ _ e1) rfl rfl (Nat.le_of_ble_eq_true rfl) (by decide) (by decide) ?_
  refine q_istore_n (L' := [some (.ref l0), some (.int l1), some (.int u3)]) C dX12_readStep_10 (by decide) rfl rfl ?_
  refine q_iload_n C dX12_readStep_11 rfl ?_
  refine x_iconst (v := (-1 : Int32)) C dX12_readStep_12 (by decide) ?_
  refine q_icmp_ne (tgt := 22) C dX12_readStep_13 (by decide) h (fun _ h => ?_) (fun _ h => ?_)
  · refine q_aload_n C dX12_readStep_16 rfl ?_
    obtain ⟨hk, h⟩ := q_obE h
    obtain ⟨⟨u5, M6⟩, e1, h⟩ := q_bind h
    refine x_callV0 C dX12_readStep_17 lkM_X12_130 mV_X12_fails ⟨_, rfl, rfl⟩ hk (c_X12_fails _ _ _ _ e1) rfl rfl (Nat.le_of_ble_eq_true rfl) (by decide) (by decide) ?_
    refine q_pop C dX12_readStep_20 rfl ?_
    exact q_vret C dX12_readStep_21 rfl (by decide) (by decide) (Option.some.inj h)
  · refine q_aload_n C dX12_readStep_22 rfl ?_
    refine q_dup C dX12_readStep_23 rfl ?_
    refine x_getI (ci := 12) (j := 10) C dX12_readStep_24 lkF_X12_115 rfl h (fun v7 h => ?_)
    refine x_iconst (v := (1 : Int32)) C dX12_readStep_27 (by decide) ?_
    refine q_iadd C dX12_readStep_28 ?_
    refine x_putI (ci := 12) (j := 10) C dX12_readStep_29 lkF_X12_115 (fun r hr => by cases hr; rfl) rfl h (fun M8 h => ?_)
    refine q_aload_n C dX12_readStep_32 rfl ?_
    refine x_getR (ci := 12) (j := 24) C dX12_readStep_33 lkF_X12_55 rfl h (fun c9 h => ?_)
    refine x_nn h (fun r10 h => ?_)
    refine q_iload_n C dX12_readStep_36 rfl ?_
    refine q_iload_n C dX12_readStep_37 rfl ?_
    refine x_iast C dX12_readStep_38 h (fun M11 h => ?_)
    refine q_aload_n C dX12_readStep_39 rfl ?_
    refine x_getR (ci := 12) (j := 24) C dX12_readStep_40 lkF_X12_55 rfl h (fun c12 h => ?_)
    refine x_nn h (fun r13 h => ?_)
    refine q_iload_n C dX12_readStep_43 rfl ?_
    refine x_iconst (v := (1 : Int32)) C dX12_readStep_44 (by decide) ?_
    refine q_iadd C dX12_readStep_45 ?_
    refine x_iconst (v := (-1 : Int32)) C dX12_readStep_46 (by decide) ?_
    refine x_iast C dX12_readStep_47 h (fun M14 h => ?_)
    refine q_aload_n C dX12_readStep_48 rfl ?_
    refine x_getR (ci := 12) (j := 24) C dX12_readStep_49 lkF_X12_55 rfl h (fun c15 h => ?_)
    refine x_nn h (fun r16 h => ?_)
    refine q_iload_n C dX12_readStep_52 rfl ?_
    refine x_iconst (v := (2 : Int32)) C dX12_readStep_53 (by decide) ?_
    refine q_iadd C dX12_readStep_54 ?_
    refine x_iconst (v := (-1 : Int32)) C dX12_readStep_55 (by decide) ?_
    refine x_iast C dX12_readStep_56 h (fun M17 h => ?_)
    refine q_iload_n C dX12_readStep_57 rfl ?_
    refine x_iconst (v := (1 : Int32)) C dX12_readStep_58 (by decide) ?_
    refine q_icmp_eq (tgt := 68) C dX12_readStep_59 (by decide) h (fun _ h => ?_) (fun _ h => ?_)
    · exact q_msk [true, true, true] (jW_X12_readStep_68 C l0 l1 u3 M17 h)
    · refine q_iload_n C dX12_readStep_62 rfl ?_
      refine x_iconst (v := (4 : Int32)) C dX12_readStep_63 (by decide) ?_
      refine q_icmp_eq (tgt := 68) C dX12_readStep_64 (by decide) h (fun _ h => ?_) (fun _ h => ?_)
      · exact q_msk [true, true, true] (jW_X12_readStep_68 C l0 l1 u3 M17 h)
      · exact q_vret C dX12_readStep_67 rfl (by decide) (by decide) (Option.some.inj h)
noncomputable def J_X12_readWeek_74_17 (l0 : Nat) (l1 : Int32) (l2 : Int32) (M : q_Mem) : Option ((Int32 × Int32 × q_Mem) ⊕ ((q_Mem) ⊕ ((q_Mem) ⊕ (Int32 × q_Mem)))) := (if l2 = 0 then some (.inl (l1, l2, M)) else (q_gI M l0 12 10 (fun v11 => (q_pI M l0 12 10 (v11 + (1 : Int32)) (fun M12 => some (.inl (l1, l2, M12)))))))
set_option maxRecDepth 100000 in
set_option maxHeartbeats 4000000 in
theorem jW_X12_readWeek_74_17 {K : q_K} {Q : State → Prop} (C : q_C K yX12_readWeek cX12_readWeek 3 (Option.none : Option Jvm.ClassFile.FieldType) 9 1 0) (l0 : Nat) (l1 : Int32) (l2 : Int32) (M : q_Mem) {stp : (Int32 × Int32 × q_Mem) ⊕ ((q_Mem) ⊕ ((q_Mem) ⊕ (Int32 × q_Mem)))} (h : J_X12_readWeek_74_17 l0 l1 l2 M = some stp) (kC : ∀ (l1 : Int32) (l2 : Int32) (M : q_Mem), stp = .inl (l1, l2, M) → q_W K 3 Q 0 0 M 17 [some (.ref l0), some (.int l1), some (.int l2)] []) (kE0 : ∀ (M : q_Mem), stp = .inr (.inl M) → q_W K 3 Q 0 0 M 39 [none, none, none] []) (kE1 : ∀ (M : q_Mem), stp = .inr (.inr (.inl M)) → q_W K 3 Q 0 0 M 68 [some (.ref l0), none, none] []) (kE2 : ∀ (l1 : Int32) (M : q_Mem), stp = .inr (.inr (.inr (l1, M))) → q_W K 3 Q 0 0 M 91 [some (.ref l0), some (.int l1), none] []) : q_W K 3 Q 0 0 M 74 [some (.ref l0), some (.int l1), some (.int l2)] [] := by
  unfold J_X12_readWeek_74_17 at h
  refine q_iload_n C dX12_readWeek_74 rfl ?_
  refine q_if_eq (tgt := 17) C dX12_readWeek_75 (by decide) h (fun _ h => ?_) (fun _ h => ?_)
  · exact q_msk [true, true, true] (kC _ _ _ (Option.some.inj h).symm)
  · refine q_aload_n C dX12_readWeek_78 rfl ?_
    refine q_dup C dX12_readWeek_79 rfl ?_
    refine x_getI (ci := 12) (j := 10) C dX12_readWeek_80 lkF_X12_115 rfl h (fun v11 h => ?_)
    refine x_iconst (v := (1 : Int32)) C dX12_readWeek_83 (by decide) ?_
    refine q_iadd C dX12_readWeek_84 ?_
    refine x_putI (ci := 12) (j := 10) C dX12_readWeek_85 lkF_X12_115 (fun r hr => by cases hr; rfl) rfl h (fun M12 h => ?_)
    refine q_goto (tgt := 17) C dX12_readWeek_88 (by decide) ?_
    exact q_msk [true, true, true] (kC _ _ _ (Option.some.inj h).symm)
noncomputable def J_X12_readWeek_57_17 (l0 : Nat) (l1 : Int32) (s0 : Int32) (M : q_Mem) : Option ((Int32 × Int32 × q_Mem) ⊕ ((q_Mem) ⊕ ((q_Mem) ⊕ (Int32 × q_Mem)))) := (if s0 = 0 then J_X12_readWeek_74_17 l0 l1 s0 M else (if l1 = (16 : Int32) then some (.inr (.inr (.inl M))) else J_X12_readWeek_74_17 l0 l1 s0 M))
set_option maxRecDepth 100000 in
set_option maxHeartbeats 4000000 in
theorem jW_X12_readWeek_57_17 {K : q_K} {Q : State → Prop} (C : q_C K yX12_readWeek cX12_readWeek 3 (Option.none : Option Jvm.ClassFile.FieldType) 9 1 0) (l0 : Nat) (l1 : Int32) (s0 : Int32) (M : q_Mem) {stp : (Int32 × Int32 × q_Mem) ⊕ ((q_Mem) ⊕ ((q_Mem) ⊕ (Int32 × q_Mem)))} (h : J_X12_readWeek_57_17 l0 l1 s0 M = some stp) (kC : ∀ (l1 : Int32) (l2 : Int32) (M : q_Mem), stp = .inl (l1, l2, M) → q_W K 3 Q 0 0 M 17 [some (.ref l0), some (.int l1), some (.int l2)] []) (kE0 : ∀ (M : q_Mem), stp = .inr (.inl M) → q_W K 3 Q 0 0 M 39 [none, none, none] []) (kE1 : ∀ (M : q_Mem), stp = .inr (.inr (.inl M)) → q_W K 3 Q 0 0 M 68 [some (.ref l0), none, none] []) (kE2 : ∀ (l1 : Int32) (M : q_Mem), stp = .inr (.inr (.inr (l1, M))) → q_W K 3 Q 0 0 M 91 [some (.ref l0), some (.int l1), none] []) : q_W K 3 Q 0 0 M 57 [some (.ref l0), some (.int l1), none] [.int s0] := by
  unfold J_X12_readWeek_57_17 at h
  refine q_istore_n (L' := [some (.ref l0), some (.int l1), some (.int s0)]) C dX12_readWeek_57 (by decide) rfl rfl ?_
  refine q_iload_n C dX12_readWeek_58 rfl ?_
  refine q_if_eq (tgt := 74) C dX12_readWeek_59 (by decide) h (fun _ h => ?_) (fun _ h => ?_)
  · exact q_msk [true, true, true] (jW_X12_readWeek_74_17 C l0 l1 s0 M h kC kE0 kE1 kE2)
  · refine q_iload_n C dX12_readWeek_62 rfl ?_
    refine x_bipush (v := (16 : Int32)) C dX12_readWeek_63 (by decide) ?_
    refine q_icmp_ne (tgt := 74) C dX12_readWeek_65 (by decide) h (fun _ h => ?_) (fun _ h => ?_)
    · exact q_msk [true, false, false] (kE1 _ (Option.some.inj h).symm)
    · exact q_msk [true, true, true] (jW_X12_readWeek_74_17 C l0 l1 s0 M h kC kE0 kE1 kE2)
noncomputable def B_X12_readWeek_17 (l0 : Nat) (l1 : Int32) (l2 : Int32) (M : q_Mem) : Option ((Int32 × Int32 × q_Mem) ⊕ ((q_Mem) ⊕ ((q_Mem) ⊕ (Int32 × q_Mem)))) := (if l2 = 0 then some (.inr (.inr (.inr (l1, M)))) else (q_ob M l0 12 ((F_X12_readStep l0 ((3 : Int32) * ((64 : Int32) + l1)) M).bind (fun x => match x with | (_, M7) => (q_gI M7 l0 12 11 (fun v8 => (if v8 = (-1 : Int32) then (q_ob M7 l0 12 ((F_X12_look l0 M7).bind (fun x => match x with | (u9, M10) => (if u9 = (59 : Int32) then J_X12_readWeek_57_17 l0 (l1 + (1 : Int32)) (1 : Int32) M10 else J_X12_readWeek_57_17 l0 (l1 + (1 : Int32)) (0 : Int32) M10)))) else some (.inr (.inl M7)))))))))
set_option maxRecDepth 100000 in
set_option maxHeartbeats 4000000 in
theorem bW_X12_readWeek_17 {K : q_K} {Q : State → Prop} (C : q_C K yX12_readWeek cX12_readWeek 3 (Option.none : Option Jvm.ClassFile.FieldType) 9 1 0) (l0 : Nat) (l1 : Int32) (l2 : Int32) (M : q_Mem) {stp : (Int32 × Int32 × q_Mem) ⊕ ((q_Mem) ⊕ ((q_Mem) ⊕ (Int32 × q_Mem)))} (h : B_X12_readWeek_17 l0 l1 l2 M = some stp) (kC : ∀ (l1 : Int32) (l2 : Int32) (M : q_Mem), stp = .inl (l1, l2, M) → q_W K 3 Q 0 0 M 17 [some (.ref l0), some (.int l1), some (.int l2)] []) (kE0 : ∀ (M : q_Mem), stp = .inr (.inl M) → q_W K 3 Q 0 0 M 39 [none, none, none] []) (kE1 : ∀ (M : q_Mem), stp = .inr (.inr (.inl M)) → q_W K 3 Q 0 0 M 68 [some (.ref l0), none, none] []) (kE2 : ∀ (l1 : Int32) (M : q_Mem), stp = .inr (.inr (.inr (l1, M))) → q_W K 3 Q 0 0 M 91 [some (.ref l0), some (.int l1), none] []) : q_W K 3 Q 0 0 M 17 [some (.ref l0), some (.int l1), some (.int l2)] [] := by
  unfold B_X12_readWeek_17 at h
  refine q_iload_n C dX12_readWeek_17 rfl ?_
  refine q_if_eq (tgt := 91) C dX12_readWeek_18 (by decide) h (fun _ h => ?_) (fun _ h => ?_)
  · exact q_msk [true, true, false] (kE2 _ _ (Option.some.inj h).symm)
  · refine q_aload_n C dX12_readWeek_21 rfl ?_
    refine x_iconst (v := (3 : Int32)) C dX12_readWeek_22 (by decide) ?_
    refine x_bipush (v := (64 : Int32)) C dX12_readWeek_23 (by decide) ?_
    refine q_iload_n C dX12_readWeek_25 rfl ?_
    refine q_iadd C dX12_readWeek_26 ?_
    refine q_imul C dX12_readWeek_27 ?_
    obtain ⟨hk, h⟩ := q_obE h
    obtain ⟨⟨_, M7⟩, e1, h⟩ := q_bind h
    refine x_callVv C dX12_readWeek_28 lkM_X12_262 mV_X12_readStep ⟨_, rfl, rfl⟩ hk (c_X12_readStep _ _ _ _ _ e1) rfl rfl (Nat.le_of_ble_eq_true rfl) (by decide) (by decide) ?_
    refine q_aload_n C dX12_readWeek_31 rfl ?_
    refine x_getI (ci := 12) (j := 11) C dX12_readWeek_32 lkF_X12_124 rfl h (fun v8 h => ?_)
    refine x_iconst (v := (-1 : Int32)) C dX12_readWeek_35 (by decide) ?_
    refine q_icmp_eq (tgt := 40) C dX12_readWeek_36 (by decide) h (fun _ h => ?_) (fun _ h => ?_)
    · refine x_iinc (w := (1 : Int32)) (L' := [some (.ref l0), some (.int (l1 + (1 : Int32))), some (.int l2)]) C dX12_readWeek_40 rfl (by decide) (by decide) rfl rfl ?_
      refine q_aload_n C dX12_readWeek_43 rfl ?_
      obtain ⟨hk, h⟩ := q_obE h
      obtain ⟨⟨u9, M10⟩, e1, h⟩ := q_bind h
      refine x_callV0 C dX12_readWeek_44 lkM_X12_134 mV_X12_look ⟨_, rfl, rfl⟩ hk (c_X12_look _ _ _ _ e1) rfl rfl (Nat.le_of_ble_eq_true rfl) (by decide) (by decide) ?_
      refine x_bipush (v := (59 : Int32)) C dX12_readWeek_47 (by decide) ?_
      refine q_icmp_ne (tgt := 56) C dX12_readWeek_49 (by decide) h (fun _ h => ?_) (fun _ h => ?_)
      · refine x_iconst (v := (1 : Int32)) C dX12_readWeek_52 (by decide) ?_
        refine q_goto (tgt := 57) C dX12_readWeek_53 (by decide) ?_
        exact q_msk [true, true, false] (jW_X12_readWeek_57_17 C l0 (l1 + (1 : Int32)) (1 : Int32) M10 h kC kE0 kE1 kE2)
      · refine x_iconst (v := (0 : Int32)) C dX12_readWeek_56 (by decide) ?_
        exact q_msk [true, true, false] (jW_X12_readWeek_57_17 C l0 (l1 + (1 : Int32)) (0 : Int32) M10 h kC kE0 kE1 kE2)
    · exact q_msk [false, false, false] (kE0 _ (Option.some.inj h).symm)
set_option maxRecDepth 100000 in
set_option maxHeartbeats 4000000 in
theorem lW_X12_readWeek_17 {K : q_K} {Q : State → Prop} (C : q_C K yX12_readWeek cX12_readWeek 3 (Option.none : Option Jvm.ClassFile.FieldType) 9 1 0) (l0 : Nat) (n : Nat) : ∀ (l1 : Int32) (l2 : Int32) (M : q_Mem) (e : ((q_Mem) ⊕ ((q_Mem) ⊕ (Int32 × q_Mem)))), q_lp (fun s => B_X12_readWeek_17 l0 s.1 s.2.1 s.2.2) n (l1, l2, M) = some e → (∀ (M : q_Mem), e = (.inl M) → q_W K 3 Q 0 0 M 39 [none, none, none] []) → (∀ (M : q_Mem), e = (.inr (.inl M)) → q_W K 3 Q 0 0 M 68 [some (.ref l0), none, none] []) → (∀ (l1 : Int32) (M : q_Mem), e = (.inr (.inr (l1, M))) → q_W K 3 Q 0 0 M 91 [some (.ref l0), some (.int l1), none] []) → q_W K 3 Q 0 0 M 17 [some (.ref l0), some (.int l1), some (.int l2)] [] := by
  induction n with
  | zero => intro l1 l2 M e h; cases h
  | succ n ih =>
    intro l1 l2 M e h kE0 kE1 kE2
    obtain ⟨stp, e1, e2⟩ := q_bind h
    refine bW_X12_readWeek_17 C l0 l1 l2 M e1 (fun a0 a1 a2 hs => ?_) (fun b0 hs => ?_) (fun b0 hs => ?_) (fun b0 b1 hs => ?_)
    · subst hs; exact ih _ _ _ _ e2 kE0 kE1 kE2
    · subst hs; exact kE0 _ (Option.some.inj e2).symm
    · subst hs; exact kE1 _ (Option.some.inj e2).symm
    · subst hs; exact kE2 _ _ (Option.some.inj e2).symm
noncomputable def F_X12_readWeek (l0 : Nat) (M : q_Mem) : Option (Unit × q_Mem) := (q_gR M l0 12 1 (fun c1 => q_nn c1 (fun r2 => (q_gI M l0 12 6 (fun v3 => (q_ob M l0 12 ((F_X12_starts l0 r2 (0 : Int32) v3 M).bind (fun x => match x with | (_, M5) => (q_lp (fun s => B_X12_readWeek_17 l0 s.1 s.2.1 s.2.2) q_fu ((0 : Int32), (1 : Int32), M5)).bind (fun e13 => match e13 with | .inl M14 => some ((), M14) | .inr (.inl M15) => (q_ob M15 l0 12 ((F_X12_fails l0 M15).bind (fun x => match x with | (u16, M17) => some ((), M17)))) | .inr (.inr (w18, M19)) => (q_gR M19 l0 12 25 (fun c20 => q_nn c20 (fun r21 => (q_tI M19 r21 (4 : Int32) w18 (fun M22 => (q_ob M22 l0 12 ((F_X12_look l0 M22).bind (fun x => match x with | (u23, M24) => (if u23 = (-1 : Int32) then some ((), M24) else (q_ob M24 l0 12 ((F_X12_fails l0 M24).bind (fun x => match x with | (u25, M26) => some ((), M26))))))))))))))))))))))
set_option maxRecDepth 100000 in
set_option maxHeartbeats 4000000 in
theorem c_X12_readWeek (l : Launch) (G : q_G) (l0 : Nat) (M : q_Mem) {r : Unit} {M' : q_Mem} (h : F_X12_readWeek l0 M = some (r, M')) : q_Met l G yX12_readWeek cX12_readWeek 3 (Option.none : Option Jvm.ClassFile.FieldType) 9 1 0 [.ref l0] M none M' := by
  unfold F_X12_readWeek at h
  refine q_enter [some (.ref l0), none, none] (by decide) (Nat.le_of_ble_eq_true rfl) rfl (fun K C => ?_)
  refine q_aload_n C dX12_readWeek_0 rfl ?_
  refine q_aload_n C dX12_readWeek_1 rfl ?_
  refine x_getR (ci := 12) (j := 1) C dX12_readWeek_2 lkF_X12_9 rfl h (fun c1 h => ?_)
  refine x_nn h (fun r2 h => ?_)
  refine x_iconst (v := (0 : Int32)) C dX12_readWeek_5 (by decide) ?_
  refine q_aload_n C dX12_readWeek_6 rfl ?_
  refine x_getI (ci := 12) (j := 6) C dX12_readWeek_7 lkF_X12_105 rfl h (fun v3 h => ?_)
  obtain ⟨hk, h⟩ := q_obE h
  obtain ⟨⟨_, M5⟩, e1, h⟩ := q_bind h
  refine x_callVv0 C dX12_readWeek_10 lkM_X12_203 mV_X12_starts ⟨_, rfl, rfl⟩ hk (c_X12_starts _ _ _ _ _ _ _ e1) rfl rfl (Nat.le_of_ble_eq_true rfl) (by decide) (by decide) ?_
  refine x_iconst (v := (0 : Int32)) C dX12_readWeek_13 (by decide) ?_
  refine q_istore_n (L' := [some (.ref l0), some (.int (0 : Int32)), none]) C dX12_readWeek_14 (by decide) rfl rfl ?_
  refine x_iconst (v := (1 : Int32)) C dX12_readWeek_15 (by decide) ?_
  refine q_istore_n (L' := [some (.ref l0), some (.int (0 : Int32)), some (.int (1 : Int32))]) C dX12_readWeek_16 (by decide) rfl rfl ?_
  obtain ⟨e13, he, h⟩ := q_bind h
  refine q_msk [true, true, true] (lW_X12_readWeek_17 C l0 q_fu _ _ _ _ he (fun M14 hs => ?_) (fun M15 hs => ?_) (fun w18 M19 hs => ?_))
  · have hs := hs.symm
    subst hs
    exact q_vret C dX12_readWeek_39 rfl (by decide) (by decide) (Option.some.inj h)
  · have hs := hs.symm
    subst hs
    refine q_aload_n C dX12_readWeek_68 rfl ?_
    obtain ⟨hk, h⟩ := q_obE h
    obtain ⟨⟨u16, M17⟩, e1, h⟩ := q_bind h
    refine x_callV0 C dX12_readWeek_69 lkM_X12_130 mV_X12_fails ⟨_, rfl, rfl⟩ hk (c_X12_fails _ _ _ _ e1) rfl rfl (Nat.le_of_ble_eq_true rfl) (by decide) (by decide) ?_
    refine q_pop C dX12_readWeek_72 rfl ?_
    exact q_vret C dX12_readWeek_73 rfl (by decide) (by decide) (Option.some.inj h)
  · have hs := hs.symm
    subst hs
    refine q_aload_n C dX12_readWeek_91 rfl ?_
    refine x_getR (ci := 12) (j := 25) C dX12_readWeek_92 lkF_X12_58 rfl h (fun c20 h => ?_)
    refine x_nn h (fun r21 h => ?_)
    refine x_iconst (v := (4 : Int32)) C dX12_readWeek_95 (by decide) ?_
    refine q_iload_n C dX12_readWeek_96 rfl ?_
    refine x_iast C dX12_readWeek_97 h (fun M22 h => ?_)
    refine q_aload_n C dX12_readWeek_98 rfl ?_
    obtain ⟨hk, h⟩ := q_obE h
    obtain ⟨⟨u23, M24⟩, e1, h⟩ := q_bind h
    refine x_callV0 C dX12_readWeek_99 lkM_X12_134 mV_X12_look ⟨_, rfl, rfl⟩ hk (c_X12_look _ _ _ _ e1) rfl rfl (Nat.le_of_ble_eq_true rfl) (by decide) (by decide) ?_
    refine x_iconst (v := (-1 : Int32)) C dX12_readWeek_102 (by decide) ?_
    refine q_icmp_eq (tgt := 111) C dX12_readWeek_103 (by decide) h (fun _ h => ?_) (fun _ h => ?_)
    · exact q_vret C dX12_readWeek_111 rfl (by decide) (by decide) (Option.some.inj h)
    · refine q_aload_n C dX12_readWeek_106 rfl ?_
      obtain ⟨hk, h⟩ := q_obE h
      obtain ⟨⟨u25, M26⟩, e1, h⟩ := q_bind h
      refine x_callV0 C dX12_readWeek_107 lkM_X12_130 mV_X12_fails ⟨_, rfl, rfl⟩ hk (c_X12_fails _ _ _ _ e1) rfl rfl (Nat.le_of_ble_eq_true rfl) (by decide) (by decide) ?_
      refine q_pop C dX12_readWeek_110 rfl ?_
      exact q_vret C dX12_readWeek_111 rfl (by decide) (by decide) (Option.some.inj h)
noncomputable def J_X12_fault_55 (l0 : Nat) (M : q_Mem) : Option (Int32 × q_Mem) := (q_gI M l0 12 11 (fun v12 => some (v12, M)))
set_option maxRecDepth 100000 in
set_option maxHeartbeats 4000000 in
theorem jW_X12_fault_55 {K : q_K} (C : q_C K yX12_fault cX12_fault 2 (Option.some Jvm.ClassFile.FieldType.int) 133 9 0) (l0 : Nat) (M : q_Mem) {r : Int32} {M' : q_Mem} (h : J_X12_fault_55 l0 M = some (r, M')) : q_W K 2 (q_Q K (some (.int r)) M' 9 0) 0 0 M 55 [some (.ref l0), none] [] := by
  unfold J_X12_fault_55 at h
  refine q_aload_n C dX12_fault_55 rfl ?_
  refine x_getI (ci := 12) (j := 11) C dX12_fault_56 lkF_X12_124 rfl h (fun v12 h => ?_)
  exact q_iret C dX12_fault_59 rfl (by decide) (by decide) (Option.some.inj h)
noncomputable def J_X12_fault_46 (l0 : Nat) (l1 : Int32) (M : q_Mem) : Option (Int32 × q_Mem) := (if l1 = (2 : Int32) then (q_ob M l0 12 ((F_X12_readWeek l0 M).bind (fun x => match x with | (_, M11) => J_X12_fault_55 l0 M11))) else J_X12_fault_55 l0 M)
set_option maxRecDepth 100000 in
set_option maxHeartbeats 4000000 in
theorem jW_X12_fault_46 {K : q_K} (C : q_C K yX12_fault cX12_fault 2 (Option.some Jvm.ClassFile.FieldType.int) 133 9 0) (l0 : Nat) (l1 : Int32) (M : q_Mem) {r : Int32} {M' : q_Mem} (h : J_X12_fault_46 l0 l1 M = some (r, M')) : q_W K 2 (q_Q K (some (.int r)) M' 9 0) 0 0 M 46 [some (.ref l0), some (.int l1)] [] := by
  unfold J_X12_fault_46 at h
  refine q_iload_n C dX12_fault_46 rfl ?_
  refine x_iconst (v := (2 : Int32)) C dX12_fault_47 (by decide) ?_
  refine q_icmp_ne (tgt := 55) C dX12_fault_48 (by decide) h (fun _ h => ?_) (fun _ h => ?_)
  · refine q_aload_n C dX12_fault_51 rfl ?_
    obtain ⟨hk, h⟩ := q_obE h
    obtain ⟨⟨_, M11⟩, e1, h⟩ := q_bind h
    refine x_callVv C dX12_fault_52 lkM_X12_273 mV_X12_readWeek ⟨_, rfl, rfl⟩ hk (c_X12_readWeek _ _ _ _ e1) rfl rfl (Nat.le_of_ble_eq_true rfl) (by decide) (by decide) ?_
    exact q_msk [true, false] (jW_X12_fault_55 C l0 M11 h)
  · exact q_msk [true, false] (jW_X12_fault_55 C l0 M h)
noncomputable def J_X12_fault_28 (l0 : Nat) (l1 : Int32) (M : q_Mem) : Option (Int32 × q_Mem) := (if l1 = (1 : Int32) then (q_gR M l0 12 1 (fun c5 => q_nn c5 (fun r6 => (q_gI M l0 12 6 (fun v7 => (q_ob M l0 12 ((F_X12_goThrough l0 r6 (0 : Int32) v7 M).bind (fun x => match x with | (_, M9) => J_X12_fault_46 l0 l1 M9)))))))) else J_X12_fault_46 l0 l1 M)
set_option maxRecDepth 100000 in
set_option maxHeartbeats 4000000 in
theorem jW_X12_fault_28 {K : q_K} (C : q_C K yX12_fault cX12_fault 2 (Option.some Jvm.ClassFile.FieldType.int) 133 9 0) (l0 : Nat) (l1 : Int32) (M : q_Mem) {r : Int32} {M' : q_Mem} (h : J_X12_fault_28 l0 l1 M = some (r, M')) : q_W K 2 (q_Q K (some (.int r)) M' 9 0) 0 0 M 28 [some (.ref l0), some (.int l1)] [] := by
  unfold J_X12_fault_28 at h
  refine q_iload_n C dX12_fault_28 rfl ?_
  refine x_iconst (v := (1 : Int32)) C dX12_fault_29 (by decide) ?_
  refine q_icmp_ne (tgt := 46) C dX12_fault_30 (by decide) h (fun _ h => ?_) (fun _ h => ?_)
  · refine q_aload_n C dX12_fault_33 rfl ?_
    refine q_aload_n C dX12_fault_34 rfl ?_
    refine x_getR (ci := 12) (j := 1) C dX12_fault_35 lkF_X12_9 rfl h (fun c5 h => ?_)
    refine x_nn h (fun r6 h => ?_)
    refine x_iconst (v := (0 : Int32)) C dX12_fault_38 (by decide) ?_
    refine q_aload_n C dX12_fault_39 rfl ?_
    refine x_getI (ci := 12) (j := 6) C dX12_fault_40 lkF_X12_105 rfl h (fun v7 h => ?_)
    obtain ⟨hk, h⟩ := q_obE h
    obtain ⟨⟨_, M9⟩, e1, h⟩ := q_bind h
    refine x_callVv C dX12_fault_43 lkM_X12_270 mV_X12_goThrough ⟨_, rfl, rfl⟩ hk (c_X12_goThrough _ _ _ _ _ _ _ e1) rfl rfl (Nat.le_of_ble_eq_true rfl) (by decide) (by decide) ?_
    exact q_msk [true, true] (jW_X12_fault_46 C l0 l1 M9 h)
  · exact q_msk [true, true] (jW_X12_fault_46 C l0 l1 M h)
noncomputable def F_X12_fault (l0 : Nat) (l1 : Int32) (M : q_Mem) : Option (Int32 × q_Mem) := (q_pI M l0 12 0 (0 : Int32) (fun M1 => ((F_X12_isIn l1.toInt64 (0 : Int64) (2 : Int64) M1).bind (fun u2 => (if u2 = 0 then some ((-2 : Int32), M1) else (if l1 = 0 then (q_ob M1 l0 12 ((F_X12_readHouse l0 M1).bind (fun x => match x with | (_, M4) => J_X12_fault_28 l0 l1 M4))) else J_X12_fault_28 l0 l1 M1))))))
set_option maxRecDepth 100000 in
set_option maxHeartbeats 4000000 in
theorem c_X12_fault (l : Launch) (G : q_G) (l0 : Nat) (l1 : Int32) (M : q_Mem) {r : Int32} {M' : q_Mem} (h : F_X12_fault l0 l1 M = some (r, M')) : q_Met l G yX12_fault cX12_fault 2 (Option.some Jvm.ClassFile.FieldType.int) 133 9 0 [.ref l0, .int l1] M (some (.int r)) M' := by
  unfold F_X12_fault at h
  refine q_enter [some (.ref l0), some (.int l1)] (by decide) (Nat.le_of_ble_eq_true rfl) rfl (fun K C => ?_)
  refine q_aload_n C dX12_fault_0 rfl ?_
  refine x_iconst (v := (0 : Int32)) C dX12_fault_1 (by decide) ?_
  refine x_putI (ci := 12) (j := 0) C dX12_fault_2 lkF_X12_92 (fun r hr => by cases hr; rfl) rfl h (fun M1 h => ?_)
  refine q_iload_n C dX12_fault_5 rfl ?_
  refine q_i2l C dX12_fault_6 ?_
  refine x_lconst (v := (0 : Int64)) C dX12_fault_7 (by decide) ?_
  refine q_ldc2 (v := (2 : Int64)) C dX12_fault_8 wd_1373 ?_
  obtain ⟨u2, e1, h⟩ := q_bind h
  refine x_callS0 C dX12_fault_11 lkM_X12_213 mS_X12_isIn (c_X12_isIn _ _ _ _ _ _ e1) rfl rfl (Nat.le_of_ble_eq_true rfl) (by decide) (by decide) ?_
  refine q_if_ne (tgt := 20) C dX12_fault_14 (by decide) h (fun _ h => ?_) (fun _ h => ?_)
  · refine x_bipush (v := (-2 : Int32)) C dX12_fault_17 (by decide) ?_
    exact q_iret C dX12_fault_19 rfl (by decide) (by decide) (Option.some.inj h)
  · refine q_iload_n C dX12_fault_20 rfl ?_
    refine q_if_ne (tgt := 28) C dX12_fault_21 (by decide) h (fun _ h => ?_) (fun _ h => ?_)
    · refine q_aload_n C dX12_fault_24 rfl ?_
      obtain ⟨hk, h⟩ := q_obE h
      obtain ⟨⟨_, M4⟩, e1, h⟩ := q_bind h
      refine x_callVv C dX12_fault_25 lkM_X12_267 mV_X12_readHouse ⟨_, rfl, rfl⟩ hk (c_X12_readHouse _ _ _ _ e1) rfl rfl (Nat.le_of_ble_eq_true rfl) (by decide) (by decide) ?_
      exact q_msk [true, true] (jW_X12_fault_28 C l0 l1 M4 h)
    · exact q_msk [true, true] (jW_X12_fault_28 C l0 l1 M1 h)
noncomputable def B_X12_text_71 (l0 : Nat) (l2 : Int32) (l3 : Int32) (M : q_Mem) : Option ((Int32 × q_Mem) ⊕ (q_Mem)) := (if l3 < l2 then (q_gR M l0 12 2 (fun c9 => q_nn c9 (fun r10 => (q_gI M l0 12 7 (fun v11 => (q_gR M l0 12 1 (fun c12 => q_nn c12 (fun r13 => (q_lI M 1 r13 l3 (fun v14 => (q_tB M r10 (((240 : Int32) * v11) + l3) v14 (fun M15 => some (.inl ((l3 + (1 : Int32)), M15)))))))))))))) else some (.inr M))
set_option maxRecDepth 100000 in
set_option maxHeartbeats 4000000 in
theorem bW_X12_text_71 {K : q_K} {Q : State → Prop} (C : q_C K yX12_text cX12_text 4 (Option.some Jvm.ClassFile.FieldType.int) 134 9 0) (l0 : Nat) (l2 : Int32) (l3 : Int32) (M : q_Mem) {stp : (Int32 × q_Mem) ⊕ (q_Mem)} (h : B_X12_text_71 l0 l2 l3 M = some stp) (kC : ∀ (l3 : Int32) (M : q_Mem), stp = .inl (l3, M) → q_W K 4 Q 0 0 M 71 [some (.ref l0), none, some (.int l2), some (.int l3)] []) (kE0 : ∀ (M : q_Mem), stp = .inr M → q_W K 4 Q 0 0 M 103 [some (.ref l0), none, some (.int l2), none] []) : q_W K 4 Q 0 0 M 71 [some (.ref l0), none, some (.int l2), some (.int l3)] [] := by
  unfold B_X12_text_71 at h
  refine q_iload_n C dX12_text_71 rfl ?_
  refine q_iload_n C dX12_text_72 rfl ?_
  refine q_icmp_ge (tgt := 103) C dX12_text_73 (by decide) h (fun _ h => ?_) (fun _ h => ?_)
  · refine q_aload_n C dX12_text_76 rfl ?_
    refine x_getR (ci := 12) (j := 2) C dX12_text_77 lkF_X12_13 rfl h (fun c9 h => ?_)
    refine x_nn h (fun r10 h => ?_)
    refine x_sipush (v := (240 : Int32)) C dX12_text_80 (by decide) ?_
    refine q_aload_n C dX12_text_83 rfl ?_
    refine x_getI (ci := 12) (j := 7) C dX12_text_84 lkF_X12_276 rfl h (fun v11 h => ?_)
    refine q_imul C dX12_text_87 ?_
    refine q_iload_n C dX12_text_88 rfl ?_
    refine q_iadd C dX12_text_89 ?_
    refine q_aload_n C dX12_text_90 rfl ?_
    refine x_getR (ci := 12) (j := 1) C dX12_text_91 lkF_X12_9 rfl h (fun c12 h => ?_)
    refine x_nn h (fun r13 h => ?_)
    refine q_iload_n C dX12_text_94 rfl ?_
    refine x_bald C dX12_text_95 h (fun v14 h => ?_)
    refine x_bast C dX12_text_96 h (fun M15 h => ?_)
    refine x_iinc (w := (1 : Int32)) (L' := [some (.ref l0), none, some (.int l2), some (.int (l3 + (1 : Int32)))]) C dX12_text_97 rfl (by decide) (by decide) rfl rfl ?_
    refine q_goto (tgt := 71) C dX12_text_100 (by decide) ?_
    exact q_msk [true, false, true, true] (kC _ _ (Option.some.inj h).symm)
  · exact q_msk [true, false, true, false] (kE0 _ (Option.some.inj h).symm)
set_option maxRecDepth 100000 in
set_option maxHeartbeats 4000000 in
theorem lW_X12_text_71 {K : q_K} {Q : State → Prop} (C : q_C K yX12_text cX12_text 4 (Option.some Jvm.ClassFile.FieldType.int) 134 9 0) (l0 : Nat) (l2 : Int32) (n : Nat) : ∀ (l3 : Int32) (M : q_Mem) (e : (q_Mem)), q_lp (fun s => B_X12_text_71 l0 l2 s.1 s.2) n (l3, M) = some e → (∀ (M : q_Mem), e = M → q_W K 4 Q 0 0 M 103 [some (.ref l0), none, some (.int l2), none] []) → q_W K 4 Q 0 0 M 71 [some (.ref l0), none, some (.int l2), some (.int l3)] [] := by
  induction n with
  | zero => intro l3 M e h; cases h
  | succ n ih =>
    intro l3 M e h kE0
    obtain ⟨stp, e1, e2⟩ := q_bind h
    refine bW_X12_text_71 C l0 l2 l3 M e1 (fun a0 a1 hs => ?_) (fun b0 hs => ?_)
    · subst hs; exact ih _ _ _ e2 kE0
    · subst hs; exact kE0 _ (Option.some.inj e2).symm
noncomputable def B_X12_text_137 (l0 : Nat) (l3 : Int32) (M : q_Mem) : Option ((Int32 × q_Mem) ⊕ (q_Mem)) := (if l3 < (48 : Int32) then (q_gR M l0 12 24 (fun c25 => q_nn c25 (fun r26 => (q_gI M l0 12 30 (fun v27 => (q_gR M l0 12 24 (fun c28 => q_nn c28 (fun r29 => (q_lI M 0 r29 ((192 : Int32) + l3) (fun v30 => (q_tI M r26 (((48 : Int32) * v27) + l3) v30 (fun M31 => some (.inl ((l3 + (1 : Int32)), M31)))))))))))))) else some (.inr M))
set_option maxRecDepth 100000 in
set_option maxHeartbeats 4000000 in
theorem bW_X12_text_137 {K : q_K} {Q : State → Prop} (C : q_C K yX12_text cX12_text 4 (Option.some Jvm.ClassFile.FieldType.int) 134 9 0) (l0 : Nat) (l3 : Int32) (M : q_Mem) {stp : (Int32 × q_Mem) ⊕ (q_Mem)} (h : B_X12_text_137 l0 l3 M = some stp) (kC : ∀ (l3 : Int32) (M : q_Mem), stp = .inl (l3, M) → q_W K 4 Q 0 0 M 137 [some (.ref l0), none, none, some (.int l3)] []) (kE0 : ∀ (M : q_Mem), stp = .inr M → q_W K 4 Q 0 0 M 173 [some (.ref l0), none, none, none] []) : q_W K 4 Q 0 0 M 137 [some (.ref l0), none, none, some (.int l3)] [] := by
  unfold B_X12_text_137 at h
  refine q_iload_n C dX12_text_137 rfl ?_
  refine x_bipush (v := (48 : Int32)) C dX12_text_138 (by decide) ?_
  refine q_icmp_ge (tgt := 173) C dX12_text_140 (by decide) h (fun _ h => ?_) (fun _ h => ?_)
  · refine q_aload_n C dX12_text_143 rfl ?_
    refine x_getR (ci := 12) (j := 24) C dX12_text_144 lkF_X12_55 rfl h (fun c25 h => ?_)
    refine x_nn h (fun r26 h => ?_)
    refine x_bipush (v := (48 : Int32)) C dX12_text_147 (by decide) ?_
    refine q_aload_n C dX12_text_149 rfl ?_
    refine x_getI (ci := 12) (j := 30) C dX12_text_150 lkF_X12_279 rfl h (fun v27 h => ?_)
    refine q_imul C dX12_text_153 ?_
    refine q_iload_n C dX12_text_154 rfl ?_
    refine q_iadd C dX12_text_155 ?_
    refine q_aload_n C dX12_text_156 rfl ?_
    refine x_getR (ci := 12) (j := 24) C dX12_text_157 lkF_X12_55 rfl h (fun c28 h => ?_)
    refine x_nn h (fun r29 h => ?_)
    refine x_sipush (v := (192 : Int32)) C dX12_text_160 (by decide) ?_
    refine q_iload_n C dX12_text_163 rfl ?_
    refine q_iadd C dX12_text_164 ?_
    refine x_iald C dX12_text_165 h (fun v30 h => ?_)
    refine x_iast C dX12_text_166 h (fun M31 h => ?_)
    refine x_iinc (w := (1 : Int32)) (L' := [some (.ref l0), none, none, some (.int (l3 + (1 : Int32)))]) C dX12_text_167 rfl (by decide) (by decide) rfl rfl ?_
    refine q_goto (tgt := 137) C dX12_text_170 (by decide) ?_
    exact q_msk [true, false, false, true] (kC _ _ (Option.some.inj h).symm)
  · exact q_msk [true, false, false, false] (kE0 _ (Option.some.inj h).symm)
set_option maxRecDepth 100000 in
set_option maxHeartbeats 4000000 in
theorem lW_X12_text_137 {K : q_K} {Q : State → Prop} (C : q_C K yX12_text cX12_text 4 (Option.some Jvm.ClassFile.FieldType.int) 134 9 0) (l0 : Nat) (n : Nat) : ∀ (l3 : Int32) (M : q_Mem) (e : (q_Mem)), q_lp (fun s => B_X12_text_137 l0 s.1 s.2) n (l3, M) = some e → (∀ (M : q_Mem), e = M → q_W K 4 Q 0 0 M 173 [some (.ref l0), none, none, none] []) → q_W K 4 Q 0 0 M 137 [some (.ref l0), none, none, some (.int l3)] [] := by
  induction n with
  | zero => intro l3 M e h; cases h
  | succ n ih =>
    intro l3 M e h kE0
    obtain ⟨stp, e1, e2⟩ := q_bind h
    refine bW_X12_text_137 C l0 l3 M e1 (fun a0 a1 hs => ?_) (fun b0 hs => ?_)
    · subst hs; exact ih _ _ _ e2 kE0
    · subst hs; exact kE0 _ (Option.some.inj e2).symm
noncomputable def B_X12_text_223 (l0 : Nat) (l3 : Int32) (M : q_Mem) : Option ((Int32 × q_Mem) ⊕ (q_Mem)) := (if l3 < (3 : Int32) then (q_gR M l0 12 18 (fun c48 => q_nn c48 (fun r49 => (q_gR M l0 12 19 (fun c50 => q_nn c50 (fun r51 => (q_lI M 0 r51 l3 (fun v52 => (q_tI M r49 l3 v52 (fun M53 => some (.inl ((l3 + (1 : Int32)), M53)))))))))))) else some (.inr M))
set_option maxRecDepth 100000 in
set_option maxHeartbeats 4000000 in
theorem bW_X12_text_223 {K : q_K} {Q : State → Prop} (C : q_C K yX12_text cX12_text 4 (Option.some Jvm.ClassFile.FieldType.int) 134 9 0) (l0 : Nat) (l3 : Int32) (M : q_Mem) {stp : (Int32 × q_Mem) ⊕ (q_Mem)} (h : B_X12_text_223 l0 l3 M = some stp) (kC : ∀ (l3 : Int32) (M : q_Mem), stp = .inl (l3, M) → q_W K 4 Q 0 0 M 223 [some (.ref l0), none, none, some (.int l3)] []) (kE0 : ∀ (M : q_Mem), stp = .inr M → q_W K 4 Q 0 0 M 246 [some (.ref l0), none, none, none] []) : q_W K 4 Q 0 0 M 223 [some (.ref l0), none, none, some (.int l3)] [] := by
  unfold B_X12_text_223 at h
  refine q_iload_n C dX12_text_223 rfl ?_
  refine x_iconst (v := (3 : Int32)) C dX12_text_224 (by decide) ?_
  refine q_icmp_ge (tgt := 246) C dX12_text_225 (by decide) h (fun _ h => ?_) (fun _ h => ?_)
  · refine q_aload_n C dX12_text_228 rfl ?_
    refine x_getR (ci := 12) (j := 18) C dX12_text_229 lkF_X12_37 rfl h (fun c48 h => ?_)
    refine x_nn h (fun r49 h => ?_)
    refine q_iload_n C dX12_text_232 rfl ?_
    refine q_aload_n C dX12_text_233 rfl ?_
    refine x_getR (ci := 12) (j := 19) C dX12_text_234 lkF_X12_40 rfl h (fun c50 h => ?_)
    refine x_nn h (fun r51 h => ?_)
    refine q_iload_n C dX12_text_237 rfl ?_
    refine x_iald C dX12_text_238 h (fun v52 h => ?_)
    refine x_iast C dX12_text_239 h (fun M53 h => ?_)
    refine x_iinc (w := (1 : Int32)) (L' := [some (.ref l0), none, none, some (.int (l3 + (1 : Int32)))]) C dX12_text_240 rfl (by decide) (by decide) rfl rfl ?_
    refine q_goto (tgt := 223) C dX12_text_243 (by decide) ?_
    exact q_msk [true, false, false, true] (kC _ _ (Option.some.inj h).symm)
  · exact q_msk [true, false, false, false] (kE0 _ (Option.some.inj h).symm)
set_option maxRecDepth 100000 in
set_option maxHeartbeats 4000000 in
theorem lW_X12_text_223 {K : q_K} {Q : State → Prop} (C : q_C K yX12_text cX12_text 4 (Option.some Jvm.ClassFile.FieldType.int) 134 9 0) (l0 : Nat) (n : Nat) : ∀ (l3 : Int32) (M : q_Mem) (e : (q_Mem)), q_lp (fun s => B_X12_text_223 l0 s.1 s.2) n (l3, M) = some e → (∀ (M : q_Mem), e = M → q_W K 4 Q 0 0 M 246 [some (.ref l0), none, none, none] []) → q_W K 4 Q 0 0 M 223 [some (.ref l0), none, none, some (.int l3)] [] := by
  induction n with
  | zero => intro l3 M e h; cases h
  | succ n ih =>
    intro l3 M e h kE0
    obtain ⟨stp, e1, e2⟩ := q_bind h
    refine bW_X12_text_223 C l0 l3 M e1 (fun a0 a1 hs => ?_) (fun b0 hs => ?_)
    · subst hs; exact ih _ _ _ e2 kE0
    · subst hs; exact kE0 _ (Option.some.inj e2).symm
noncomputable def B_X12_text_248 (l0 : Nat) (l3 : Int32) (M : q_Mem) : Option ((Int32 × q_Mem) ⊕ (q_Mem)) := (if l3 < (15 : Int32) then (q_gR M l0 12 20 (fun c56 => q_nn c56 (fun r57 => (q_gR M l0 12 21 (fun c58 => q_nn c58 (fun r59 => (q_lI M 0 r59 l3 (fun v60 => (q_tI M r57 l3 v60 (fun M61 => some (.inl ((l3 + (1 : Int32)), M61)))))))))))) else some (.inr M))
set_option maxRecDepth 100000 in
set_option maxHeartbeats 4000000 in
theorem bW_X12_text_248 {K : q_K} {Q : State → Prop} (C : q_C K yX12_text cX12_text 4 (Option.some Jvm.ClassFile.FieldType.int) 134 9 0) (l0 : Nat) (l3 : Int32) (M : q_Mem) {stp : (Int32 × q_Mem) ⊕ (q_Mem)} (h : B_X12_text_248 l0 l3 M = some stp) (kC : ∀ (l3 : Int32) (M : q_Mem), stp = .inl (l3, M) → q_W K 4 Q 0 0 M 248 [some (.ref l0), none, none, some (.int l3)] []) (kE0 : ∀ (M : q_Mem), stp = .inr M → q_W K 4 Q 0 0 M 272 [some (.ref l0), none, none, none] []) : q_W K 4 Q 0 0 M 248 [some (.ref l0), none, none, some (.int l3)] [] := by
  unfold B_X12_text_248 at h
  refine q_iload_n C dX12_text_248 rfl ?_
  refine x_bipush (v := (15 : Int32)) C dX12_text_249 (by decide) ?_
  refine q_icmp_ge (tgt := 272) C dX12_text_251 (by decide) h (fun _ h => ?_) (fun _ h => ?_)
  · refine q_aload_n C dX12_text_254 rfl ?_
    refine x_getR (ci := 12) (j := 20) C dX12_text_255 lkF_X12_43 rfl h (fun c56 h => ?_)
    refine x_nn h (fun r57 h => ?_)
    refine q_iload_n C dX12_text_258 rfl ?_
    refine q_aload_n C dX12_text_259 rfl ?_
    refine x_getR (ci := 12) (j := 21) C dX12_text_260 lkF_X12_46 rfl h (fun c58 h => ?_)
    refine x_nn h (fun r59 h => ?_)
    refine q_iload_n C dX12_text_263 rfl ?_
    refine x_iald C dX12_text_264 h (fun v60 h => ?_)
    refine x_iast C dX12_text_265 h (fun M61 h => ?_)
    refine x_iinc (w := (1 : Int32)) (L' := [some (.ref l0), none, none, some (.int (l3 + (1 : Int32)))]) C dX12_text_266 rfl (by decide) (by decide) rfl rfl ?_
    refine q_goto (tgt := 248) C dX12_text_269 (by decide) ?_
    exact q_msk [true, false, false, true] (kC _ _ (Option.some.inj h).symm)
  · exact q_msk [true, false, false, false] (kE0 _ (Option.some.inj h).symm)
set_option maxRecDepth 100000 in
set_option maxHeartbeats 4000000 in
theorem lW_X12_text_248 {K : q_K} {Q : State → Prop} (C : q_C K yX12_text cX12_text 4 (Option.some Jvm.ClassFile.FieldType.int) 134 9 0) (l0 : Nat) (n : Nat) : ∀ (l3 : Int32) (M : q_Mem) (e : (q_Mem)), q_lp (fun s => B_X12_text_248 l0 s.1 s.2) n (l3, M) = some e → (∀ (M : q_Mem), e = M → q_W K 4 Q 0 0 M 272 [some (.ref l0), none, none, none] []) → q_W K 4 Q 0 0 M 248 [some (.ref l0), none, none, some (.int l3)] [] := by
  induction n with
  | zero => intro l3 M e h; cases h
  | succ n ih =>
    intro l3 M e h kE0
    obtain ⟨stp, e1, e2⟩ := q_bind h
    refine bW_X12_text_248 C l0 l3 M e1 (fun a0 a1 hs => ?_) (fun b0 hs => ?_)
    · subst hs; exact ih _ _ _ e2 kE0
    · subst hs; exact kE0 _ (Option.some.inj e2).symm
noncomputable def B_X12_text_274 (l0 : Nat) (l3 : Int32) (M : q_Mem) : Option ((Int32 × q_Mem) ⊕ (q_Mem)) := (if l3 < (24 : Int32) then (q_gR M l0 12 22 (fun c64 => q_nn c64 (fun r65 => (q_gR M l0 12 23 (fun c66 => q_nn c66 (fun r67 => (q_lI M 0 r67 l3 (fun v68 => (q_tI M r65 l3 v68 (fun M69 => some (.inl ((l3 + (1 : Int32)), M69)))))))))))) else some (.inr M))
set_option maxRecDepth 100000 in
set_option maxHeartbeats 4000000 in
theorem bW_X12_text_274 {K : q_K} {Q : State → Prop} (C : q_C K yX12_text cX12_text 4 (Option.some Jvm.ClassFile.FieldType.int) 134 9 0) (l0 : Nat) (l3 : Int32) (M : q_Mem) {stp : (Int32 × q_Mem) ⊕ (q_Mem)} (h : B_X12_text_274 l0 l3 M = some stp) (kC : ∀ (l3 : Int32) (M : q_Mem), stp = .inl (l3, M) → q_W K 4 Q 0 0 M 274 [some (.ref l0), none, none, some (.int l3)] []) (kE0 : ∀ (M : q_Mem), stp = .inr M → q_W K 4 Q 0 0 M 298 [some (.ref l0), none, none, none] []) : q_W K 4 Q 0 0 M 274 [some (.ref l0), none, none, some (.int l3)] [] := by
  unfold B_X12_text_274 at h
  refine q_iload_n C dX12_text_274 rfl ?_
  refine x_bipush (v := (24 : Int32)) C dX12_text_275 (by decide) ?_
  refine q_icmp_ge (tgt := 298) C dX12_text_277 (by decide) h (fun _ h => ?_) (fun _ h => ?_)
  · refine q_aload_n C dX12_text_280 rfl ?_
    refine x_getR (ci := 12) (j := 22) C dX12_text_281 lkF_X12_49 rfl h (fun c64 h => ?_)
    refine x_nn h (fun r65 h => ?_)
    refine q_iload_n C dX12_text_284 rfl ?_
    refine q_aload_n C dX12_text_285 rfl ?_
    refine x_getR (ci := 12) (j := 23) C dX12_text_286 lkF_X12_52 rfl h (fun c66 h => ?_)
    refine x_nn h (fun r67 h => ?_)
    refine q_iload_n C dX12_text_289 rfl ?_
    refine x_iald C dX12_text_290 h (fun v68 h => ?_)
    refine x_iast C dX12_text_291 h (fun M69 h => ?_)
    refine x_iinc (w := (1 : Int32)) (L' := [some (.ref l0), none, none, some (.int (l3 + (1 : Int32)))]) C dX12_text_292 rfl (by decide) (by decide) rfl rfl ?_
    refine q_goto (tgt := 274) C dX12_text_295 (by decide) ?_
    exact q_msk [true, false, false, true] (kC _ _ (Option.some.inj h).symm)
  · exact q_msk [true, false, false, false] (kE0 _ (Option.some.inj h).symm)
set_option maxRecDepth 100000 in
set_option maxHeartbeats 4000000 in
theorem lW_X12_text_274 {K : q_K} {Q : State → Prop} (C : q_C K yX12_text cX12_text 4 (Option.some Jvm.ClassFile.FieldType.int) 134 9 0) (l0 : Nat) (n : Nat) : ∀ (l3 : Int32) (M : q_Mem) (e : (q_Mem)), q_lp (fun s => B_X12_text_274 l0 s.1 s.2) n (l3, M) = some e → (∀ (M : q_Mem), e = M → q_W K 4 Q 0 0 M 298 [some (.ref l0), none, none, none] []) → q_W K 4 Q 0 0 M 274 [some (.ref l0), none, none, some (.int l3)] [] := by
  induction n with
  | zero => intro l3 M e h; cases h
  | succ n ih =>
    intro l3 M e h kE0
    obtain ⟨stp, e1, e2⟩ := q_bind h
    refine bW_X12_text_274 C l0 l3 M e1 (fun a0 a1 hs => ?_) (fun b0 hs => ?_)
    · subst hs; exact ih _ _ _ e2 kE0
    · subst hs; exact kE0 _ (Option.some.inj e2).symm
noncomputable def B_X12_text_300 (l0 : Nat) (l3 : Int32) (M : q_Mem) : Option ((Int32 × q_Mem) ⊕ (q_Mem)) := (if l3 < (217 : Int32) then (q_gR M l0 12 32 (fun c72 => q_nn c72 (fun r73 => (q_tI M r73 l3 (0 : Int32) (fun M74 => some (.inl ((l3 + (1 : Int32)), M74))))))) else some (.inr M))
set_option maxRecDepth 100000 in
set_option maxHeartbeats 4000000 in
theorem bW_X12_text_300 {K : q_K} {Q : State → Prop} (C : q_C K yX12_text cX12_text 4 (Option.some Jvm.ClassFile.FieldType.int) 134 9 0) (l0 : Nat) (l3 : Int32) (M : q_Mem) {stp : (Int32 × q_Mem) ⊕ (q_Mem)} (h : B_X12_text_300 l0 l3 M = some stp) (kC : ∀ (l3 : Int32) (M : q_Mem), stp = .inl (l3, M) → q_W K 4 Q 0 0 M 300 [some (.ref l0), none, none, some (.int l3)] []) (kE0 : ∀ (M : q_Mem), stp = .inr M → q_W K 4 Q 0 0 M 320 [some (.ref l0), none, none, none] []) : q_W K 4 Q 0 0 M 300 [some (.ref l0), none, none, some (.int l3)] [] := by
  unfold B_X12_text_300 at h
  refine q_iload_n C dX12_text_300 rfl ?_
  refine x_sipush (v := (217 : Int32)) C dX12_text_301 (by decide) ?_
  refine q_icmp_ge (tgt := 320) C dX12_text_304 (by decide) h (fun _ h => ?_) (fun _ h => ?_)
  · refine q_aload_n C dX12_text_307 rfl ?_
    refine x_getR (ci := 12) (j := 32) C dX12_text_308 lkF_X12_61 rfl h (fun c72 h => ?_)
    refine x_nn h (fun r73 h => ?_)
    refine q_iload_n C dX12_text_311 rfl ?_
    refine x_iconst (v := (0 : Int32)) C dX12_text_312 (by decide) ?_
    refine x_iast C dX12_text_313 h (fun M74 h => ?_)
    refine x_iinc (w := (1 : Int32)) (L' := [some (.ref l0), none, none, some (.int (l3 + (1 : Int32)))]) C dX12_text_314 rfl (by decide) (by decide) rfl rfl ?_
    refine q_goto (tgt := 300) C dX12_text_317 (by decide) ?_
    exact q_msk [true, false, false, true] (kC _ _ (Option.some.inj h).symm)
  · exact q_msk [true, false, false, false] (kE0 _ (Option.some.inj h).symm)
set_option maxRecDepth 100000 in
set_option maxHeartbeats 4000000 in
theorem lW_X12_text_300 {K : q_K} {Q : State → Prop} (C : q_C K yX12_text cX12_text 4 (Option.some Jvm.ClassFile.FieldType.int) 134 9 0) (l0 : Nat) (n : Nat) : ∀ (l3 : Int32) (M : q_Mem) (e : (q_Mem)), q_lp (fun s => B_X12_text_300 l0 s.1 s.2) n (l3, M) = some e → (∀ (M : q_Mem), e = M → q_W K 4 Q 0 0 M 320 [some (.ref l0), none, none, none] []) → q_W K 4 Q 0 0 M 300 [some (.ref l0), none, none, some (.int l3)] [] := by
  induction n with
  | zero => intro l3 M e h; cases h
  | succ n ih =>
    intro l3 M e h kE0
    obtain ⟨stp, e1, e2⟩ := q_bind h
    refine bW_X12_text_300 C l0 l3 M e1 (fun a0 a1 hs => ?_) (fun b0 hs => ?_)
    · subst hs; exact ih _ _ _ e2 kE0
    · subst hs; exact kE0 _ (Option.some.inj e2).symm
noncomputable def B_X12_text_322 (l0 : Nat) (l3 : Int32) (M : q_Mem) : Option ((Int32 × q_Mem) ⊕ (q_Mem)) := (q_gI M l0 12 27 (fun v77 => (if l3 < v77 then (q_gR M l0 12 32 (fun c78 => q_nn c78 (fun r79 => (q_gR M l0 12 22 (fun c80 => q_nn c80 (fun r81 => (q_lI M 0 r81 (((4 : Int32) * l3) + (1 : Int32)) (fun v82 => (q_tI M r79 (((4 : Int32) * l3) + (0 : Int32)) v82 (fun M83 => (q_gR M83 l0 12 32 (fun c84 => q_nn c84 (fun r85 => (q_gR M83 l0 12 22 (fun c86 => q_nn c86 (fun r87 => (q_lI M83 0 r87 (((4 : Int32) * l3) + (2 : Int32)) (fun v88 => (q_tI M83 r85 (((4 : Int32) * l3) + (1 : Int32)) v88 (fun M89 => some (.inl ((l3 + (1 : Int32)), M89)))))))))))))))))))))) else some (.inr M))))
set_option maxRecDepth 100000 in
set_option maxHeartbeats 4000000 in
theorem bW_X12_text_322 {K : q_K} {Q : State → Prop} (C : q_C K yX12_text cX12_text 4 (Option.some Jvm.ClassFile.FieldType.int) 134 9 0) (l0 : Nat) (l3 : Int32) (M : q_Mem) {stp : (Int32 × q_Mem) ⊕ (q_Mem)} (h : B_X12_text_322 l0 l3 M = some stp) (kC : ∀ (l3 : Int32) (M : q_Mem), stp = .inl (l3, M) → q_W K 4 Q 0 0 M 322 [some (.ref l0), none, none, some (.int l3)] []) (kE0 : ∀ (M : q_Mem), stp = .inr M → q_W K 4 Q 0 0 M 376 [some (.ref l0), none, none, none] []) : q_W K 4 Q 0 0 M 322 [some (.ref l0), none, none, some (.int l3)] [] := by
  unfold B_X12_text_322 at h
  refine q_iload_n C dX12_text_322 rfl ?_
  refine q_aload_n C dX12_text_323 rfl ?_
  refine x_getI (ci := 12) (j := 27) C dX12_text_324 lkF_X12_287 rfl h (fun v77 h => ?_)
  refine q_icmp_ge (tgt := 376) C dX12_text_327 (by decide) h (fun _ h => ?_) (fun _ h => ?_)
  · refine q_aload_n C dX12_text_330 rfl ?_
    refine x_getR (ci := 12) (j := 32) C dX12_text_331 lkF_X12_61 rfl h (fun c78 h => ?_)
    refine x_nn h (fun r79 h => ?_)
    refine x_iconst (v := (4 : Int32)) C dX12_text_334 (by decide) ?_
    refine q_iload_n C dX12_text_335 rfl ?_
    refine q_imul C dX12_text_336 ?_
    refine x_iconst (v := (0 : Int32)) C dX12_text_337 (by decide) ?_
    refine q_iadd C dX12_text_338 ?_
    refine q_aload_n C dX12_text_339 rfl ?_
    refine x_getR (ci := 12) (j := 22) C dX12_text_340 lkF_X12_49 rfl h (fun c80 h => ?_)
    refine x_nn h (fun r81 h => ?_)
    refine x_iconst (v := (4 : Int32)) C dX12_text_343 (by decide) ?_
    refine q_iload_n C dX12_text_344 rfl ?_
    refine q_imul C dX12_text_345 ?_
    refine x_iconst (v := (1 : Int32)) C dX12_text_346 (by decide) ?_
    refine q_iadd C dX12_text_347 ?_
    refine x_iald C dX12_text_348 h (fun v82 h => ?_)
    refine x_iast C dX12_text_349 h (fun M83 h => ?_)
    refine q_aload_n C dX12_text_350 rfl ?_
    refine x_getR (ci := 12) (j := 32) C dX12_text_351 lkF_X12_61 rfl h (fun c84 h => ?_)
    refine x_nn h (fun r85 h => ?_)
    refine x_iconst (v := (4 : Int32)) C dX12_text_354 (by decide) ?_
    refine q_iload_n C dX12_text_355 rfl ?_
    refine q_imul C dX12_text_356 ?_
    refine x_iconst (v := (1 : Int32)) C dX12_text_357 (by decide) ?_
    refine q_iadd C dX12_text_358 ?_
    refine q_aload_n C dX12_text_359 rfl ?_
    refine x_getR (ci := 12) (j := 22) C dX12_text_360 lkF_X12_49 rfl h (fun c86 h => ?_)
    refine x_nn h (fun r87 h => ?_)
    refine x_iconst (v := (4 : Int32)) C dX12_text_363 (by decide) ?_
    refine q_iload_n C dX12_text_364 rfl ?_
    refine q_imul C dX12_text_365 ?_
    refine x_iconst (v := (2 : Int32)) C dX12_text_366 (by decide) ?_
    refine q_iadd C dX12_text_367 ?_
    refine x_iald C dX12_text_368 h (fun v88 h => ?_)
    refine x_iast C dX12_text_369 h (fun M89 h => ?_)
    refine x_iinc (w := (1 : Int32)) (L' := [some (.ref l0), none, none, some (.int (l3 + (1 : Int32)))]) C dX12_text_370 rfl (by decide) (by decide) rfl rfl ?_
    refine q_goto (tgt := 322) C dX12_text_373 (by decide) ?_
    exact q_msk [true, false, false, true] (kC _ _ (Option.some.inj h).symm)
  · exact q_msk [true, false, false, false] (kE0 _ (Option.some.inj h).symm)
set_option maxRecDepth 100000 in
set_option maxHeartbeats 4000000 in
theorem lW_X12_text_322 {K : q_K} {Q : State → Prop} (C : q_C K yX12_text cX12_text 4 (Option.some Jvm.ClassFile.FieldType.int) 134 9 0) (l0 : Nat) (n : Nat) : ∀ (l3 : Int32) (M : q_Mem) (e : (q_Mem)), q_lp (fun s => B_X12_text_322 l0 s.1 s.2) n (l3, M) = some e → (∀ (M : q_Mem), e = M → q_W K 4 Q 0 0 M 376 [some (.ref l0), none, none, none] []) → q_W K 4 Q 0 0 M 322 [some (.ref l0), none, none, some (.int l3)] [] := by
  induction n with
  | zero => intro l3 M e h; cases h
  | succ n ih =>
    intro l3 M e h kE0
    obtain ⟨stp, e1, e2⟩ := q_bind h
    refine bW_X12_text_322 C l0 l3 M e1 (fun a0 a1 hs => ?_) (fun b0 hs => ?_)
    · subst hs; exact ih _ _ _ e2 kE0
    · subst hs; exact kE0 _ (Option.some.inj e2).symm
noncomputable def J_X12_text_43 (l0 : Nat) (l1 : Int32) (M : q_Mem) : Option (Int32 × q_Mem) := (q_ob M l0 12 ((F_X12_fault l0 l1 M).bind (fun x => match x with | (u5, M6) => (if u5 = (-1 : Int32) then (q_gI M6 l0 12 6 (fun v7 => (q_pI M6 l0 12 6 (0 : Int32) (fun M8 => (if l1 = (1 : Int32) then (q_lp (fun s => B_X12_text_71 l0 v7 s.1 s.2) q_fu ((0 : Int32), M8)).bind (fun e16 => match e16 with | M17 => (q_gR M17 l0 12 3 (fun c18 => q_nn c18 (fun r19 => (q_gI M17 l0 12 7 (fun v20 => (q_tI M17 r19 v20 v7 (fun M21 => (q_gI M21 l0 12 7 (fun v22 => (q_pI M21 l0 12 7 (v22 + (1 : Int32)) (fun M23 => (q_gI M23 l0 12 7 (fun v24 => some ((v24 - (1 : Int32)), M23))))))))))))))) else (if l1 = (2 : Int32) then (q_lp (fun s => B_X12_text_137 l0 s.1 s.2) q_fu ((0 : Int32), M8)).bind (fun e32 => match e32 with | M33 => (q_gR M33 l0 12 25 (fun c34 => q_nn c34 (fun r35 => (q_gI M33 l0 12 30 (fun v36 => (q_gR M33 l0 12 25 (fun c37 => q_nn c37 (fun r38 => (q_lI M33 0 r38 (4 : Int32) (fun v39 => (q_tI M33 r35 v36 v39 (fun M40 => (q_gI M40 l0 12 30 (fun v41 => (q_pI M40 l0 12 30 (v41 + (1 : Int32)) (fun M42 => (q_gI M42 l0 12 30 (fun v43 => some ((v43 - (1 : Int32)), M42)))))))))))))))))))) else (q_gI M8 l0 12 28 (fun v44 => (q_pI M8 l0 12 26 v44 (fun M45 => (q_gI M45 l0 12 29 (fun v46 => (q_pI M45 l0 12 27 v46 (fun M47 => (q_lp (fun s => B_X12_text_223 l0 s.1 s.2) q_fu ((0 : Int32), M47)).bind (fun e54 => match e54 with | M55 => (q_lp (fun s => B_X12_text_248 l0 s.1 s.2) q_fu ((0 : Int32), M55)).bind (fun e62 => match e62 with | M63 => (q_lp (fun s => B_X12_text_274 l0 s.1 s.2) q_fu ((0 : Int32), M63)).bind (fun e70 => match e70 with | M71 => (q_lp (fun s => B_X12_text_300 l0 s.1 s.2) q_fu ((0 : Int32), M71)).bind (fun e75 => match e75 with | M76 => (q_lp (fun s => B_X12_text_322 l0 s.1 s.2) q_fu ((0 : Int32), M76)).bind (fun e90 => match e90 with | M91 => (q_gR M91 l0 12 32 (fun c92 => q_nn c92 (fun r93 => (q_gR M91 l0 12 18 (fun c94 => q_nn c94 (fun r95 => (q_lI M91 0 r95 (0 : Int32) (fun v96 => (q_tI M91 r93 (32 : Int32) v96 (fun M97 => (q_gR M97 l0 12 32 (fun c98 => q_nn c98 (fun r99 => (q_gR M97 l0 12 18 (fun c100 => q_nn c100 (fun r101 => (q_lI M97 0 r101 (2 : Int32) (fun v102 => (q_tI M97 r99 (33 : Int32) v102 (fun M103 => (q_pI M103 l0 12 45 (0 : Int32) (fun M104 => (q_pI M104 l0 12 42 (0 : Int32) (fun M105 => (q_pZ M105 l0 12 49 (0 : Int32) (fun M106 => (q_gI M106 l0 12 27 (fun v107 => some (v107, M106)))))))))))))))))))))))))))))))))))))))))))))))) else some ((-1 : Int32), M6)))))
set_option maxRecDepth 100000 in
set_option maxHeartbeats 4000000 in
theorem jW_X12_text_43 {K : q_K} (C : q_C K yX12_text cX12_text 4 (Option.some Jvm.ClassFile.FieldType.int) 134 9 0) (l0 : Nat) (l1 : Int32) (M : q_Mem) {r : Int32} {M' : q_Mem} (h : J_X12_text_43 l0 l1 M = some (r, M')) : q_W K 4 (q_Q K (some (.int r)) M' 9 0) 0 0 M 43 [some (.ref l0), some (.int l1), none, none] [] := by
  unfold J_X12_text_43 at h
  refine q_aload_n C dX12_text_43 rfl ?_
  refine q_iload_n C dX12_text_44 rfl ?_
  obtain ⟨hk, h⟩ := q_obE h
  obtain ⟨⟨u5, M6⟩, e1, h⟩ := q_bind h
  refine x_callV C dX12_text_45 lkM_X12_282 mV_X12_fault ⟨_, rfl, rfl⟩ hk (c_X12_fault _ _ _ _ _ e1) rfl rfl (Nat.le_of_ble_eq_true rfl) (by decide) (by decide) ?_
  refine x_iconst (v := (-1 : Int32)) C dX12_text_48 (by decide) ?_
  refine q_icmp_eq (tgt := 54) C dX12_text_49 (by decide) h (fun _ h => ?_) (fun _ h => ?_)
  · refine q_aload_n C dX12_text_54 rfl ?_
    refine x_getI (ci := 12) (j := 6) C dX12_text_55 lkF_X12_105 rfl h (fun v7 h => ?_)
    refine q_istore_n (L' := [some (.ref l0), some (.int l1), some (.int v7), none]) C dX12_text_58 (by decide) rfl rfl ?_
    refine q_aload_n C dX12_text_59 rfl ?_
    refine x_iconst (v := (0 : Int32)) C dX12_text_60 (by decide) ?_
    refine x_putI (ci := 12) (j := 6) C dX12_text_61 lkF_X12_105 (fun r hr => by cases hr; rfl) rfl h (fun M8 h => ?_)
    refine q_iload_n C dX12_text_64 rfl ?_
    refine x_iconst (v := (1 : Int32)) C dX12_text_65 (by decide) ?_
    refine q_icmp_ne (tgt := 130) C dX12_text_66 (by decide) h (fun _ h => ?_) (fun _ h => ?_)
    · refine x_iconst (v := (0 : Int32)) C dX12_text_69 (by decide) ?_
      refine q_istore_n (L' := [some (.ref l0), some (.int l1), some (.int v7), some (.int (0 : Int32))]) C dX12_text_70 (by decide) rfl rfl ?_
      obtain ⟨e16, he, h⟩ := q_bind h
      refine q_msk [true, false, true, true] (lW_X12_text_71 C l0 v7 q_fu _ _ _ he (fun M17 hs => ?_))
      · have hs := hs.symm
        subst hs
        refine q_aload_n C dX12_text_103 rfl ?_
        refine x_getR (ci := 12) (j := 3) C dX12_text_104 lkF_X12_16 rfl h (fun c18 h => ?_)
        refine x_nn h (fun r19 h => ?_)
        refine q_aload_n C dX12_text_107 rfl ?_
        refine x_getI (ci := 12) (j := 7) C dX12_text_108 lkF_X12_276 rfl h (fun v20 h => ?_)
        refine q_iload_n C dX12_text_111 rfl ?_
        refine x_iast C dX12_text_112 h (fun M21 h => ?_)
        refine q_aload_n C dX12_text_113 rfl ?_
        refine q_dup C dX12_text_114 rfl ?_
        refine x_getI (ci := 12) (j := 7) C dX12_text_115 lkF_X12_276 rfl h (fun v22 h => ?_)
        refine x_iconst (v := (1 : Int32)) C dX12_text_118 (by decide) ?_
        refine q_iadd C dX12_text_119 ?_
        refine x_putI (ci := 12) (j := 7) C dX12_text_120 lkF_X12_276 (fun r hr => by cases hr; rfl) rfl h (fun M23 h => ?_)
        refine q_aload_n C dX12_text_123 rfl ?_
        refine x_getI (ci := 12) (j := 7) C dX12_text_124 lkF_X12_276 rfl h (fun v24 h => ?_)
        refine x_iconst (v := (1 : Int32)) C dX12_text_127 (by decide) ?_
        refine q_isub C dX12_text_128 ?_
        exact q_iret C dX12_text_129 rfl (by decide) (by decide) (Option.some.inj h)
    · refine q_iload_n C dX12_text_130 rfl ?_
      refine x_iconst (v := (2 : Int32)) C dX12_text_131 (by decide) ?_
      refine q_icmp_ne (tgt := 205) C dX12_text_132 (by decide) h (fun _ h => ?_) (fun _ h => ?_)
      · refine x_iconst (v := (0 : Int32)) C dX12_text_135 (by decide) ?_
        refine q_istore_n (L' := [some (.ref l0), some (.int l1), some (.int v7), some (.int (0 : Int32))]) C dX12_text_136 (by decide) rfl rfl ?_
        obtain ⟨e32, he, h⟩ := q_bind h
        refine q_msk [true, false, false, true] (lW_X12_text_137 C l0 q_fu _ _ _ he (fun M33 hs => ?_))
        · have hs := hs.symm
          subst hs
          refine q_aload_n C dX12_text_173 rfl ?_
          refine x_getR (ci := 12) (j := 25) C dX12_text_174 lkF_X12_58 rfl h (fun c34 h => ?_)
          refine x_nn h (fun r35 h => ?_)
          refine q_aload_n C dX12_text_177 rfl ?_
          refine x_getI (ci := 12) (j := 30) C dX12_text_178 lkF_X12_279 rfl h (fun v36 h => ?_)
          refine q_aload_n C dX12_text_181 rfl ?_
          refine x_getR (ci := 12) (j := 25) C dX12_text_182 lkF_X12_58 rfl h (fun c37 h => ?_)
          refine x_nn h (fun r38 h => ?_)
          refine x_iconst (v := (4 : Int32)) C dX12_text_185 (by decide) ?_
          refine x_iald C dX12_text_186 h (fun v39 h => ?_)
          refine x_iast C dX12_text_187 h (fun M40 h => ?_)
          refine q_aload_n C dX12_text_188 rfl ?_
          refine q_dup C dX12_text_189 rfl ?_
          refine x_getI (ci := 12) (j := 30) C dX12_text_190 lkF_X12_279 rfl h (fun v41 h => ?_)
          refine x_iconst (v := (1 : Int32)) C dX12_text_193 (by decide) ?_
          refine q_iadd C dX12_text_194 ?_
          refine x_putI (ci := 12) (j := 30) C dX12_text_195 lkF_X12_279 (fun r hr => by cases hr; rfl) rfl h (fun M42 h => ?_)
          refine q_aload_n C dX12_text_198 rfl ?_
          refine x_getI (ci := 12) (j := 30) C dX12_text_199 lkF_X12_279 rfl h (fun v43 h => ?_)
          refine x_iconst (v := (1 : Int32)) C dX12_text_202 (by decide) ?_
          refine q_isub C dX12_text_203 ?_
          exact q_iret C dX12_text_204 rfl (by decide) (by decide) (Option.some.inj h)
      · refine q_aload_n C dX12_text_205 rfl ?_
        refine q_aload_n C dX12_text_206 rfl ?_
        refine x_getI (ci := 12) (j := 28) C dX12_text_207 lkF_X12_238 rfl h (fun v44 h => ?_)
        refine x_putI (ci := 12) (j := 26) C dX12_text_210 lkF_X12_284 (fun r hr => by cases hr; rfl) rfl h (fun M45 h => ?_)
        refine q_aload_n C dX12_text_213 rfl ?_
        refine q_aload_n C dX12_text_214 rfl ?_
        refine x_getI (ci := 12) (j := 29) C dX12_text_215 lkF_X12_241 rfl h (fun v46 h => ?_)
        refine x_putI (ci := 12) (j := 27) C dX12_text_218 lkF_X12_287 (fun r hr => by cases hr; rfl) rfl h (fun M47 h => ?_)
        refine x_iconst (v := (0 : Int32)) C dX12_text_221 (by decide) ?_
        refine q_istore_n (L' := [some (.ref l0), some (.int l1), some (.int v7), some (.int (0 : Int32))]) C dX12_text_222 (by decide) rfl rfl ?_
        obtain ⟨e54, he, h⟩ := q_bind h
        refine q_msk [true, false, false, true] (lW_X12_text_223 C l0 q_fu _ _ _ he (fun M55 hs => ?_))
        · have hs := hs.symm
          subst hs
          refine x_iconst (v := (0 : Int32)) C dX12_text_246 (by decide) ?_
          refine q_istore_n (L' := [some (.ref l0), none, none, some (.int (0 : Int32))]) C dX12_text_247 (by decide) rfl rfl ?_
          obtain ⟨e62, he, h⟩ := q_bind h
          refine q_msk [true, false, false, true] (lW_X12_text_248 C l0 q_fu _ _ _ he (fun M63 hs => ?_))
          · have hs := hs.symm
            subst hs
            refine x_iconst (v := (0 : Int32)) C dX12_text_272 (by decide) ?_
            refine q_istore_n (L' := [some (.ref l0), none, none, some (.int (0 : Int32))]) C dX12_text_273 (by decide) rfl rfl ?_
            obtain ⟨e70, he, h⟩ := q_bind h
            refine q_msk [true, false, false, true] (lW_X12_text_274 C l0 q_fu _ _ _ he (fun M71 hs => ?_))
            · have hs := hs.symm
              subst hs
              refine x_iconst (v := (0 : Int32)) C dX12_text_298 (by decide) ?_
              refine q_istore_n (L' := [some (.ref l0), none, none, some (.int (0 : Int32))]) C dX12_text_299 (by decide) rfl rfl ?_
              obtain ⟨e75, he, h⟩ := q_bind h
              refine q_msk [true, false, false, true] (lW_X12_text_300 C l0 q_fu _ _ _ he (fun M76 hs => ?_))
              · have hs := hs.symm
                subst hs
                refine x_iconst (v := (0 : Int32)) C dX12_text_320 (by decide) ?_
                refine q_istore_n (L' := [some (.ref l0), none, none, some (.int (0 : Int32))]) C dX12_text_321 (by decide) rfl rfl ?_
                obtain ⟨e90, he, h⟩ := q_bind h
                refine q_msk [true, false, false, true] (lW_X12_text_322 C l0 q_fu _ _ _ he (fun M91 hs => ?_))
                · have hs := hs.symm
                  subst hs
                  refine q_aload_n C dX12_text_376 rfl ?_
                  refine x_getR (ci := 12) (j := 32) C dX12_text_377 lkF_X12_61 rfl h (fun c92 h => ?_)
                  refine x_nn h (fun r93 h => ?_)
                  refine x_bipush (v := (32 : Int32)) C dX12_text_380 (by decide) ?_
                  refine q_aload_n C dX12_text_382 rfl ?_
                  refine x_getR (ci := 12) (j := 18) C dX12_text_383 lkF_X12_37 rfl h (fun c94 h => ?_)
                  refine x_nn h (fun r95 h => ?_)
                  refine x_iconst (v := (0 : Int32)) C dX12_text_386 (by decide) ?_
                  refine x_iald C dX12_text_387 h (fun v96 h => ?_)
                  refine x_iast C dX12_text_388 h (fun M97 h => ?_)
                  refine q_aload_n C dX12_text_389 rfl ?_
                  refine x_getR (ci := 12) (j := 32) C dX12_text_390 lkF_X12_61 rfl h (fun c98 h => ?_)
                  refine x_nn h (fun r99 h => ?_)
                  refine x_bipush (v := (33 : Int32)) C dX12_text_393 (by decide) ?_
                  refine q_aload_n C dX12_text_395 rfl ?_
                  refine x_getR (ci := 12) (j := 18) C dX12_text_396 lkF_X12_37 rfl h (fun c100 h => ?_)
                  refine x_nn h (fun r101 h => ?_)
                  refine x_iconst (v := (2 : Int32)) C dX12_text_399 (by decide) ?_
                  refine x_iald C dX12_text_400 h (fun v102 h => ?_)
                  refine x_iast C dX12_text_401 h (fun M103 h => ?_)
                  refine q_aload_n C dX12_text_402 rfl ?_
                  refine x_iconst (v := (0 : Int32)) C dX12_text_403 (by decide) ?_
                  refine x_putI (ci := 12) (j := 45) C dX12_text_404 lkF_X12_290 (fun r hr => by cases hr; rfl) rfl h (fun M104 h => ?_)
                  refine q_aload_n C dX12_text_407 rfl ?_
                  refine x_iconst (v := (0 : Int32)) C dX12_text_408 (by decide) ?_
                  refine x_putI (ci := 12) (j := 42) C dX12_text_409 lkF_X12_293 (fun r hr => by cases hr; rfl) rfl h (fun M105 h => ?_)
                  refine q_aload_n C dX12_text_412 rfl ?_
                  refine x_iconst (v := (0 : Int32)) C dX12_text_413 (by decide) ?_
                  refine x_putZ (ci := 12) (j := 49) C dX12_text_414 lkF_X12_296 (fun r hr => by cases hr; rfl) rfl h (fun M106 h => ?_)
                  refine q_aload_n C dX12_text_417 rfl ?_
                  refine x_getI (ci := 12) (j := 27) C dX12_text_418 lkF_X12_287 rfl h (fun v107 h => ?_)
                  exact q_iret C dX12_text_421 rfl (by decide) (by decide) (Option.some.inj h)
  · refine x_iconst (v := (-1 : Int32)) C dX12_text_52 (by decide) ?_
    exact q_iret C dX12_text_53 rfl (by decide) (by decide) (Option.some.inj h)
noncomputable def J_X12_text_30 (l0 : Nat) (l1 : Int32) (M : q_Mem) : Option (Int32 × q_Mem) := (if l1 = (2 : Int32) then (q_gI M l0 12 30 (fun v4 => (if v4 = (4 : Int32) then some ((-1 : Int32), M) else J_X12_text_43 l0 l1 M))) else J_X12_text_43 l0 l1 M)
set_option maxRecDepth 100000 in
set_option maxHeartbeats 4000000 in
theorem jW_X12_text_30 {K : q_K} (C : q_C K yX12_text cX12_text 4 (Option.some Jvm.ClassFile.FieldType.int) 134 9 0) (l0 : Nat) (l1 : Int32) (M : q_Mem) {r : Int32} {M' : q_Mem} (h : J_X12_text_30 l0 l1 M = some (r, M')) : q_W K 4 (q_Q K (some (.int r)) M' 9 0) 0 0 M 30 [some (.ref l0), some (.int l1), none, none] [] := by
  unfold J_X12_text_30 at h
  refine q_iload_n C dX12_text_30 rfl ?_
  refine x_iconst (v := (2 : Int32)) C dX12_text_31 (by decide) ?_
  refine q_icmp_ne (tgt := 43) C dX12_text_32 (by decide) h (fun _ h => ?_) (fun _ h => ?_)
  · refine q_aload_n C dX12_text_35 rfl ?_
    refine x_getI (ci := 12) (j := 30) C dX12_text_36 lkF_X12_279 rfl h (fun v4 h => ?_)
    refine x_iconst (v := (4 : Int32)) C dX12_text_39 (by decide) ?_
    refine q_icmp_eq (tgt := 52) C dX12_text_40 (by decide) h (fun _ h => ?_) (fun _ h => ?_)
    · refine x_iconst (v := (-1 : Int32)) C dX12_text_52 (by decide) ?_
      exact q_iret C dX12_text_53 rfl (by decide) (by decide) (Option.some.inj h)
    · exact q_msk [true, true, false, false] (jW_X12_text_43 C l0 l1 M h)
  · exact q_msk [true, true, false, false] (jW_X12_text_43 C l0 l1 M h)
noncomputable def F_X12_text (l0 : Nat) (l1 : Int32) (M : q_Mem) : Option (Int32 × q_Mem) := (q_pI M l0 12 0 (0 : Int32) (fun M1 => ((F_X12_isIn l1.toInt64 (0 : Int64) (2 : Int64) M1).bind (fun u2 => (if u2 = 0 then some ((-1 : Int32), M1) else (if l1 = (1 : Int32) then (q_gI M1 l0 12 7 (fun v3 => (if v3 = (4 : Int32) then some ((-1 : Int32), M1) else J_X12_text_30 l0 l1 M1))) else J_X12_text_30 l0 l1 M1))))))
set_option maxRecDepth 100000 in
set_option maxHeartbeats 4000000 in
theorem c_X12_text (l : Launch) (G : q_G) (l0 : Nat) (l1 : Int32) (M : q_Mem) {r : Int32} {M' : q_Mem} (h : F_X12_text l0 l1 M = some (r, M')) : q_Met l G yX12_text cX12_text 4 (Option.some Jvm.ClassFile.FieldType.int) 134 9 0 [.ref l0, .int l1] M (some (.int r)) M' := by
  unfold F_X12_text at h
  refine q_enter [some (.ref l0), some (.int l1), none, none] (by decide) (Nat.le_of_ble_eq_true rfl) rfl (fun K C => ?_)
  refine q_aload_n C dX12_text_0 rfl ?_
  refine x_iconst (v := (0 : Int32)) C dX12_text_1 (by decide) ?_
  refine x_putI (ci := 12) (j := 0) C dX12_text_2 lkF_X12_92 (fun r hr => by cases hr; rfl) rfl h (fun M1 h => ?_)
  refine q_iload_n C dX12_text_5 rfl ?_
  refine q_i2l C dX12_text_6 ?_
  refine x_lconst (v := (0 : Int64)) C dX12_text_7 (by decide) ?_
  refine q_ldc2 (v := (2 : Int64)) C dX12_text_8 wd_1373 ?_
  obtain ⟨u2, e1, h⟩ := q_bind h
  refine x_callS0 C dX12_text_11 lkM_X12_213 mS_X12_isIn (c_X12_isIn _ _ _ _ _ _ e1) rfl rfl (Nat.le_of_ble_eq_true rfl) (by decide) (by decide) ?_
  refine q_if_eq (tgt := 52) C dX12_text_14 (by decide) h (fun _ h => ?_) (fun _ h => ?_)
  · refine x_iconst (v := (-1 : Int32)) C dX12_text_52 (by decide) ?_
    exact q_iret C dX12_text_53 rfl (by decide) (by decide) (Option.some.inj h)
  · refine q_iload_n C dX12_text_17 rfl ?_
    refine x_iconst (v := (1 : Int32)) C dX12_text_18 (by decide) ?_
    refine q_icmp_ne (tgt := 30) C dX12_text_19 (by decide) h (fun _ h => ?_) (fun _ h => ?_)
    · refine q_aload_n C dX12_text_22 rfl ?_
      refine x_getI (ci := 12) (j := 7) C dX12_text_23 lkF_X12_276 rfl h (fun v3 h => ?_)
      refine x_iconst (v := (4 : Int32)) C dX12_text_26 (by decide) ?_
      refine q_icmp_eq (tgt := 52) C dX12_text_27 (by decide) h (fun _ h => ?_) (fun _ h => ?_)
      · refine x_iconst (v := (-1 : Int32)) C dX12_text_52 (by decide) ?_
        exact q_iret C dX12_text_53 rfl (by decide) (by decide) (Option.some.inj h)
      · exact q_msk [true, true, false, false] (jW_X12_text_30 C l0 l1 M1 h)
    · exact q_msk [true, true, false, false] (jW_X12_text_30 C l0 l1 M1 h)
noncomputable def F_X12_rule (l0 : Nat) (l1 : Int32) (M : q_Mem) : Option (Int32 × q_Mem) := (q_pI M l0 12 0 (0 : Int32) (fun M1 => (q_gI M1 l0 12 27 (fun v2 => (if v2 = 0 then some ((-1 : Int32), M1) else ((F_X12_isIn l1.toInt64 (0 : Int64) (2 : Int64) M1).bind (fun u3 => (if u3 = 0 then some ((-1 : Int32), M1) else (if l1 = 0 then (q_gR M1 l0 12 32 (fun c4 => q_nn c4 (fun r5 => (q_lI M1 0 r5 (32 : Int32) (fun v6 => some (v6, M1)))))) else (if l1 = (1 : Int32) then (q_gR M1 l0 12 18 (fun c7 => q_nn c7 (fun r8 => (q_lI M1 0 r8 (1 : Int32) (fun v9 => some (v9, M1)))))) else (q_gR M1 l0 12 32 (fun c10 => q_nn c10 (fun r11 => (q_lI M1 0 r11 (33 : Int32) (fun v12 => some (v12, M1))))))))))))))))
set_option maxRecDepth 100000 in
set_option maxHeartbeats 4000000 in
theorem c_X12_rule (l : Launch) (G : q_G) (l0 : Nat) (l1 : Int32) (M : q_Mem) {r : Int32} {M' : q_Mem} (h : F_X12_rule l0 l1 M = some (r, M')) : q_Met l G yX12_rule cX12_rule 2 (Option.some Jvm.ClassFile.FieldType.int) 2 0 0 [.ref l0, .int l1] M (some (.int r)) M' := by
  unfold F_X12_rule at h
  refine q_enter [some (.ref l0), some (.int l1)] (by decide) (Nat.le_of_ble_eq_true rfl) rfl (fun K C => ?_)
  refine q_aload_n C dX12_rule_0 rfl ?_
  refine x_iconst (v := (0 : Int32)) C dX12_rule_1 (by decide) ?_
  refine x_putI (ci := 12) (j := 0) C dX12_rule_2 lkF_X12_92 (fun r hr => by cases hr; rfl) rfl h (fun M1 h => ?_)
  refine q_aload_n C dX12_rule_5 rfl ?_
  refine x_getI (ci := 12) (j := 27) C dX12_rule_6 lkF_X12_287 rfl h (fun v2 h => ?_)
  refine q_if_eq (tgt := 24) C dX12_rule_9 (by decide) h (fun _ h => ?_) (fun _ h => ?_)
  · refine x_iconst (v := (-1 : Int32)) C dX12_rule_24 (by decide) ?_
    exact q_iret C dX12_rule_25 rfl (by decide) (by decide) (Option.some.inj h)
  · refine q_iload_n C dX12_rule_12 rfl ?_
    refine q_i2l C dX12_rule_13 ?_
    refine x_lconst (v := (0 : Int64)) C dX12_rule_14 (by decide) ?_
    refine q_ldc2 (v := (2 : Int64)) C dX12_rule_15 wd_1373 ?_
    obtain ⟨u3, e1, h⟩ := q_bind h
    refine x_callS0 C dX12_rule_18 lkM_X12_213 mS_X12_isIn (c_X12_isIn _ _ _ _ _ _ e1) rfl rfl (Nat.le_of_ble_eq_true rfl) (by decide) (by decide) ?_
    refine q_if_ne (tgt := 26) C dX12_rule_21 (by decide) h (fun _ h => ?_) (fun _ h => ?_)
    · refine x_iconst (v := (-1 : Int32)) C dX12_rule_24 (by decide) ?_
      exact q_iret C dX12_rule_25 rfl (by decide) (by decide) (Option.some.inj h)
    · refine q_iload_n C dX12_rule_26 rfl ?_
      refine q_if_ne (tgt := 40) C dX12_rule_27 (by decide) h (fun _ h => ?_) (fun _ h => ?_)
      · refine q_aload_n C dX12_rule_30 rfl ?_
        refine x_getR (ci := 12) (j := 32) C dX12_rule_31 lkF_X12_61 rfl h (fun c4 h => ?_)
        refine x_nn h (fun r5 h => ?_)
        refine x_bipush (v := (32 : Int32)) C dX12_rule_34 (by decide) ?_
        refine x_iald C dX12_rule_36 h (fun v6 h => ?_)
        refine q_goto (tgt := 61) C dX12_rule_37 (by decide) ?_
        exact q_iret C dX12_rule_61 rfl (by decide) (by decide) (Option.some.inj h)
      · refine q_iload_n C dX12_rule_40 rfl ?_
        refine x_iconst (v := (1 : Int32)) C dX12_rule_41 (by decide) ?_
        refine q_icmp_ne (tgt := 54) C dX12_rule_42 (by decide) h (fun _ h => ?_) (fun _ h => ?_)
        · refine q_aload_n C dX12_rule_45 rfl ?_
          refine x_getR (ci := 12) (j := 18) C dX12_rule_46 lkF_X12_37 rfl h (fun c7 h => ?_)
          refine x_nn h (fun r8 h => ?_)
          refine x_iconst (v := (1 : Int32)) C dX12_rule_49 (by decide) ?_
          refine x_iald C dX12_rule_50 h (fun v9 h => ?_)
          refine q_goto (tgt := 61) C dX12_rule_51 (by decide) ?_
          exact q_iret C dX12_rule_61 rfl (by decide) (by decide) (Option.some.inj h)
        · refine q_aload_n C dX12_rule_54 rfl ?_
          refine x_getR (ci := 12) (j := 32) C dX12_rule_55 lkF_X12_61 rfl h (fun c10 h => ?_)
          refine x_nn h (fun r11 h => ?_)
          refine x_bipush (v := (33 : Int32)) C dX12_rule_58 (by decide) ?_
          refine x_iald C dX12_rule_60 h (fun v12 h => ?_)
          exact q_iret C dX12_rule_61 rfl (by decide) (by decide) (Option.some.inj h)
noncomputable def F_X12_isDish (l0 : Nat) (l1 : Int32) (M : q_Mem) : Option (Int32) := (if l1 < 0 then q_rq (0 : Int32) else (q_gI M l0 12 26 (fun v1 => (if l1 < v1 then q_rq (1 : Int32) else q_rq (0 : Int32)))))
set_option maxRecDepth 100000 in
set_option maxHeartbeats 4000000 in
theorem c_X12_isDish (l : Launch) (G : q_G) (l0 : Nat) (l1 : Int32) (M : q_Mem) {r : Int32} (h : F_X12_isDish l0 l1 M = some r) : q_Met l G yX12_isDish cX12_isDish 2 (Option.some Jvm.ClassFile.FieldType.boolean) 1 0 0 [.ref l0, .int l1] M (some (.int r)) M := by
  unfold F_X12_isDish at h
  refine q_enter [some (.ref l0), some (.int l1)] (by decide) (Nat.le_of_ble_eq_true rfl) rfl (fun K C => ?_)
  refine q_iload_n C dX12_isDish_0 rfl ?_
  refine q_if_lt (tgt := 16) C dX12_isDish_1 (by decide) h (fun _ h => ?_) (fun _ h => ?_)
  · refine x_iconst (v := (0 : Int32)) C dX12_isDish_16 (by decide) ?_
    exact q_zret (res := (r, M)) C dX12_isDish_17 rfl (by decide) (by decide) (q_rqE h).1 (congrArg (fun z => (z, M)) (q_rqE h).2)
  · refine q_iload_n C dX12_isDish_4 rfl ?_
    refine q_aload_n C dX12_isDish_5 rfl ?_
    refine x_getI (ci := 12) (j := 26) C dX12_isDish_6 lkF_X12_284 rfl h (fun v1 h => ?_)
    refine q_icmp_ge (tgt := 16) C dX12_isDish_9 (by decide) h (fun _ h => ?_) (fun _ h => ?_)
    · refine x_iconst (v := (1 : Int32)) C dX12_isDish_12 (by decide) ?_
      refine q_goto (tgt := 17) C dX12_isDish_13 (by decide) ?_
      exact q_zret (res := (r, M)) C dX12_isDish_17 rfl (by decide) (by decide) (q_rqE h).1 (congrArg (fun z => (z, M)) (q_rqE h).2)
    · refine x_iconst (v := (0 : Int32)) C dX12_isDish_16 (by decide) ?_
      exact q_zret (res := (r, M)) C dX12_isDish_17 rfl (by decide) (by decide) (q_rqE h).1 (congrArg (fun z => (z, M)) (q_rqE h).2)
noncomputable def F_X12_dish (l0 : Nat) (l1 : Int32) (l2 : Int32) (M : q_Mem) : Option (Int32 × q_Mem) := (q_pI M l0 12 0 (0 : Int32) (fun M1 => (q_ob M1 l0 12 ((F_X12_isDish l0 l1 M1).bind (fun u2 => (if u2 = 0 then some ((-1 : Int32), M1) else ((F_X12_isIn l2.toInt64 (0 : Int64) (2 : Int64) M1).bind (fun u3 => (if u3 = 0 then some ((-1 : Int32), M1) else (q_gR M1 l0 12 20 (fun c4 => q_nn c4 (fun r5 => (q_lI M1 0 r5 (((3 : Int32) * l1) + l2) (fun v6 => some (v6, M1)))))))))))))))
set_option maxRecDepth 100000 in
set_option maxHeartbeats 4000000 in
theorem c_X12_dish (l : Launch) (G : q_G) (l0 : Nat) (l1 : Int32) (l2 : Int32) (M : q_Mem) {r : Int32} {M' : q_Mem} (h : F_X12_dish l0 l1 l2 M = some (r, M')) : q_Met l G yX12_dish cX12_dish 3 (Option.some Jvm.ClassFile.FieldType.int) 2 0 0 [.ref l0, .int l1, .int l2] M (some (.int r)) M' := by
  unfold F_X12_dish at h
  refine q_enter [some (.ref l0), some (.int l1), some (.int l2)] (by decide) (Nat.le_of_ble_eq_true rfl) rfl (fun K C => ?_)
  refine q_aload_n C dX12_dish_0 rfl ?_
  refine x_iconst (v := (0 : Int32)) C dX12_dish_1 (by decide) ?_
  refine x_putI (ci := 12) (j := 0) C dX12_dish_2 lkF_X12_92 (fun r hr => by cases hr; rfl) rfl h (fun M1 h => ?_)
  refine q_aload_n C dX12_dish_5 rfl ?_
  refine q_iload_n C dX12_dish_6 rfl ?_
  obtain ⟨hk, h⟩ := q_obE h
  obtain ⟨u2, e1, h⟩ := q_bind h
  refine x_callV0 C dX12_dish_7 lkM_X12_357 mV_X12_isDish ⟨_, rfl, rfl⟩ hk (c_X12_isDish _ _ _ _ _ e1) rfl rfl (Nat.le_of_ble_eq_true rfl) (by decide) (by decide) ?_
  refine q_if_eq (tgt := 38) C dX12_dish_10 (by decide) h (fun _ h => ?_) (fun _ h => ?_)
  · refine x_iconst (v := (-1 : Int32)) C dX12_dish_38 (by decide) ?_
    exact q_iret C dX12_dish_39 rfl (by decide) (by decide) (Option.some.inj h)
  · refine q_iload_n C dX12_dish_13 rfl ?_
    refine q_i2l C dX12_dish_14 ?_
    refine x_lconst (v := (0 : Int64)) C dX12_dish_15 (by decide) ?_
    refine q_ldc2 (v := (2 : Int64)) C dX12_dish_16 wd_1373 ?_
    obtain ⟨u3, e1, h⟩ := q_bind h
    refine x_callS0 C dX12_dish_19 lkM_X12_213 mS_X12_isIn (c_X12_isIn _ _ _ _ _ _ e1) rfl rfl (Nat.le_of_ble_eq_true rfl) (by decide) (by decide) ?_
    refine q_if_eq (tgt := 38) C dX12_dish_22 (by decide) h (fun _ h => ?_) (fun _ h => ?_)
    · refine x_iconst (v := (-1 : Int32)) C dX12_dish_38 (by decide) ?_
      exact q_iret C dX12_dish_39 rfl (by decide) (by decide) (Option.some.inj h)
    · refine q_aload_n C dX12_dish_25 rfl ?_
      refine x_getR (ci := 12) (j := 20) C dX12_dish_26 lkF_X12_43 rfl h (fun c4 h => ?_)
      refine x_nn h (fun r5 h => ?_)
      refine x_iconst (v := (3 : Int32)) C dX12_dish_29 (by decide) ?_
      refine q_iload_n C dX12_dish_30 rfl ?_
      refine q_imul C dX12_dish_31 ?_
      refine q_iload_n C dX12_dish_32 rfl ?_
      refine q_iadd C dX12_dish_33 ?_
      refine x_iald C dX12_dish_34 h (fun v6 h => ?_)
      refine q_goto (tgt := 39) C dX12_dish_35 (by decide) ?_
      exact q_iret C dX12_dish_39 rfl (by decide) (by decide) (Option.some.inj h)
noncomputable def F_X12_isGuest (l0 : Nat) (l1 : Int32) (M : q_Mem) : Option (Int32) := (if l1 < 0 then q_rq (0 : Int32) else (q_gI M l0 12 27 (fun v1 => (if l1 < v1 then q_rq (1 : Int32) else q_rq (0 : Int32)))))
set_option maxRecDepth 100000 in
set_option maxHeartbeats 4000000 in
theorem c_X12_isGuest (l : Launch) (G : q_G) (l0 : Nat) (l1 : Int32) (M : q_Mem) {r : Int32} (h : F_X12_isGuest l0 l1 M = some r) : q_Met l G yX12_isGuest cX12_isGuest 2 (Option.some Jvm.ClassFile.FieldType.boolean) 1 0 0 [.ref l0, .int l1] M (some (.int r)) M := by
  unfold F_X12_isGuest at h
  refine q_enter [some (.ref l0), some (.int l1)] (by decide) (Nat.le_of_ble_eq_true rfl) rfl (fun K C => ?_)
  refine q_iload_n C dX12_isGuest_0 rfl ?_
  refine q_if_lt (tgt := 16) C dX12_isGuest_1 (by decide) h (fun _ h => ?_) (fun _ h => ?_)
  · refine x_iconst (v := (0 : Int32)) C dX12_isGuest_16 (by decide) ?_
    exact q_zret (res := (r, M)) C dX12_isGuest_17 rfl (by decide) (by decide) (q_rqE h).1 (congrArg (fun z => (z, M)) (q_rqE h).2)
  · refine q_iload_n C dX12_isGuest_4 rfl ?_
    refine q_aload_n C dX12_isGuest_5 rfl ?_
    refine x_getI (ci := 12) (j := 27) C dX12_isGuest_6 lkF_X12_287 rfl h (fun v1 h => ?_)
    refine q_icmp_ge (tgt := 16) C dX12_isGuest_9 (by decide) h (fun _ h => ?_) (fun _ h => ?_)
    · refine x_iconst (v := (1 : Int32)) C dX12_isGuest_12 (by decide) ?_
      refine q_goto (tgt := 17) C dX12_isGuest_13 (by decide) ?_
      exact q_zret (res := (r, M)) C dX12_isGuest_17 rfl (by decide) (by decide) (q_rqE h).1 (congrArg (fun z => (z, M)) (q_rqE h).2)
    · refine x_iconst (v := (0 : Int32)) C dX12_isGuest_16 (by decide) ?_
      exact q_zret (res := (r, M)) C dX12_isGuest_17 rfl (by decide) (by decide) (q_rqE h).1 (congrArg (fun z => (z, M)) (q_rqE h).2)
noncomputable def F_X12_comes (l0 : Nat) (l1 : Int32) (M : q_Mem) : Option (Int32) := (q_gR M l0 12 22 (fun c1 => q_nn c1 (fun r2 => (q_lI M 0 r2 ((4 : Int32) * l1) (fun v3 => some v3)))))
set_option maxRecDepth 100000 in
set_option maxHeartbeats 4000000 in
theorem c_X12_comes (l : Launch) (G : q_G) (l0 : Nat) (l1 : Int32) (M : q_Mem) {r : Int32} (h : F_X12_comes l0 l1 M = some r) : q_Met l G yX12_comes cX12_comes 2 (Option.some Jvm.ClassFile.FieldType.int) 1 0 0 [.ref l0, .int l1] M (some (.int r)) M := by
  unfold F_X12_comes at h
  refine q_enter [some (.ref l0), some (.int l1)] (by decide) (Nat.le_of_ble_eq_true rfl) rfl (fun K C => ?_)
  refine q_aload_n C dX12_comes_0 rfl ?_
  refine x_getR (ci := 12) (j := 22) C dX12_comes_1 lkF_X12_49 rfl h (fun c1 h => ?_)
  refine x_nn h (fun r2 h => ?_)
  refine x_iconst (v := (4 : Int32)) C dX12_comes_4 (by decide) ?_
  refine q_iload_n C dX12_comes_5 rfl ?_
  refine q_imul C dX12_comes_6 ?_
  refine x_iald C dX12_comes_7 h (fun v3 h => ?_)
  exact q_iret (res := (r, M)) C dX12_comes_8 rfl (by decide) (by decide) (congrArg (fun z => (z, M)) (Option.some.inj h))
noncomputable def F_X12_pays (l0 : Nat) (l1 : Int32) (M : q_Mem) : Option (Int32) := (q_gR M l0 12 22 (fun c1 => q_nn c1 (fun r2 => (q_lI M 0 r2 (((4 : Int32) * l1) + (3 : Int32)) (fun v3 => some v3)))))
set_option maxRecDepth 100000 in
set_option maxHeartbeats 4000000 in
theorem c_X12_pays (l : Launch) (G : q_G) (l0 : Nat) (l1 : Int32) (M : q_Mem) {r : Int32} (h : F_X12_pays l0 l1 M = some r) : q_Met l G yX12_pays cX12_pays 2 (Option.some Jvm.ClassFile.FieldType.int) 1 0 0 [.ref l0, .int l1] M (some (.int r)) M := by
  unfold F_X12_pays at h
  refine q_enter [some (.ref l0), some (.int l1)] (by decide) (Nat.le_of_ble_eq_true rfl) rfl (fun K C => ?_)
  refine q_aload_n C dX12_pays_0 rfl ?_
  refine x_getR (ci := 12) (j := 22) C dX12_pays_1 lkF_X12_49 rfl h (fun c1 h => ?_)
  refine x_nn h (fun r2 h => ?_)
  refine x_iconst (v := (4 : Int32)) C dX12_pays_4 (by decide) ?_
  refine q_iload_n C dX12_pays_5 rfl ?_
  refine q_imul C dX12_pays_6 ?_
  refine x_iconst (v := (3 : Int32)) C dX12_pays_7 (by decide) ?_
  refine q_iadd C dX12_pays_8 ?_
  refine x_iald C dX12_pays_9 h (fun v3 h => ?_)
  exact q_iret (res := (r, M)) C dX12_pays_10 rfl (by decide) (by decide) (congrArg (fun z => (z, M)) (Option.some.inj h))
noncomputable def J_X12_guest_26 (l0 : Nat) (l1 : Int32) (l2 : Int32) (s0 : Nat) (s1 : Int32) (M : q_Mem) : Option (Int32 × q_Mem) := (q_pI M s0 12 0 s1 (fun M2 => (q_gI M2 l0 12 0 (fun v3 => (if 0 < v3 then some ((0 : Int32), M2) else (if l2 = (0 : Int32) then (q_ob M2 l0 12 ((F_X12_comes l0 l1 M2).bind (fun u4 => some (u4, M2)))) else (if l2 = (1 : Int32) then (q_gR M2 l0 12 32 (fun c5 => q_nn c5 (fun r6 => (q_lI M2 0 r6 (((4 : Int32) * l1) + (0 : Int32)) (fun v7 => some (v7, M2)))))) else (if l2 = (2 : Int32) then (q_gR M2 l0 12 32 (fun c8 => q_nn c8 (fun r9 => (q_lI M2 0 r9 (((4 : Int32) * l1) + (1 : Int32)) (fun v10 => some (v10, M2)))))) else (if l2 = (3 : Int32) then (q_ob M2 l0 12 ((F_X12_pays l0 l1 M2).bind (fun u11 => some (u11, M2)))) else (if l2 = (4 : Int32) then (q_gR M2 l0 12 32 (fun c12 => q_nn c12 (fun r13 => (q_lI M2 0 r13 (((4 : Int32) * l1) + (2 : Int32)) (fun v14 => some (v14, M2)))))) else (q_gR M2 l0 12 32 (fun c15 => q_nn c15 (fun r16 => (q_lI M2 0 r16 (((4 : Int32) * l1) + (3 : Int32)) (fun v17 => some (v17, M2))))))))))))))))
set_option maxRecDepth 100000 in
set_option maxHeartbeats 4000000 in
theorem jW_X12_guest_26 {K : q_K} (C : q_C K yX12_guest cX12_guest 3 (Option.some Jvm.ClassFile.FieldType.int) 2 0 0) (l0 : Nat) (l1 : Int32) (l2 : Int32) (s0 : Nat) (s1 : Int32) (M : q_Mem) {r : Int32} {M' : q_Mem} (h : J_X12_guest_26 l0 l1 l2 s0 s1 M = some (r, M')) : q_W K 3 (q_Q K (some (.int r)) M' 0 0) 0 0 M 26 [some (.ref l0), some (.int l1), some (.int l2)] [.int s1, .ref s0] := by
  unfold J_X12_guest_26 at h
  refine x_putI (ci := 12) (j := 0) C dX12_guest_26 lkF_X12_92 (fun r hr => by cases hr; rfl) rfl h (fun M2 h => ?_)
  refine q_aload_n C dX12_guest_29 rfl ?_
  refine x_getI (ci := 12) (j := 0) C dX12_guest_30 lkF_X12_92 rfl h (fun v3 h => ?_)
  refine q_if_le (tgt := 38) C dX12_guest_33 (by decide) h (fun _ h => ?_) (fun _ h => ?_)
  · refine x_iconst (v := (0 : Int32)) C dX12_guest_36 (by decide) ?_
    exact q_iret C dX12_guest_37 rfl (by decide) (by decide) (Option.some.inj h)
  · refine q_iload_n C dX12_guest_38 rfl ?_
    by_cases hs39_0 : l2 = (0 : Int32)
    · rw [if_pos hs39_0] at h
      refine q_tsIn (tgt := 72) C dX12_guest_39 hs39_0 (by decide) (by decide) rfl (by decide) ?_
      refine q_aload_n C dX12_guest_72 rfl ?_
      refine q_iload_n C dX12_guest_73 rfl ?_
      obtain ⟨hk, h⟩ := q_obE h
      obtain ⟨u4, e1, h⟩ := q_bind h
      refine x_callV0 C dX12_guest_74 lkM_X12_299 mV_X12_comes ⟨_, rfl, rfl⟩ hk (c_X12_comes _ _ _ _ _ e1) rfl rfl (Nat.le_of_ble_eq_true rfl) (by decide) (by decide) ?_
      exact q_iret C dX12_guest_77 rfl (by decide) (by decide) (Option.some.inj h)
    rw [if_neg hs39_0] at h
    by_cases hs39_1 : l2 = (1 : Int32)
    · rw [if_pos hs39_1] at h
      refine q_tsIn (tgt := 78) C dX12_guest_39 hs39_1 (by decide) (by decide) rfl (by decide) ?_
      refine q_aload_n C dX12_guest_78 rfl ?_
      refine x_getR (ci := 12) (j := 32) C dX12_guest_79 lkF_X12_61 rfl h (fun c5 h => ?_)
      refine x_nn h (fun r6 h => ?_)
      refine x_iconst (v := (4 : Int32)) C dX12_guest_82 (by decide) ?_
      refine q_iload_n C dX12_guest_83 rfl ?_
      refine q_imul C dX12_guest_84 ?_
      refine x_iconst (v := (0 : Int32)) C dX12_guest_85 (by decide) ?_
      refine q_iadd C dX12_guest_86 ?_
      refine x_iald C dX12_guest_87 h (fun v7 h => ?_)
      exact q_iret C dX12_guest_88 rfl (by decide) (by decide) (Option.some.inj h)
    rw [if_neg hs39_1] at h
    by_cases hs39_2 : l2 = (2 : Int32)
    · rw [if_pos hs39_2] at h
      refine q_tsIn (tgt := 89) C dX12_guest_39 hs39_2 (by decide) (by decide) rfl (by decide) ?_
      refine q_aload_n C dX12_guest_89 rfl ?_
      refine x_getR (ci := 12) (j := 32) C dX12_guest_90 lkF_X12_61 rfl h (fun c8 h => ?_)
      refine x_nn h (fun r9 h => ?_)
      refine x_iconst (v := (4 : Int32)) C dX12_guest_93 (by decide) ?_
      refine q_iload_n C dX12_guest_94 rfl ?_
      refine q_imul C dX12_guest_95 ?_
      refine x_iconst (v := (1 : Int32)) C dX12_guest_96 (by decide) ?_
      refine q_iadd C dX12_guest_97 ?_
      refine x_iald C dX12_guest_98 h (fun v10 h => ?_)
      exact q_iret C dX12_guest_99 rfl (by decide) (by decide) (Option.some.inj h)
    rw [if_neg hs39_2] at h
    by_cases hs39_3 : l2 = (3 : Int32)
    · rw [if_pos hs39_3] at h
      refine q_tsIn (tgt := 100) C dX12_guest_39 hs39_3 (by decide) (by decide) rfl (by decide) ?_
      refine q_aload_n C dX12_guest_100 rfl ?_
      refine q_iload_n C dX12_guest_101 rfl ?_
      obtain ⟨hk, h⟩ := q_obE h
      obtain ⟨u11, e1, h⟩ := q_bind h
      refine x_callV0 C dX12_guest_102 lkM_X12_306 mV_X12_pays ⟨_, rfl, rfl⟩ hk (c_X12_pays _ _ _ _ _ e1) rfl rfl (Nat.le_of_ble_eq_true rfl) (by decide) (by decide) ?_
      exact q_iret C dX12_guest_105 rfl (by decide) (by decide) (Option.some.inj h)
    rw [if_neg hs39_3] at h
    by_cases hs39_4 : l2 = (4 : Int32)
    · rw [if_pos hs39_4] at h
      refine q_tsIn (tgt := 106) C dX12_guest_39 hs39_4 (by decide) (by decide) rfl (by decide) ?_
      refine q_aload_n C dX12_guest_106 rfl ?_
      refine x_getR (ci := 12) (j := 32) C dX12_guest_107 lkF_X12_61 rfl h (fun c12 h => ?_)
      refine x_nn h (fun r13 h => ?_)
      refine x_iconst (v := (4 : Int32)) C dX12_guest_110 (by decide) ?_
      refine q_iload_n C dX12_guest_111 rfl ?_
      refine q_imul C dX12_guest_112 ?_
      refine x_iconst (v := (2 : Int32)) C dX12_guest_113 (by decide) ?_
      refine q_iadd C dX12_guest_114 ?_
      refine x_iald C dX12_guest_115 h (fun v14 h => ?_)
      exact q_iret C dX12_guest_116 rfl (by decide) (by decide) (Option.some.inj h)
    rw [if_neg hs39_4] at h
    have ho39 : (l2 : Int32).toInt < 0 ∨ 4 < (l2 : Int32).toInt := by
      have z0 := lv_neT (a := 0) hs39_0 (by decide)
      have z1 := lv_neT (a := 1) hs39_1 (by decide)
      have z2 := lv_neT (a := 2) hs39_2 (by decide)
      have z3 := lv_neT (a := 3) hs39_3 (by decide)
      have z4 := lv_neT (a := 4) hs39_4 (by decide)
      omega
    refine q_tsOut (tgt := 117) C dX12_guest_39 ho39 (by decide) ?_
    refine q_aload_n C dX12_guest_117 rfl ?_
    refine x_getR (ci := 12) (j := 32) C dX12_guest_118 lkF_X12_61 rfl h (fun c15 h => ?_)
    refine x_nn h (fun r16 h => ?_)
    refine x_iconst (v := (4 : Int32)) C dX12_guest_121 (by decide) ?_
    refine q_iload_n C dX12_guest_122 rfl ?_
    refine q_imul C dX12_guest_123 ?_
    refine x_iconst (v := (3 : Int32)) C dX12_guest_124 (by decide) ?_
    refine q_iadd C dX12_guest_125 ?_
    refine x_iald C dX12_guest_126 h (fun v17 h => ?_)
    exact q_iret C dX12_guest_127 rfl (by decide) (by decide) (Option.some.inj h)
noncomputable def J_X12_guest_25 (l0 : Nat) (l1 : Int32) (l2 : Int32) (s0 : Nat) (M : q_Mem) : Option (Int32 × q_Mem) := J_X12_guest_26 l0 l1 l2 s0 (1 : Int32) M
set_option maxRecDepth 100000 in
set_option maxHeartbeats 4000000 in
theorem jW_X12_guest_25 {K : q_K} (C : q_C K yX12_guest cX12_guest 3 (Option.some Jvm.ClassFile.FieldType.int) 2 0 0) (l0 : Nat) (l1 : Int32) (l2 : Int32) (s0 : Nat) (M : q_Mem) {r : Int32} {M' : q_Mem} (h : J_X12_guest_25 l0 l1 l2 s0 M = some (r, M')) : q_W K 3 (q_Q K (some (.int r)) M' 0 0) 0 0 M 25 [some (.ref l0), some (.int l1), some (.int l2)] [.ref s0] := by
  unfold J_X12_guest_25 at h
  refine x_iconst (v := (1 : Int32)) C dX12_guest_25 (by decide) ?_
  exact q_msk [true, true, true] (jW_X12_guest_26 C l0 l1 l2 s0 (1 : Int32) M h)
noncomputable def F_X12_guest (l0 : Nat) (l1 : Int32) (l2 : Int32) (M : q_Mem) : Option (Int32 × q_Mem) := (q_ob M l0 12 ((F_X12_isGuest l0 l1 M).bind (fun u1 => (if u1 = 0 then J_X12_guest_25 l0 l1 l2 l0 M else ((F_X12_isIn l2.toInt64 (0 : Int64) (5 : Int64) M).bind (fun u18 => (if u18 = 0 then J_X12_guest_25 l0 l1 l2 l0 M else J_X12_guest_26 l0 l1 l2 l0 (0 : Int32) M)))))))
set_option maxRecDepth 100000 in
set_option maxHeartbeats 4000000 in
theorem c_X12_guest (l : Launch) (G : q_G) (l0 : Nat) (l1 : Int32) (l2 : Int32) (M : q_Mem) {r : Int32} {M' : q_Mem} (h : F_X12_guest l0 l1 l2 M = some (r, M')) : q_Met l G yX12_guest cX12_guest 3 (Option.some Jvm.ClassFile.FieldType.int) 2 0 0 [.ref l0, .int l1, .int l2] M (some (.int r)) M' := by
  unfold F_X12_guest at h
  refine q_enter [some (.ref l0), some (.int l1), some (.int l2)] (by decide) (Nat.le_of_ble_eq_true rfl) rfl (fun K C => ?_)
  refine q_aload_n C dX12_guest_0 rfl ?_
  refine q_aload_n C dX12_guest_1 rfl ?_
  refine q_iload_n C dX12_guest_2 rfl ?_
  obtain ⟨hk, h⟩ := q_obE h
  obtain ⟨u1, e1, h⟩ := q_bind h
  refine x_callV0 C dX12_guest_3 lkM_X12_360 mV_X12_isGuest ⟨_, rfl, rfl⟩ hk (c_X12_isGuest _ _ _ _ _ e1) rfl rfl (Nat.le_of_ble_eq_true rfl) (by decide) (by decide) ?_
  refine q_if_eq (tgt := 25) C dX12_guest_6 (by decide) h (fun _ h => ?_) (fun _ h => ?_)
  · exact q_msk [true, true, true] (jW_X12_guest_25 C l0 l1 l2 l0 M h)
  · refine q_iload_n C dX12_guest_9 rfl ?_
    refine q_i2l C dX12_guest_10 ?_
    refine x_lconst (v := (0 : Int64)) C dX12_guest_11 (by decide) ?_
    refine q_ldc2 (v := (5 : Int64)) C dX12_guest_12 wd_1548 ?_
    obtain ⟨u18, e1, h⟩ := q_bind h
    refine x_callS0 C dX12_guest_15 lkM_X12_213 mS_X12_isIn (c_X12_isIn _ _ _ _ _ _ e1) rfl rfl (Nat.le_of_ble_eq_true rfl) (by decide) (by decide) ?_
    refine q_if_eq (tgt := 25) C dX12_guest_18 (by decide) h (fun _ h => ?_) (fun _ h => ?_)
    · exact q_msk [true, true, true] (jW_X12_guest_25 C l0 l1 l2 l0 M h)
    · refine x_iconst (v := (0 : Int32)) C dX12_guest_21 (by decide) ?_
      refine q_goto (tgt := 26) C dX12_guest_22 (by decide) ?_
      exact q_msk [true, true, true] (jW_X12_guest_26 C l0 l1 l2 l0 (0 : Int32) M h)
noncomputable def F_X12_thrown (l0 : Nat) (M : q_Mem) : Option (Int32) := (q_gI M l0 12 0 (fun v1 => some v1))
set_option maxRecDepth 100000 in
set_option maxHeartbeats 4000000 in
theorem c_X12_thrown (l : Launch) (G : q_G) (l0 : Nat) (M : q_Mem) {r : Int32} (h : F_X12_thrown l0 M = some r) : q_Met l G yX12_thrown cX12_thrown 1 (Option.some Jvm.ClassFile.FieldType.int) 1 0 0 [.ref l0] M (some (.int r)) M := by
  unfold F_X12_thrown at h
  refine q_enter [some (.ref l0)] (by decide) (Nat.le_of_ble_eq_true rfl) rfl (fun K C => ?_)
  refine q_aload_n C dX12_thrown_0 rfl ?_
  refine x_getI (ci := 12) (j := 0) C dX12_thrown_1 lkF_X12_92 rfl h (fun v1 h => ?_)
  exact q_iret (res := (r, M)) C dX12_thrown_4 rfl (by decide) (by decide) (congrArg (fun z => (z, M)) (Option.some.inj h))
noncomputable def J_X12_law_28 (l0 : Nat) (l1 : Int32) (M : q_Mem) : Option (Int32 × q_Mem) := (q_pI M l0 12 34 l1 (fun M2 => q_rz (1 : Int32) M2))
set_option maxRecDepth 100000 in
set_option maxHeartbeats 4000000 in
theorem jW_X12_law_28 {K : q_K} (C : q_C K yX12_law cX12_law 2 (Option.some Jvm.ClassFile.FieldType.boolean) 2 0 0) (l0 : Nat) (l1 : Int32) (M : q_Mem) {r : Int32} {M' : q_Mem} (h : J_X12_law_28 l0 l1 M = some (r, M')) : q_W K 2 (q_Q K (some (.int r)) M' 0 0) 0 0 M 28 [some (.ref l0), some (.int l1)] [] := by
  unfold J_X12_law_28 at h
  refine q_aload_n C dX12_law_28 rfl ?_
  refine q_iload_n C dX12_law_29 rfl ?_
  refine x_putI (ci := 12) (j := 34) C dX12_law_30 lkF_X12_67 (fun r hr => by cases hr; rfl) rfl h (fun M2 h => ?_)
  refine x_iconst (v := (1 : Int32)) C dX12_law_33 (by decide) ?_
  exact q_zret C dX12_law_34 rfl (by decide) (by decide) (q_rzE h).1 (q_rzE h).2
noncomputable def F_X12_law (l0 : Nat) (l1 : Int32) (M : q_Mem) : Option (Int32 × q_Mem) := (q_pI M l0 12 0 (0 : Int32) (fun M1 => (if l1 = (-1 : Int32) then J_X12_law_28 l0 l1 M1 else (q_gI M1 l0 12 7 (fun v3 => ((F_X12_isIn l1.toInt64 (0 : Int64) ((v3 - (1 : Int32)).toInt64) M1).bind (fun u4 => (if u4 = 0 then q_rz (0 : Int32) M1 else J_X12_law_28 l0 l1 M1))))))))
set_option maxRecDepth 100000 in
set_option maxHeartbeats 4000000 in
theorem c_X12_law (l : Launch) (G : q_G) (l0 : Nat) (l1 : Int32) (M : q_Mem) {r : Int32} {M' : q_Mem} (h : F_X12_law l0 l1 M = some (r, M')) : q_Met l G yX12_law cX12_law 2 (Option.some Jvm.ClassFile.FieldType.boolean) 2 0 0 [.ref l0, .int l1] M (some (.int r)) M' := by
  unfold F_X12_law at h
  refine q_enter [some (.ref l0), some (.int l1)] (by decide) (Nat.le_of_ble_eq_true rfl) rfl (fun K C => ?_)
  refine q_aload_n C dX12_law_0 rfl ?_
  refine x_iconst (v := (0 : Int32)) C dX12_law_1 (by decide) ?_
  refine x_putI (ci := 12) (j := 0) C dX12_law_2 lkF_X12_92 (fun r hr => by cases hr; rfl) rfl h (fun M1 h => ?_)
  refine q_iload_n C dX12_law_5 rfl ?_
  refine x_iconst (v := (-1 : Int32)) C dX12_law_6 (by decide) ?_
  refine q_icmp_eq (tgt := 28) C dX12_law_7 (by decide) h (fun _ h => ?_) (fun _ h => ?_)
  · exact q_msk [true, true] (jW_X12_law_28 C l0 l1 M1 h)
  · refine q_iload_n C dX12_law_10 rfl ?_
    refine q_i2l C dX12_law_11 ?_
    refine x_lconst (v := (0 : Int64)) C dX12_law_12 (by decide) ?_
    refine q_aload_n C dX12_law_13 rfl ?_
    refine x_getI (ci := 12) (j := 7) C dX12_law_14 lkF_X12_276 rfl h (fun v3 h => ?_)
    refine x_iconst (v := (1 : Int32)) C dX12_law_17 (by decide) ?_
    refine q_isub C dX12_law_18 ?_
    refine q_i2l C dX12_law_19 ?_
    obtain ⟨u4, e1, h⟩ := q_bind h
    refine x_callS0 C dX12_law_20 lkM_X12_213 mS_X12_isIn (c_X12_isIn _ _ _ _ _ _ e1) rfl rfl (Nat.le_of_ble_eq_true rfl) (by decide) (by decide) ?_
    refine q_if_ne (tgt := 28) C dX12_law_23 (by decide) h (fun _ h => ?_) (fun _ h => ?_)
    · refine x_iconst (v := (0 : Int32)) C dX12_law_26 (by decide) ?_
      exact q_zret C dX12_law_27 rfl (by decide) (by decide) (q_rzE h).1 (q_rzE h).2
    · exact q_msk [true, true] (jW_X12_law_28 C l0 l1 M1 h)
noncomputable def F_X12_fever (l0 : Nat) (l1 : Int32) (M : q_Mem) : Option (Int32 × q_Mem) := (q_pI M l0 12 0 (0 : Int32) (fun M1 => ((F_X12_isIn l1.toInt64 (0 : Int64) (9 : Int64) M1).bind (fun u2 => (if u2 = 0 then q_rz (0 : Int32) M1 else (q_gI M1 l0 12 35 (fun v3 => (if l1 = v3 then q_rz (0 : Int32) M1 else (q_pI M1 l0 12 35 l1 (fun M4 => q_rz (1 : Int32) M4))))))))))
set_option maxRecDepth 100000 in
set_option maxHeartbeats 4000000 in
theorem c_X12_fever (l : Launch) (G : q_G) (l0 : Nat) (l1 : Int32) (M : q_Mem) {r : Int32} {M' : q_Mem} (h : F_X12_fever l0 l1 M = some (r, M')) : q_Met l G yX12_fever cX12_fever 2 (Option.some Jvm.ClassFile.FieldType.boolean) 2 0 0 [.ref l0, .int l1] M (some (.int r)) M' := by
  unfold F_X12_fever at h
  refine q_enter [some (.ref l0), some (.int l1)] (by decide) (Nat.le_of_ble_eq_true rfl) rfl (fun K C => ?_)
  refine q_aload_n C dX12_fever_0 rfl ?_
  refine x_iconst (v := (0 : Int32)) C dX12_fever_1 (by decide) ?_
  refine x_putI (ci := 12) (j := 0) C dX12_fever_2 lkF_X12_92 (fun r hr => by cases hr; rfl) rfl h (fun M1 h => ?_)
  refine q_iload_n C dX12_fever_5 rfl ?_
  refine q_i2l C dX12_fever_6 ?_
  refine x_lconst (v := (0 : Int64)) C dX12_fever_7 (by decide) ?_
  refine q_ldc2 (v := (9 : Int64)) C dX12_fever_8 wd_1565 ?_
  obtain ⟨u2, e1, h⟩ := q_bind h
  refine x_callS0 C dX12_fever_11 lkM_X12_213 mS_X12_isIn (c_X12_isIn _ _ _ _ _ _ e1) rfl rfl (Nat.le_of_ble_eq_true rfl) (by decide) (by decide) ?_
  refine q_if_eq (tgt := 25) C dX12_fever_14 (by decide) h (fun _ h => ?_) (fun _ h => ?_)
  · refine x_iconst (v := (0 : Int32)) C dX12_fever_25 (by decide) ?_
    exact q_zret C dX12_fever_26 rfl (by decide) (by decide) (q_rzE h).1 (q_rzE h).2
  · refine q_iload_n C dX12_fever_17 rfl ?_
    refine q_aload_n C dX12_fever_18 rfl ?_
    refine x_getI (ci := 12) (j := 35) C dX12_fever_19 lkF_X12_71 rfl h (fun v3 h => ?_)
    refine q_icmp_ne (tgt := 27) C dX12_fever_22 (by decide) h (fun _ h => ?_) (fun _ h => ?_)
    · refine x_iconst (v := (0 : Int32)) C dX12_fever_25 (by decide) ?_
      exact q_zret C dX12_fever_26 rfl (by decide) (by decide) (q_rzE h).1 (q_rzE h).2
    · refine q_aload_n C dX12_fever_27 rfl ?_
      refine q_iload_n C dX12_fever_28 rfl ?_
      refine x_putI (ci := 12) (j := 35) C dX12_fever_29 lkF_X12_71 (fun r hr => by cases hr; rfl) rfl h (fun M4 h => ?_)
      refine x_iconst (v := (1 : Int32)) C dX12_fever_32 (by decide) ?_
      exact q_zret C dX12_fever_33 rfl (by decide) (by decide) (q_rzE h).1 (q_rzE h).2
noncomputable def B_X12_remember_11 (l0 : Nat) (l1 : Int32) (M : q_Mem) : Option ((Int32 × q_Mem) ⊕ (q_Mem)) := (if l1 < (8463 : Int32) then (q_gR M l0 12 41 (fun c2 => q_nn c2 (fun r3 => (q_gR M l0 12 41 (fun c4 => q_nn c4 (fun r5 => (q_lI M 0 r5 (l1 + (217 : Int32)) (fun v6 => (q_tI M r3 l1 v6 (fun M7 => some (.inl ((l1 + (1 : Int32)), M7)))))))))))) else some (.inr M))
set_option maxRecDepth 100000 in
set_option maxHeartbeats 4000000 in
theorem bW_X12_remember_11 {K : q_K} {Q : State → Prop} (C : q_C K yX12_remember cX12_remember 2 (Option.none : Option Jvm.ClassFile.FieldType) 1 0 0) (l0 : Nat) (l1 : Int32) (M : q_Mem) {stp : (Int32 × q_Mem) ⊕ (q_Mem)} (h : B_X12_remember_11 l0 l1 M = some stp) (kC : ∀ (l1 : Int32) (M : q_Mem), stp = .inl (l1, M) → q_W K 2 Q 0 0 M 11 [some (.ref l0), some (.int l1)] []) (kE0 : ∀ (M : q_Mem), stp = .inr M → q_W K 2 Q 0 0 M 40 [some (.ref l0), none] []) : q_W K 2 Q 0 0 M 11 [some (.ref l0), some (.int l1)] [] := by
  unfold B_X12_remember_11 at h
  refine q_iload_n C dX12_remember_11 rfl ?_
  refine x_sipush (v := (8463 : Int32)) C dX12_remember_12 (by decide) ?_
  refine q_icmp_ge (tgt := 40) C dX12_remember_15 (by decide) h (fun _ h => ?_) (fun _ h => ?_)
  · refine q_aload_n C dX12_remember_18 rfl ?_
    refine x_getR (ci := 12) (j := 41) C dX12_remember_19 lkF_X12_77 rfl h (fun c2 h => ?_)
    refine x_nn h (fun r3 h => ?_)
    refine q_iload_n C dX12_remember_22 rfl ?_
    refine q_aload_n C dX12_remember_23 rfl ?_
    refine x_getR (ci := 12) (j := 41) C dX12_remember_24 lkF_X12_77 rfl h (fun c4 h => ?_)
    refine x_nn h (fun r5 h => ?_)
    refine q_iload_n C dX12_remember_27 rfl ?_
    refine x_sipush (v := (217 : Int32)) C dX12_remember_28 (by decide) ?_
    refine q_iadd C dX12_remember_31 ?_
    refine x_iald C dX12_remember_32 h (fun v6 h => ?_)
    refine x_iast C dX12_remember_33 h (fun M7 h => ?_)
    refine x_iinc (w := (1 : Int32)) (L' := [some (.ref l0), some (.int (l1 + (1 : Int32)))]) C dX12_remember_34 rfl (by decide) (by decide) rfl rfl ?_
    refine q_goto (tgt := 11) C dX12_remember_37 (by decide) ?_
    exact q_msk [true, true] (kC _ _ (Option.some.inj h).symm)
  · exact q_msk [true, false] (kE0 _ (Option.some.inj h).symm)
set_option maxRecDepth 100000 in
set_option maxHeartbeats 4000000 in
theorem lW_X12_remember_11 {K : q_K} {Q : State → Prop} (C : q_C K yX12_remember cX12_remember 2 (Option.none : Option Jvm.ClassFile.FieldType) 1 0 0) (l0 : Nat) (n : Nat) : ∀ (l1 : Int32) (M : q_Mem) (e : (q_Mem)), q_lp (fun s => B_X12_remember_11 l0 s.1 s.2) n (l1, M) = some e → (∀ (M : q_Mem), e = M → q_W K 2 Q 0 0 M 40 [some (.ref l0), none] []) → q_W K 2 Q 0 0 M 11 [some (.ref l0), some (.int l1)] [] := by
  induction n with
  | zero => intro l1 M e h; cases h
  | succ n ih =>
    intro l1 M e h kE0
    obtain ⟨stp, e1, e2⟩ := q_bind h
    refine bW_X12_remember_11 C l0 l1 M e1 (fun a0 a1 hs => ?_) (fun b0 hs => ?_)
    · subst hs; exact ih _ _ _ e2 kE0
    · subst hs; exact kE0 _ (Option.some.inj e2).symm
noncomputable def B_X12_remember_52 (l0 : Nat) (l1 : Int32) (M : q_Mem) : Option ((Int32 × q_Mem) ⊕ (q_Mem)) := (if l1 < (217 : Int32) then (q_gR M l0 12 41 (fun c12 => q_nn c12 (fun r13 => (q_gI M l0 12 42 (fun v14 => (q_gR M l0 12 32 (fun c15 => q_nn c15 (fun r16 => (q_lI M 0 r16 l1 (fun v17 => (q_tI M r13 (((217 : Int32) * v14) + l1) v17 (fun M18 => some (.inl ((l1 + (1 : Int32)), M18)))))))))))))) else some (.inr M))
set_option maxRecDepth 100000 in
set_option maxHeartbeats 4000000 in
theorem bW_X12_remember_52 {K : q_K} {Q : State → Prop} (C : q_C K yX12_remember cX12_remember 2 (Option.none : Option Jvm.ClassFile.FieldType) 1 0 0) (l0 : Nat) (l1 : Int32) (M : q_Mem) {stp : (Int32 × q_Mem) ⊕ (q_Mem)} (h : B_X12_remember_52 l0 l1 M = some stp) (kC : ∀ (l1 : Int32) (M : q_Mem), stp = .inl (l1, M) → q_W K 2 Q 0 0 M 52 [some (.ref l0), some (.int l1)] []) (kE0 : ∀ (M : q_Mem), stp = .inr M → q_W K 2 Q 0 0 M 86 [some (.ref l0), none] []) : q_W K 2 Q 0 0 M 52 [some (.ref l0), some (.int l1)] [] := by
  unfold B_X12_remember_52 at h
  refine q_iload_n C dX12_remember_52 rfl ?_
  refine x_sipush (v := (217 : Int32)) C dX12_remember_53 (by decide) ?_
  refine q_icmp_ge (tgt := 86) C dX12_remember_56 (by decide) h (fun _ h => ?_) (fun _ h => ?_)
  · refine q_aload_n C dX12_remember_59 rfl ?_
    refine x_getR (ci := 12) (j := 41) C dX12_remember_60 lkF_X12_77 rfl h (fun c12 h => ?_)
    refine x_nn h (fun r13 h => ?_)
    refine x_sipush (v := (217 : Int32)) C dX12_remember_63 (by decide) ?_
    refine q_aload_n C dX12_remember_66 rfl ?_
    refine x_getI (ci := 12) (j := 42) C dX12_remember_67 lkF_X12_293 rfl h (fun v14 h => ?_)
    refine q_imul C dX12_remember_70 ?_
    refine q_iload_n C dX12_remember_71 rfl ?_
    refine q_iadd C dX12_remember_72 ?_
    refine q_aload_n C dX12_remember_73 rfl ?_
    refine x_getR (ci := 12) (j := 32) C dX12_remember_74 lkF_X12_61 rfl h (fun c15 h => ?_)
    refine x_nn h (fun r16 h => ?_)
    refine q_iload_n C dX12_remember_77 rfl ?_
    refine x_iald C dX12_remember_78 h (fun v17 h => ?_)
    refine x_iast C dX12_remember_79 h (fun M18 h => ?_)
    refine x_iinc (w := (1 : Int32)) (L' := [some (.ref l0), some (.int (l1 + (1 : Int32)))]) C dX12_remember_80 rfl (by decide) (by decide) rfl rfl ?_
    refine q_goto (tgt := 52) C dX12_remember_83 (by decide) ?_
    exact q_msk [true, true] (kC _ _ (Option.some.inj h).symm)
  · exact q_msk [true, false] (kE0 _ (Option.some.inj h).symm)
set_option maxRecDepth 100000 in
set_option maxHeartbeats 4000000 in
theorem lW_X12_remember_52 {K : q_K} {Q : State → Prop} (C : q_C K yX12_remember cX12_remember 2 (Option.none : Option Jvm.ClassFile.FieldType) 1 0 0) (l0 : Nat) (n : Nat) : ∀ (l1 : Int32) (M : q_Mem) (e : (q_Mem)), q_lp (fun s => B_X12_remember_52 l0 s.1 s.2) n (l1, M) = some e → (∀ (M : q_Mem), e = M → q_W K 2 Q 0 0 M 86 [some (.ref l0), none] []) → q_W K 2 Q 0 0 M 52 [some (.ref l0), some (.int l1)] [] := by
  induction n with
  | zero => intro l1 M e h; cases h
  | succ n ih =>
    intro l1 M e h kE0
    obtain ⟨stp, e1, e2⟩ := q_bind h
    refine bW_X12_remember_52 C l0 l1 M e1 (fun a0 a1 hs => ?_) (fun b0 hs => ?_)
    · subst hs; exact ih _ _ _ e2 kE0
    · subst hs; exact kE0 _ (Option.some.inj e2).symm
noncomputable def J_X12_remember_50 (l0 : Nat) (M : q_Mem) : Option (Unit × q_Mem) := (q_lp (fun s => B_X12_remember_52 l0 s.1 s.2) q_fu ((0 : Int32), M)).bind (fun e19 => match e19 with | M20 => (q_gI M20 l0 12 42 (fun v21 => (q_pI M20 l0 12 42 (v21 + (1 : Int32)) (fun M22 => some ((), M22))))))
set_option maxRecDepth 100000 in
set_option maxHeartbeats 4000000 in
theorem jW_X12_remember_50 {K : q_K} (C : q_C K yX12_remember cX12_remember 2 (Option.none : Option Jvm.ClassFile.FieldType) 1 0 0) (l0 : Nat) (M : q_Mem) {r : Unit} {M' : q_Mem} (h : J_X12_remember_50 l0 M = some (r, M')) : q_W K 2 (q_Q K none M' 0 0) 0 0 M 50 [some (.ref l0), none] [] := by
  unfold J_X12_remember_50 at h
  refine x_iconst (v := (0 : Int32)) C dX12_remember_50 (by decide) ?_
  refine q_istore_n (L' := [some (.ref l0), some (.int (0 : Int32))]) C dX12_remember_51 (by decide) rfl rfl ?_
  obtain ⟨e19, he, h⟩ := q_bind h
  refine q_msk [true, true] (lW_X12_remember_52 C l0 q_fu _ _ _ he (fun M20 hs => ?_))
  · have hs := hs.symm
    subst hs
    refine q_aload_n C dX12_remember_86 rfl ?_
    refine q_dup C dX12_remember_87 rfl ?_
    refine x_getI (ci := 12) (j := 42) C dX12_remember_88 lkF_X12_293 rfl h (fun v21 h => ?_)
    refine x_iconst (v := (1 : Int32)) C dX12_remember_91 (by decide) ?_
    refine q_iadd C dX12_remember_92 ?_
    refine x_putI (ci := 12) (j := 42) C dX12_remember_93 lkF_X12_293 (fun r hr => by cases hr; rfl) rfl h (fun M22 h => ?_)
    exact q_vret C dX12_remember_96 rfl (by decide) (by decide) (Option.some.inj h)
noncomputable def F_X12_remember (l0 : Nat) (M : q_Mem) : Option (Unit × q_Mem) := (q_gI M l0 12 42 (fun v1 => (if v1 = (40 : Int32) then (q_lp (fun s => B_X12_remember_11 l0 s.1 s.2) q_fu ((0 : Int32), M)).bind (fun e8 => match e8 with | M9 => (q_gI M9 l0 12 42 (fun v10 => (q_pI M9 l0 12 42 (v10 - (1 : Int32)) (fun M11 => J_X12_remember_50 l0 M11))))) else J_X12_remember_50 l0 M)))
set_option maxRecDepth 100000 in
set_option maxHeartbeats 4000000 in
theorem c_X12_remember (l : Launch) (G : q_G) (l0 : Nat) (M : q_Mem) {r : Unit} {M' : q_Mem} (h : F_X12_remember l0 M = some (r, M')) : q_Met l G yX12_remember cX12_remember 2 (Option.none : Option Jvm.ClassFile.FieldType) 1 0 0 [.ref l0] M none M' := by
  unfold F_X12_remember at h
  refine q_enter [some (.ref l0), none] (by decide) (Nat.le_of_ble_eq_true rfl) rfl (fun K C => ?_)
  refine q_aload_n C dX12_remember_0 rfl ?_
  refine x_getI (ci := 12) (j := 42) C dX12_remember_1 lkF_X12_293 rfl h (fun v1 h => ?_)
  refine x_bipush (v := (40 : Int32)) C dX12_remember_4 (by decide) ?_
  refine q_icmp_ne (tgt := 50) C dX12_remember_6 (by decide) h (fun _ h => ?_) (fun _ h => ?_)
  · refine x_iconst (v := (0 : Int32)) C dX12_remember_9 (by decide) ?_
    refine q_istore_n (L' := [some (.ref l0), some (.int (0 : Int32))]) C dX12_remember_10 (by decide) rfl rfl ?_
    obtain ⟨e8, he, h⟩ := q_bind h
    refine q_msk [true, true] (lW_X12_remember_11 C l0 q_fu _ _ _ he (fun M9 hs => ?_))
    · have hs := hs.symm
      subst hs
      refine q_aload_n C dX12_remember_40 rfl ?_
      refine q_dup C dX12_remember_41 rfl ?_
      refine x_getI (ci := 12) (j := 42) C dX12_remember_42 lkF_X12_293 rfl h (fun v10 h => ?_)
      refine x_iconst (v := (1 : Int32)) C dX12_remember_45 (by decide) ?_
      refine q_isub C dX12_remember_46 ?_
      refine x_putI (ci := 12) (j := 42) C dX12_remember_47 lkF_X12_293 (fun r hr => by cases hr; rfl) rfl h (fun M11 h => ?_)
      exact q_msk [true, false] (jW_X12_remember_50 C l0 M11 h)
  · exact q_msk [true, false] (jW_X12_remember_50 C l0 M h)
noncomputable def F_X12_isThere (l0 : Nat) (l1 : Nat) (l2 : Int32) (M : q_Mem) : Option (Int32) := (q_lI M 0 l1 (((4 : Int32) * l2) + (3 : Int32)) (fun v1 => (if v1 = 0 then (q_lI M 0 l1 (35 : Int32) (fun v2 => (q_ob M l0 12 ((F_X12_comes l0 l2 M).bind (fun u3 => (q_ob M l0 12 ((F_X12_comes l0 l2 M).bind (fun u4 => (q_lI M 0 l1 (((4 : Int32) * l2) + (0 : Int32)) (fun v5 => ((F_X12_isIn v2.toInt64 u3.toInt64 (((u4 + v5) - (1 : Int32)).toInt64) M).bind (fun u6 => (if u6 = 0 then q_rq (0 : Int32) else q_rq (1 : Int32)))))))))))))) else q_rq (0 : Int32))))
set_option maxRecDepth 100000 in
set_option maxHeartbeats 4000000 in
theorem c_X12_isThere (l : Launch) (G : q_G) (l0 : Nat) (l1 : Nat) (l2 : Int32) (M : q_Mem) {r : Int32} (h : F_X12_isThere l0 l1 l2 M = some r) : q_Met l G yX12_isThere cX12_isThere 3 (Option.some Jvm.ClassFile.FieldType.boolean) 2 0 0 [.ref l0, .ref l1, .int l2] M (some (.int r)) M := by
  unfold F_X12_isThere at h
  refine q_enter [some (.ref l0), some (.ref l1), some (.int l2)] (by decide) (Nat.le_of_ble_eq_true rfl) rfl (fun K C => ?_)
  refine q_aload_n C dX12_isThere_0 rfl ?_
  refine x_iconst (v := (4 : Int32)) C dX12_isThere_1 (by decide) ?_
  refine q_iload_n C dX12_isThere_2 rfl ?_
  refine q_imul C dX12_isThere_3 ?_
  refine x_iconst (v := (3 : Int32)) C dX12_isThere_4 (by decide) ?_
  refine q_iadd C dX12_isThere_5 ?_
  refine x_iald C dX12_isThere_6 h (fun v1 h => ?_)
  refine q_if_ne (tgt := 47) C dX12_isThere_7 (by decide) h (fun _ h => ?_) (fun _ h => ?_)
  · refine q_aload_n C dX12_isThere_10 rfl ?_
    refine x_bipush (v := (35 : Int32)) C dX12_isThere_11 (by decide) ?_
    refine x_iald C dX12_isThere_13 h (fun v2 h => ?_)
    refine q_i2l C dX12_isThere_14 ?_
    refine q_aload_n C dX12_isThere_15 rfl ?_
    refine q_iload_n C dX12_isThere_16 rfl ?_
    obtain ⟨hk, h⟩ := q_obE h
    obtain ⟨u3, e1, h⟩ := q_bind h
    refine x_callV0 C dX12_isThere_17 lkM_X12_299 mV_X12_comes ⟨_, rfl, rfl⟩ hk (c_X12_comes _ _ _ _ _ e1) rfl rfl (Nat.le_of_ble_eq_true rfl) (by decide) (by decide) ?_
    refine q_i2l C dX12_isThere_20 ?_
    refine q_aload_n C dX12_isThere_21 rfl ?_
    refine q_iload_n C dX12_isThere_22 rfl ?_
    obtain ⟨hk, h⟩ := q_obE h
    obtain ⟨u4, e1, h⟩ := q_bind h
    refine x_callV0 C dX12_isThere_23 lkM_X12_299 mV_X12_comes ⟨_, rfl, rfl⟩ hk (c_X12_comes _ _ _ _ _ e1) rfl rfl (Nat.le_of_ble_eq_true rfl) (by decide) (by decide) ?_
    refine q_aload_n C dX12_isThere_26 rfl ?_
    refine x_iconst (v := (4 : Int32)) C dX12_isThere_27 (by decide) ?_
    refine q_iload_n C dX12_isThere_28 rfl ?_
    refine q_imul C dX12_isThere_29 ?_
    refine x_iconst (v := (0 : Int32)) C dX12_isThere_30 (by decide) ?_
    refine q_iadd C dX12_isThere_31 ?_
    refine x_iald C dX12_isThere_32 h (fun v5 h => ?_)
    refine q_iadd C dX12_isThere_33 ?_
    refine x_iconst (v := (1 : Int32)) C dX12_isThere_34 (by decide) ?_
    refine q_isub C dX12_isThere_35 ?_
    refine q_i2l C dX12_isThere_36 ?_
    obtain ⟨u6, e1, h⟩ := q_bind h
    refine x_callS0 C dX12_isThere_37 lkM_X12_213 mS_X12_isIn (c_X12_isIn _ _ _ _ _ _ e1) rfl rfl (Nat.le_of_ble_eq_true rfl) (by decide) (by decide) ?_
    refine q_if_eq (tgt := 47) C dX12_isThere_40 (by decide) h (fun _ h => ?_) (fun _ h => ?_)
    · refine x_iconst (v := (0 : Int32)) C dX12_isThere_47 (by decide) ?_
      exact q_zret (res := (r, M)) C dX12_isThere_48 rfl (by decide) (by decide) (q_rqE h).1 (congrArg (fun z => (z, M)) (q_rqE h).2)
    · refine x_iconst (v := (1 : Int32)) C dX12_isThere_43 (by decide) ?_
      refine q_goto (tgt := 48) C dX12_isThere_44 (by decide) ?_
      exact q_zret (res := (r, M)) C dX12_isThere_48 rfl (by decide) (by decide) (q_rqE h).1 (congrArg (fun z => (z, M)) (q_rqE h).2)
  · refine x_iconst (v := (0 : Int32)) C dX12_isThere_47 (by decide) ?_
    exact q_zret (res := (r, M)) C dX12_isThere_48 rfl (by decide) (by decide) (q_rqE h).1 (congrArg (fun z => (z, M)) (q_rqE h).2)
noncomputable def J_X12_thereBits_29_4 (l0 : Nat) (l1 : Nat) (l3 : Int32) (s0 : Int32) (s1 : Int32) (M : q_Mem) : Option ((Int32 × Int32) ⊕ (Int32)) := some (.inl ((s0 ||| s1), (l3 + (1 : Int32))))
set_option maxRecDepth 100000 in
set_option maxHeartbeats 4000000 in
theorem jW_X12_thereBits_29_4 {K : q_K} {Q : State → Prop} (C : q_C K yX12_thereBits cX12_thereBits 4 (Option.some Jvm.ClassFile.FieldType.int) 3 0 0) (l0 : Nat) (l1 : Nat) (l3 : Int32) (s0 : Int32) (s1 : Int32) (M : q_Mem) {stp : (Int32 × Int32) ⊕ (Int32)} (h : J_X12_thereBits_29_4 l0 l1 l3 s0 s1 M = some stp) (kC : ∀ (l2 : Int32) (l3 : Int32), stp = .inl (l2, l3) → q_W K 4 Q 0 0 M 4 [some (.ref l0), some (.ref l1), some (.int l2), some (.int l3)] []) (kE0 : ∀ (l2 : Int32), stp = .inr l2 → q_W K 4 Q 0 0 M 37 [none, none, some (.int l2), none] []) : q_W K 4 Q 0 0 M 29 [some (.ref l0), some (.ref l1), none, some (.int l3)] [.int s1, .int s0] := by
  unfold J_X12_thereBits_29_4 at h
  refine q_ior C dX12_thereBits_29 ?_
  refine q_istore_n (L' := [some (.ref l0), some (.ref l1), some (.int (s0 ||| s1)), some (.int l3)]) C dX12_thereBits_30 (by decide) rfl rfl ?_
  refine x_iinc (w := (1 : Int32)) (L' := [some (.ref l0), some (.ref l1), some (.int (s0 ||| s1)), some (.int (l3 + (1 : Int32)))]) C dX12_thereBits_31 rfl (by decide) (by decide) rfl rfl ?_
  refine q_goto (tgt := 4) C dX12_thereBits_34 (by decide) ?_
  exact q_msk [true, true, true, true] (kC _ _ (Option.some.inj h).symm)
noncomputable def B_X12_thereBits_4 (l0 : Nat) (l1 : Nat) (l2 : Int32) (l3 : Int32) (M : q_Mem) : Option ((Int32 × Int32) ⊕ (Int32)) := (q_gI M l0 12 27 (fun v1 => (if l3 < v1 then (q_ob M l0 12 ((F_X12_isThere l0 l1 l3 M).bind (fun u2 => (if u2 = 0 then J_X12_thereBits_29_4 l0 l1 l3 l2 (0 : Int32) M else J_X12_thereBits_29_4 l0 l1 l3 l2 ((1 : Int32) <<< (l3 &&& 31)) M)))) else some (.inr l2))))
set_option maxRecDepth 100000 in
set_option maxHeartbeats 4000000 in
theorem bW_X12_thereBits_4 {K : q_K} {Q : State → Prop} (C : q_C K yX12_thereBits cX12_thereBits 4 (Option.some Jvm.ClassFile.FieldType.int) 3 0 0) (l0 : Nat) (l1 : Nat) (l2 : Int32) (l3 : Int32) (M : q_Mem) {stp : (Int32 × Int32) ⊕ (Int32)} (h : B_X12_thereBits_4 l0 l1 l2 l3 M = some stp) (kC : ∀ (l2 : Int32) (l3 : Int32), stp = .inl (l2, l3) → q_W K 4 Q 0 0 M 4 [some (.ref l0), some (.ref l1), some (.int l2), some (.int l3)] []) (kE0 : ∀ (l2 : Int32), stp = .inr l2 → q_W K 4 Q 0 0 M 37 [none, none, some (.int l2), none] []) : q_W K 4 Q 0 0 M 4 [some (.ref l0), some (.ref l1), some (.int l2), some (.int l3)] [] := by
  unfold B_X12_thereBits_4 at h
  refine q_iload_n C dX12_thereBits_4 rfl ?_
  refine q_aload_n C dX12_thereBits_5 rfl ?_
  refine x_getI (ci := 12) (j := 27) C dX12_thereBits_6 lkF_X12_287 rfl h (fun v1 h => ?_)
  refine q_icmp_ge (tgt := 37) C dX12_thereBits_9 (by decide) h (fun _ h => ?_) (fun _ h => ?_)
  · refine q_iload_n C dX12_thereBits_12 rfl ?_
    refine q_aload_n C dX12_thereBits_13 rfl ?_
    refine q_aload_n C dX12_thereBits_14 rfl ?_
    refine q_iload_n C dX12_thereBits_15 rfl ?_
    obtain ⟨hk, h⟩ := q_obE h
    obtain ⟨u2, e1, h⟩ := q_bind h
    refine x_callV0 C dX12_thereBits_16 lkM_X12_302 mV_X12_isThere ⟨_, rfl, rfl⟩ hk (c_X12_isThere _ _ _ _ _ _ e1) rfl rfl (Nat.le_of_ble_eq_true rfl) (by decide) (by decide) ?_
    refine q_if_eq (tgt := 28) C dX12_thereBits_19 (by decide) h (fun _ h => ?_) (fun _ h => ?_)
    · refine x_iconst (v := (0 : Int32)) C dX12_thereBits_28 (by decide) ?_
      exact q_msk [true, true, false, true] (jW_X12_thereBits_29_4 C l0 l1 l3 l2 (0 : Int32) M h kC kE0)
    · refine x_iconst (v := (1 : Int32)) C dX12_thereBits_22 (by decide) ?_
      refine q_iload_n C dX12_thereBits_23 rfl ?_
      refine q_ishl C dX12_thereBits_24 ?_
      refine q_goto (tgt := 29) C dX12_thereBits_25 (by decide) ?_
      exact q_msk [true, true, false, true] (jW_X12_thereBits_29_4 C l0 l1 l3 l2 ((1 : Int32) <<< (l3 &&& 31)) M h kC kE0)
  · exact q_msk [false, false, true, false] (kE0 _ (Option.some.inj h).symm)
set_option maxRecDepth 100000 in
set_option maxHeartbeats 4000000 in
theorem lW_X12_thereBits_4 {K : q_K} {Q : State → Prop} (C : q_C K yX12_thereBits cX12_thereBits 4 (Option.some Jvm.ClassFile.FieldType.int) 3 0 0) (l0 : Nat) (l1 : Nat) (M : q_Mem) (n : Nat) : ∀ (l2 : Int32) (l3 : Int32) (e : (Int32)), q_lp (fun s => B_X12_thereBits_4 l0 l1 s.1 s.2 M) n (l2, l3) = some e → (∀ (l2 : Int32), e = l2 → q_W K 4 Q 0 0 M 37 [none, none, some (.int l2), none] []) → q_W K 4 Q 0 0 M 4 [some (.ref l0), some (.ref l1), some (.int l2), some (.int l3)] [] := by
  induction n with
  | zero => intro l2 l3 e h; cases h
  | succ n ih =>
    intro l2 l3 e h kE0
    obtain ⟨stp, e1, e2⟩ := q_bind h
    refine bW_X12_thereBits_4 C l0 l1 l2 l3 M e1 (fun a0 a1 hs => ?_) (fun b0 hs => ?_)
    · subst hs; exact ih _ _ _ e2 kE0
    · subst hs; exact kE0 _ (Option.some.inj e2).symm
noncomputable def F_X12_thereBits (l0 : Nat) (l1 : Nat) (M : q_Mem) : Option (Int32) := (q_lp (fun s => B_X12_thereBits_4 l0 l1 s.1 s.2 M) q_fu ((0 : Int32), (0 : Int32))).bind (fun e3 => match e3 with | w4 => some w4)
set_option maxRecDepth 100000 in
set_option maxHeartbeats 4000000 in
theorem c_X12_thereBits (l : Launch) (G : q_G) (l0 : Nat) (l1 : Nat) (M : q_Mem) {r : Int32} (h : F_X12_thereBits l0 l1 M = some r) : q_Met l G yX12_thereBits cX12_thereBits 4 (Option.some Jvm.ClassFile.FieldType.int) 3 0 0 [.ref l0, .ref l1] M (some (.int r)) M := by
  unfold F_X12_thereBits at h
  refine q_enter [some (.ref l0), some (.ref l1), none, none] (by decide) (Nat.le_of_ble_eq_true rfl) rfl (fun K C => ?_)
  refine x_iconst (v := (0 : Int32)) C dX12_thereBits_0 (by decide) ?_
  refine q_istore_n (L' := [some (.ref l0), some (.ref l1), some (.int (0 : Int32)), none]) C dX12_thereBits_1 (by decide) rfl rfl ?_
  refine x_iconst (v := (0 : Int32)) C dX12_thereBits_2 (by decide) ?_
  refine q_istore_n (L' := [some (.ref l0), some (.ref l1), some (.int (0 : Int32)), some (.int (0 : Int32))]) C dX12_thereBits_3 (by decide) rfl rfl ?_
  obtain ⟨e3, he, h⟩ := q_bind h
  refine q_msk [true, true, true, true] (lW_X12_thereBits_4 C l0 l1 M q_fu _ _ _ he (fun w4 hs => ?_))
  · have hs := hs.symm
    subst hs
    refine q_iload_n C dX12_thereBits_37 rfl ?_
    exact q_iret (res := (r, M)) C dX12_thereBits_38 rfl (by decide) (by decide) (congrArg (fun z => (z, M)) (Option.some.inj h))
noncomputable def F_X12_cooks (l0 : Nat) (l1 : Nat) (M : q_Mem) : Option (Int32) := (q_lI M 0 l1 (34 : Int32) (fun v1 => (if 0 < v1 then (q_lI M 0 l1 (34 : Int32) (fun v2 => some (v2 - (1 : Int32)))) else (q_lI M 0 l1 (35 : Int32) (fun v3 => (q_gI M l0 12 26 (fun v4 => (q_rmi v3 v4 (fun v5 => some v5)))))))))
set_option maxRecDepth 100000 in
set_option maxHeartbeats 4000000 in
theorem c_X12_cooks (l : Launch) (G : q_G) (l0 : Nat) (l1 : Nat) (M : q_Mem) {r : Int32} (h : F_X12_cooks l0 l1 M = some r) : q_Met l G yX12_cooks cX12_cooks 2 (Option.some Jvm.ClassFile.FieldType.int) 1 0 0 [.ref l0, .ref l1] M (some (.int r)) M := by
  unfold F_X12_cooks at h
  refine q_enter [some (.ref l0), some (.ref l1)] (by decide) (Nat.le_of_ble_eq_true rfl) rfl (fun K C => ?_)
  refine q_aload_n C dX12_cooks_0 rfl ?_
  refine x_bipush (v := (34 : Int32)) C dX12_cooks_1 (by decide) ?_
  refine x_iald C dX12_cooks_3 h (fun v1 h => ?_)
  refine q_if_le (tgt := 16) C dX12_cooks_4 (by decide) h (fun _ h => ?_) (fun _ h => ?_)
  · refine q_aload_n C dX12_cooks_7 rfl ?_
    refine x_bipush (v := (34 : Int32)) C dX12_cooks_8 (by decide) ?_
    refine x_iald C dX12_cooks_10 h (fun v2 h => ?_)
    refine x_iconst (v := (1 : Int32)) C dX12_cooks_11 (by decide) ?_
    refine q_isub C dX12_cooks_12 ?_
    refine q_goto (tgt := 25) C dX12_cooks_13 (by decide) ?_
    exact q_iret (res := (r, M)) C dX12_cooks_25 rfl (by decide) (by decide) (congrArg (fun z => (z, M)) (Option.some.inj h))
  · refine q_aload_n C dX12_cooks_16 rfl ?_
    refine x_bipush (v := (35 : Int32)) C dX12_cooks_17 (by decide) ?_
    refine x_iald C dX12_cooks_19 h (fun v3 h => ?_)
    refine q_aload_n C dX12_cooks_20 rfl ?_
    refine x_getI (ci := 12) (j := 26) C dX12_cooks_21 lkF_X12_284 rfl h (fun v4 h => ?_)
    refine q_irem C dX12_cooks_24 h (fun v5 h => ?_)
    exact q_iret (res := (r, M)) C dX12_cooks_25 rfl (by decide) (by decide) (congrArg (fun z => (z, M)) (Option.some.inj h))
noncomputable def J_X12_serves_91 (s0 : Nat) (s1 : Int32) (M : q_Mem) : Option (Unit × q_Mem) := (q_pI M s0 12 38 s1 (fun M6 => some ((), M6)))
set_option maxRecDepth 100000 in
set_option maxHeartbeats 4000000 in
theorem jW_X12_serves_91 {K : q_K} (C : q_C K yX12_serves cX12_serves 4 (Option.none : Option Jvm.ClassFile.FieldType) 2 0 0) (s0 : Nat) (s1 : Int32) (M : q_Mem) {r : Unit} {M' : q_Mem} (h : J_X12_serves_91 s0 s1 M = some (r, M')) : q_W K 4 (q_Q K none M' 0 0) 0 0 M 91 [none, none, none, none] [.int s1, .ref s0] := by
  unfold J_X12_serves_91 at h
  refine x_putI (ci := 12) (j := 38) C dX12_serves_91 lkF_X12_319 (fun r hr => by cases hr; rfl) rfl h (fun M6 h => ?_)
  exact q_vret C dX12_serves_94 rfl (by decide) (by decide) (Option.some.inj h)
noncomputable def J_X12_serves_52 (l0 : Nat) (l1 : Nat) (l2 : Int32) (s0 : Nat) (s1 : Int32) (M : q_Mem) : Option (Unit × q_Mem) := (q_pI M s0 12 39 s1 (fun M5 => (if l2 < 0 then J_X12_serves_91 l0 (0 : Int32) M5 else (q_gR M5 l0 12 20 (fun c7 => q_nn c7 (fun r8 => (q_gI M5 l0 12 37 (fun v9 => (q_lI M5 0 r8 ((3 : Int32) * v9) (fun v10 => (q_gR M5 l0 12 18 (fun c11 => q_nn c11 (fun r12 => (q_lI M5 0 r12 (1 : Int32) (fun v13 => (q_lI M5 0 l1 (32 : Int32) (fun v14 => J_X12_serves_91 l0 (q_mx (0 : Int32) (v10 - (v13 * v14))) M5)))))))))))))))))
set_option maxRecDepth 100000 in
set_option maxHeartbeats 4000000 in
theorem jW_X12_serves_52 {K : q_K} (C : q_C K yX12_serves cX12_serves 4 (Option.none : Option Jvm.ClassFile.FieldType) 2 0 0) (l0 : Nat) (l1 : Nat) (l2 : Int32) (s0 : Nat) (s1 : Int32) (M : q_Mem) {r : Unit} {M' : q_Mem} (h : J_X12_serves_52 l0 l1 l2 s0 s1 M = some (r, M')) : q_W K 4 (q_Q K none M' 0 0) 0 0 M 52 [some (.ref l0), some (.ref l1), some (.int l2), none] [.int s1, .ref s0] := by
  unfold J_X12_serves_52 at h
  refine x_putI (ci := 12) (j := 39) C dX12_serves_52 lkF_X12_316 (fun r hr => by cases hr; rfl) rfl h (fun M5 h => ?_)
  refine q_aload_n C dX12_serves_55 rfl ?_
  refine q_iload_n C dX12_serves_56 rfl ?_
  refine q_if_ge (tgt := 64) C dX12_serves_57 (by decide) h (fun _ h => ?_) (fun _ h => ?_)
  · refine x_iconst (v := (0 : Int32)) C dX12_serves_60 (by decide) ?_
    refine q_goto (tgt := 91) C dX12_serves_61 (by decide) ?_
    exact q_msk [false, false, false, false] (jW_X12_serves_91 C l0 (0 : Int32) M5 h)
  · refine x_iconst (v := (0 : Int32)) C dX12_serves_64 (by decide) ?_
    refine q_aload_n C dX12_serves_65 rfl ?_
    refine x_getR (ci := 12) (j := 20) C dX12_serves_66 lkF_X12_43 rfl h (fun c7 h => ?_)
    refine x_nn h (fun r8 h => ?_)
    refine x_iconst (v := (3 : Int32)) C dX12_serves_69 (by decide) ?_
    refine q_aload_n C dX12_serves_70 rfl ?_
    refine x_getI (ci := 12) (j := 37) C dX12_serves_71 lkF_X12_313 rfl h (fun v9 h => ?_)
    refine q_imul C dX12_serves_74 ?_
    refine x_iald C dX12_serves_75 h (fun v10 h => ?_)
    refine q_aload_n C dX12_serves_76 rfl ?_
    refine x_getR (ci := 12) (j := 18) C dX12_serves_77 lkF_X12_37 rfl h (fun c11 h => ?_)
    refine x_nn h (fun r12 h => ?_)
    refine x_iconst (v := (1 : Int32)) C dX12_serves_80 (by decide) ?_
    refine x_iald C dX12_serves_81 h (fun v13 h => ?_)
    refine q_aload_n C dX12_serves_82 rfl ?_
    refine x_bipush (v := (32 : Int32)) C dX12_serves_83 (by decide) ?_
    refine x_iald C dX12_serves_85 h (fun v14 h => ?_)
    refine q_imul C dX12_serves_86 ?_
    refine q_isub C dX12_serves_87 ?_
    refine q_max C dX12_serves_88 wd_1599 wd_470 wd_15 wd_471 (by decide) (Nat.le_of_ble_eq_true rfl) (by decide) ?_
    exact q_msk [false, false, false, false] (jW_X12_serves_91 C l0 (q_mx (0 : Int32) (v10 - (v13 * v14))) M5 h)
noncomputable def J_X12_serves_35 (l0 : Nat) (l1 : Nat) (l2 : Int32) (l3 : Int32) (s0 : Nat) (s1 : Int32) (M : q_Mem) : Option (Unit × q_Mem) := (q_pI M s0 12 37 s1 (fun M4 => (if l2 < 0 then J_X12_serves_52 l0 l1 l2 l0 (0 : Int32) M4 else (q_lI M4 0 l1 (l3 + (1 : Int32)) (fun v15 => J_X12_serves_52 l0 l1 l2 l0 v15 M4)))))
set_option maxRecDepth 100000 in
set_option maxHeartbeats 4000000 in
theorem jW_X12_serves_35 {K : q_K} (C : q_C K yX12_serves cX12_serves 4 (Option.none : Option Jvm.ClassFile.FieldType) 2 0 0) (l0 : Nat) (l1 : Nat) (l2 : Int32) (l3 : Int32) (s0 : Nat) (s1 : Int32) (M : q_Mem) {r : Unit} {M' : q_Mem} (h : J_X12_serves_35 l0 l1 l2 l3 s0 s1 M = some (r, M')) : q_W K 4 (q_Q K none M' 0 0) 0 0 M 35 [some (.ref l0), some (.ref l1), some (.int l2), some (.int l3)] [.int s1, .ref s0] := by
  unfold J_X12_serves_35 at h
  refine x_putI (ci := 12) (j := 37) C dX12_serves_35 lkF_X12_313 (fun r hr => by cases hr; rfl) rfl h (fun M4 h => ?_)
  refine q_aload_n C dX12_serves_38 rfl ?_
  refine q_iload_n C dX12_serves_39 rfl ?_
  refine q_if_ge (tgt := 47) C dX12_serves_40 (by decide) h (fun _ h => ?_) (fun _ h => ?_)
  · refine x_iconst (v := (0 : Int32)) C dX12_serves_43 (by decide) ?_
    refine q_goto (tgt := 52) C dX12_serves_44 (by decide) ?_
    exact q_msk [true, true, true, false] (jW_X12_serves_52 C l0 l1 l2 l0 (0 : Int32) M4 h)
  · refine q_aload_n C dX12_serves_47 rfl ?_
    refine q_iload_n C dX12_serves_48 rfl ?_
    refine x_iconst (v := (1 : Int32)) C dX12_serves_49 (by decide) ?_
    refine q_iadd C dX12_serves_50 ?_
    refine x_iald C dX12_serves_51 h (fun v15 h => ?_)
    exact q_msk [true, true, true, false] (jW_X12_serves_52 C l0 l1 l2 l0 v15 M4 h)
noncomputable def F_X12_serves (l0 : Nat) (l1 : Nat) (M : q_Mem) : Option (Unit × q_Mem) := (q_lI M 0 l1 (35 : Int32) (fun v1 => (q_lI M 0 l1 (32 : Int32) (fun v2 => (q_rmi (q_mx (0 : Int32) (v1 - v2)) (4 : Int32) (fun v3 => (if (v1 - v2) < 0 then J_X12_serves_35 l0 l1 (v1 - v2) ((24 : Int32) + ((2 : Int32) * v3)) l0 (-1 : Int32) M else (q_lI M 0 l1 ((24 : Int32) + ((2 : Int32) * v3)) (fun v16 => J_X12_serves_35 l0 l1 (v1 - v2) ((24 : Int32) + ((2 : Int32) * v3)) l0 v16 M)))))))))
set_option maxRecDepth 100000 in
set_option maxHeartbeats 4000000 in
theorem c_X12_serves (l : Launch) (G : q_G) (l0 : Nat) (l1 : Nat) (M : q_Mem) {r : Unit} {M' : q_Mem} (h : F_X12_serves l0 l1 M = some (r, M')) : q_Met l G yX12_serves cX12_serves 4 (Option.none : Option Jvm.ClassFile.FieldType) 2 0 0 [.ref l0, .ref l1] M none M' := by
  unfold F_X12_serves at h
  refine q_enter [some (.ref l0), some (.ref l1), none, none] (by decide) (Nat.le_of_ble_eq_true rfl) rfl (fun K C => ?_)
  refine q_aload_n C dX12_serves_0 rfl ?_
  refine x_bipush (v := (35 : Int32)) C dX12_serves_1 (by decide) ?_
  refine x_iald C dX12_serves_3 h (fun v1 h => ?_)
  refine q_aload_n C dX12_serves_4 rfl ?_
  refine x_bipush (v := (32 : Int32)) C dX12_serves_5 (by decide) ?_
  refine x_iald C dX12_serves_7 h (fun v2 h => ?_)
  refine q_isub C dX12_serves_8 ?_
  refine q_istore_n (L' := [some (.ref l0), some (.ref l1), some (.int (v1 - v2)), none]) C dX12_serves_9 (by decide) rfl rfl ?_
  refine x_bipush (v := (24 : Int32)) C dX12_serves_10 (by decide) ?_
  refine x_iconst (v := (2 : Int32)) C dX12_serves_12 (by decide) ?_
  refine x_iconst (v := (0 : Int32)) C dX12_serves_13 (by decide) ?_
  refine q_iload_n C dX12_serves_14 rfl ?_
  refine q_max C dX12_serves_15 wd_1599 wd_470 wd_15 wd_471 (by decide) (Nat.le_of_ble_eq_true rfl) (by decide) ?_
  refine x_iconst (v := (4 : Int32)) C dX12_serves_18 (by decide) ?_
  refine q_irem C dX12_serves_19 h (fun v3 h => ?_)
  refine q_imul C dX12_serves_20 ?_
  refine q_iadd C dX12_serves_21 ?_
  refine q_istore_n (L' := [some (.ref l0), some (.ref l1), some (.int (v1 - v2)), some (.int ((24 : Int32) + ((2 : Int32) * v3)))]) C dX12_serves_22 (by decide) rfl rfl ?_
  refine q_aload_n C dX12_serves_23 rfl ?_
  refine q_iload_n C dX12_serves_24 rfl ?_
  refine q_if_ge (tgt := 32) C dX12_serves_25 (by decide) h (fun _ h => ?_) (fun _ h => ?_)
  · refine x_iconst (v := (-1 : Int32)) C dX12_serves_28 (by decide) ?_
    refine q_goto (tgt := 35) C dX12_serves_29 (by decide) ?_
    exact q_msk [true, true, true, true] (jW_X12_serves_35 C l0 l1 (v1 - v2) ((24 : Int32) + ((2 : Int32) * v3)) l0 (-1 : Int32) M h)
  · refine q_aload_n C dX12_serves_32 rfl ?_
    refine q_iload_n C dX12_serves_33 rfl ?_
    refine x_iald C dX12_serves_34 h (fun v16 h => ?_)
    exact q_msk [true, true, true, true] (jW_X12_serves_35 C l0 l1 (v1 - v2) ((24 : Int32) + ((2 : Int32) * v3)) l0 v16 M h)
noncomputable def B_X12_goTable_55 (l0 : Nat) (l1 : Nat) (l3 : Int32) (l4 : Int32) (l5 : Int32) (M : q_Mem) : Option ((Int32 × q_Mem) ⊕ (q_Mem)) := (if l5 < (6 : Int32) then (q_gR M l0 12 36 (fun c12 => q_nn c12 (fun r13 => (q_tI M r13 l5 (0 : Int32) (fun M14 => some (.inl ((l5 + (1 : Int32)), M14))))))) else some (.inr M))
set_option maxRecDepth 100000 in
set_option maxHeartbeats 4000000 in
theorem bW_X12_goTable_55 {K : q_K} {Q : State → Prop} (C : q_C K yX12_goTable cX12_goTable 8 (Option.none : Option Jvm.ClassFile.FieldType) 4 0 0) (l0 : Nat) (l1 : Nat) (l3 : Int32) (l4 : Int32) (l5 : Int32) (M : q_Mem) {stp : (Int32 × q_Mem) ⊕ (q_Mem)} (h : B_X12_goTable_55 l0 l1 l3 l4 l5 M = some stp) (kC : ∀ (l5 : Int32) (M : q_Mem), stp = .inl (l5, M) → q_W K 8 Q 0 0 M 55 [some (.ref l0), some (.ref l1), none, some (.int l3), some (.int l4), some (.int l5), none, none] []) (kE0 : ∀ (M : q_Mem), stp = .inr M → q_W K 8 Q 0 0 M 76 [some (.ref l0), some (.ref l1), none, some (.int l3), some (.int l4), none, none, none] []) : q_W K 8 Q 0 0 M 55 [some (.ref l0), some (.ref l1), none, some (.int l3), some (.int l4), some (.int l5), none, none] [] := by
  unfold B_X12_goTable_55 at h
  refine q_iload C dX12_goTable_55 rfl ?_
  refine x_bipush (v := (6 : Int32)) C dX12_goTable_57 (by decide) ?_
  refine q_icmp_ge (tgt := 76) C dX12_goTable_59 (by decide) h (fun _ h => ?_) (fun _ h => ?_)
  · refine q_aload_n C dX12_goTable_62 rfl ?_
    refine x_getR (ci := 12) (j := 36) C dX12_goTable_63 lkF_X12_74 rfl h (fun c12 h => ?_)
    refine x_nn h (fun r13 h => ?_)
    refine q_iload C dX12_goTable_66 rfl ?_
    refine x_iconst (v := (0 : Int32)) C dX12_goTable_68 (by decide) ?_
    refine x_iast C dX12_goTable_69 h (fun M14 h => ?_)
    refine x_iinc (w := (1 : Int32)) (L' := [some (.ref l0), some (.ref l1), none, some (.int l3), some (.int l4), some (.int (l5 + (1 : Int32))), none, none]) C dX12_goTable_70 rfl (by decide) (by decide) rfl rfl ?_
    refine q_goto (tgt := 55) C dX12_goTable_73 (by decide) ?_
    exact q_msk [true, true, false, true, true, true, false, false] (kC _ _ (Option.some.inj h).symm)
  · exact q_msk [true, true, false, true, true, false, false, false] (kE0 _ (Option.some.inj h).symm)
set_option maxRecDepth 100000 in
set_option maxHeartbeats 4000000 in
theorem lW_X12_goTable_55 {K : q_K} {Q : State → Prop} (C : q_C K yX12_goTable cX12_goTable 8 (Option.none : Option Jvm.ClassFile.FieldType) 4 0 0) (l0 : Nat) (l1 : Nat) (l3 : Int32) (l4 : Int32) (n : Nat) : ∀ (l5 : Int32) (M : q_Mem) (e : (q_Mem)), q_lp (fun s => B_X12_goTable_55 l0 l1 l3 l4 s.1 s.2) n (l5, M) = some e → (∀ (M : q_Mem), e = M → q_W K 8 Q 0 0 M 76 [some (.ref l0), some (.ref l1), none, some (.int l3), some (.int l4), none, none, none] []) → q_W K 8 Q 0 0 M 55 [some (.ref l0), some (.ref l1), none, some (.int l3), some (.int l4), some (.int l5), none, none] [] := by
  induction n with
  | zero => intro l5 M e h; cases h
  | succ n ih =>
    intro l5 M e h kE0
    obtain ⟨stp, e1, e2⟩ := q_bind h
    refine bW_X12_goTable_55 C l0 l1 l3 l4 l5 M e1 (fun a0 a1 hs => ?_) (fun b0 hs => ?_)
    · subst hs; exact ih _ _ _ e2 kE0
    · subst hs; exact kE0 _ (Option.some.inj e2).symm
noncomputable def J_X12_goTable_138_94 (l0 : Nat) (l1 : Nat) (l3 : Int32) (l4 : Int32) (l5 : Int32) (l6 : Int32) (l7 : Int32) (M : q_Mem) : Option ((Int32 × Int32) ⊕ (Int32)) := some (.inl (l6, (l7 + (1 : Int32))))
set_option maxRecDepth 100000 in
set_option maxHeartbeats 4000000 in
theorem jW_X12_goTable_138_94 {K : q_K} {Q : State → Prop} (C : q_C K yX12_goTable cX12_goTable 8 (Option.none : Option Jvm.ClassFile.FieldType) 4 0 0) (l0 : Nat) (l1 : Nat) (l3 : Int32) (l4 : Int32) (l5 : Int32) (l6 : Int32) (l7 : Int32) (M : q_Mem) {stp : (Int32 × Int32) ⊕ (Int32)} (h : J_X12_goTable_138_94 l0 l1 l3 l4 l5 l6 l7 M = some stp) (kC : ∀ (l6 : Int32) (l7 : Int32), stp = .inl (l6, l7) → q_W K 8 Q 0 0 M 94 [some (.ref l0), some (.ref l1), none, some (.int l3), some (.int l4), some (.int l5), some (.int l6), some (.int l7)] []) (kE0 : ∀ (l6 : Int32), stp = .inr l6 → q_W K 8 Q 0 0 M 144 [some (.ref l0), some (.ref l1), none, some (.int l3), some (.int l4), some (.int l5), some (.int l6), none] []) : q_W K 8 Q 0 0 M 138 [some (.ref l0), some (.ref l1), none, some (.int l3), some (.int l4), some (.int l5), some (.int l6), some (.int l7)] [] := by
  unfold J_X12_goTable_138_94 at h
  refine x_iinc (w := (1 : Int32)) (L' := [some (.ref l0), some (.ref l1), none, some (.int l3), some (.int l4), some (.int l5), some (.int l6), some (.int (l7 + (1 : Int32)))]) C dX12_goTable_138 rfl (by decide) (by decide) rfl rfl ?_
  refine q_goto (tgt := 94) C dX12_goTable_141 (by decide) ?_
  exact q_msk [true, true, false, true, true, true, true, true] (kC _ _ (Option.some.inj h).symm)
noncomputable def J_X12_goTable_134_94 (l0 : Nat) (l1 : Nat) (l3 : Int32) (l4 : Int32) (l5 : Int32) (l7 : Int32) (M : q_Mem) : Option ((Int32 × Int32) ⊕ (Int32)) := J_X12_goTable_138_94 l0 l1 l3 l4 l5 l7 l7 M
set_option maxRecDepth 100000 in
set_option maxHeartbeats 4000000 in
theorem jW_X12_goTable_134_94 {K : q_K} {Q : State → Prop} (C : q_C K yX12_goTable cX12_goTable 8 (Option.none : Option Jvm.ClassFile.FieldType) 4 0 0) (l0 : Nat) (l1 : Nat) (l3 : Int32) (l4 : Int32) (l5 : Int32) (l7 : Int32) (M : q_Mem) {stp : (Int32 × Int32) ⊕ (Int32)} (h : J_X12_goTable_134_94 l0 l1 l3 l4 l5 l7 M = some stp) (kC : ∀ (l6 : Int32) (l7 : Int32), stp = .inl (l6, l7) → q_W K 8 Q 0 0 M 94 [some (.ref l0), some (.ref l1), none, some (.int l3), some (.int l4), some (.int l5), some (.int l6), some (.int l7)] []) (kE0 : ∀ (l6 : Int32), stp = .inr l6 → q_W K 8 Q 0 0 M 144 [some (.ref l0), some (.ref l1), none, some (.int l3), some (.int l4), some (.int l5), some (.int l6), none] []) : q_W K 8 Q 0 0 M 134 [some (.ref l0), some (.ref l1), none, some (.int l3), some (.int l4), some (.int l5), none, some (.int l7)] [] := by
  unfold J_X12_goTable_134_94 at h
  refine q_iload C dX12_goTable_134 rfl ?_
  refine q_istore (L' := [some (.ref l0), some (.ref l1), none, some (.int l3), some (.int l4), some (.int l5), some (.int l7), some (.int l7)]) C dX12_goTable_136 (by decide) rfl rfl ?_
  exact q_msk [true, true, false, true, true, true, true, true] (jW_X12_goTable_138_94 C l0 l1 l3 l4 l5 l7 l7 M h kC kE0)
noncomputable def B_X12_goTable_94 (l0 : Nat) (l1 : Nat) (l3 : Int32) (l4 : Int32) (l5 : Int32) (l6 : Int32) (l7 : Int32) (M : q_Mem) : Option ((Int32 × Int32) ⊕ (Int32)) := (q_gI M l0 12 27 (fun v18 => (if l7 < v18 then ((F_X12_has l4 l7 M).bind (fun u19 => (if u19 = 0 then (if l6 = (-1 : Int32) then J_X12_goTable_134_94 l0 l1 l3 l4 l5 l7 M else (q_ob M l0 12 ((F_X12_comes l0 l7 M).bind (fun u20 => (q_ob M l0 12 ((F_X12_comes l0 l6 M).bind (fun u21 => (if u20 < u21 then J_X12_goTable_134_94 l0 l1 l3 l4 l5 l7 M else J_X12_goTable_138_94 l0 l1 l3 l4 l5 l6 l7 M)))))))) else J_X12_goTable_138_94 l0 l1 l3 l4 l5 l6 l7 M))) else some (.inr l6))))
set_option maxRecDepth 100000 in
set_option maxHeartbeats 4000000 in
theorem bW_X12_goTable_94 {K : q_K} {Q : State → Prop} (C : q_C K yX12_goTable cX12_goTable 8 (Option.none : Option Jvm.ClassFile.FieldType) 4 0 0) (l0 : Nat) (l1 : Nat) (l3 : Int32) (l4 : Int32) (l5 : Int32) (l6 : Int32) (l7 : Int32) (M : q_Mem) {stp : (Int32 × Int32) ⊕ (Int32)} (h : B_X12_goTable_94 l0 l1 l3 l4 l5 l6 l7 M = some stp) (kC : ∀ (l6 : Int32) (l7 : Int32), stp = .inl (l6, l7) → q_W K 8 Q 0 0 M 94 [some (.ref l0), some (.ref l1), none, some (.int l3), some (.int l4), some (.int l5), some (.int l6), some (.int l7)] []) (kE0 : ∀ (l6 : Int32), stp = .inr l6 → q_W K 8 Q 0 0 M 144 [some (.ref l0), some (.ref l1), none, some (.int l3), some (.int l4), some (.int l5), some (.int l6), none] []) : q_W K 8 Q 0 0 M 94 [some (.ref l0), some (.ref l1), none, some (.int l3), some (.int l4), some (.int l5), some (.int l6), some (.int l7)] [] := by
  unfold B_X12_goTable_94 at h
  refine q_iload C dX12_goTable_94 rfl ?_
  refine q_aload_n C dX12_goTable_96 rfl ?_
  refine x_getI (ci := 12) (j := 27) C dX12_goTable_97 lkF_X12_287 rfl h (fun v18 h => ?_)
  refine q_icmp_ge (tgt := 144) C dX12_goTable_100 (by decide) h (fun _ h => ?_) (fun _ h => ?_)
  · refine q_iload C dX12_goTable_103 rfl ?_
    refine q_iload C dX12_goTable_105 rfl ?_
    obtain ⟨u19, e1, h⟩ := q_bind h
    refine x_callS0 C dX12_goTable_107 lkM_X12_225 mS_X12_has (c_X12_has _ _ _ _ _ e1) rfl rfl (Nat.le_of_ble_eq_true rfl) (by decide) (by decide) ?_
    refine q_if_ne (tgt := 138) C dX12_goTable_110 (by decide) h (fun _ h => ?_) (fun _ h => ?_)
    · refine q_iload C dX12_goTable_113 rfl ?_
      refine x_iconst (v := (-1 : Int32)) C dX12_goTable_115 (by decide) ?_
      refine q_icmp_eq (tgt := 134) C dX12_goTable_116 (by decide) h (fun _ h => ?_) (fun _ h => ?_)
      · exact q_msk [true, true, false, true, true, true, false, true] (jW_X12_goTable_134_94 C l0 l1 l3 l4 l5 l7 M h kC kE0)
      · refine q_aload_n C dX12_goTable_119 rfl ?_
        refine q_iload C dX12_goTable_120 rfl ?_
        obtain ⟨hk, h⟩ := q_obE h
        obtain ⟨u20, e1, h⟩ := q_bind h
        refine x_callV0 C dX12_goTable_122 lkM_X12_299 mV_X12_comes ⟨_, rfl, rfl⟩ hk (c_X12_comes _ _ _ _ _ e1) rfl rfl (Nat.le_of_ble_eq_true rfl) (by decide) (by decide) ?_
        refine q_aload_n C dX12_goTable_125 rfl ?_
        refine q_iload C dX12_goTable_126 rfl ?_
        obtain ⟨hk, h⟩ := q_obE h
        obtain ⟨u21, e1, h⟩ := q_bind h
        refine x_callV0 C dX12_goTable_128 lkM_X12_299 mV_X12_comes ⟨_, rfl, rfl⟩ hk (c_X12_comes _ _ _ _ _ e1) rfl rfl (Nat.le_of_ble_eq_true rfl) (by decide) (by decide) ?_
        refine q_icmp_ge (tgt := 138) C dX12_goTable_131 (by decide) h (fun _ h => ?_) (fun _ h => ?_)
        · exact q_msk [true, true, false, true, true, true, false, true] (jW_X12_goTable_134_94 C l0 l1 l3 l4 l5 l7 M h kC kE0)
        · exact q_msk [true, true, false, true, true, true, true, true] (jW_X12_goTable_138_94 C l0 l1 l3 l4 l5 l6 l7 M h kC kE0)
    · exact q_msk [true, true, false, true, true, true, true, true] (jW_X12_goTable_138_94 C l0 l1 l3 l4 l5 l6 l7 M h kC kE0)
  · exact q_msk [true, true, false, true, true, true, true, false] (kE0 _ (Option.some.inj h).symm)
set_option maxRecDepth 100000 in
set_option maxHeartbeats 4000000 in
theorem lW_X12_goTable_94 {K : q_K} {Q : State → Prop} (C : q_C K yX12_goTable cX12_goTable 8 (Option.none : Option Jvm.ClassFile.FieldType) 4 0 0) (l0 : Nat) (l1 : Nat) (l3 : Int32) (l4 : Int32) (l5 : Int32) (M : q_Mem) (n : Nat) : ∀ (l6 : Int32) (l7 : Int32) (e : (Int32)), q_lp (fun s => B_X12_goTable_94 l0 l1 l3 l4 l5 s.1 s.2 M) n (l6, l7) = some e → (∀ (l6 : Int32), e = l6 → q_W K 8 Q 0 0 M 144 [some (.ref l0), some (.ref l1), none, some (.int l3), some (.int l4), some (.int l5), some (.int l6), none] []) → q_W K 8 Q 0 0 M 94 [some (.ref l0), some (.ref l1), none, some (.int l3), some (.int l4), some (.int l5), some (.int l6), some (.int l7)] [] := by
  induction n with
  | zero => intro l6 l7 e h; cases h
  | succ n ih =>
    intro l6 l7 e h kE0
    obtain ⟨stp, e1, e2⟩ := q_bind h
    refine bW_X12_goTable_94 C l0 l1 l3 l4 l5 l6 l7 M e1 (fun a0 a1 hs => ?_) (fun b0 hs => ?_)
    · subst hs; exact ih _ _ _ e2 kE0
    · subst hs; exact kE0 _ (Option.some.inj e2).symm
noncomputable def B_X12_goTable_79 (l0 : Nat) (l1 : Nat) (l3 : Int32) (l4 : Int32) (l5 : Int32) (M : q_Mem) : Option ((Int32 × Int32 × Int32 × q_Mem) ⊕ ((Int32 × q_Mem) ⊕ (Int32 × q_Mem))) := (q_gI M l0 12 27 (fun v17 => (if l5 < v17 then (q_lp (fun s => B_X12_goTable_94 l0 l1 l3 l4 l5 s.1 s.2 M) q_fu ((-1 : Int32), (0 : Int32))).bind (fun e22 => match e22 with | w23 => (if w23 = (-1 : Int32) then some (.inr (.inr (l3, M))) else (if l3 = 0 then some (.inr (.inl (l3, M))) else (q_gR M l0 12 36 (fun c24 => q_nn c24 (fun r25 => (q_tI M r25 w23 (1 : Int32) (fun M26 => some (.inl ((l3 + (-1 : Int32)), (l4 ||| ((1 : Int32) <<< (w23 &&& 31))), (l5 + (1 : Int32)), M26)))))))))) else some (.inr (.inr (l3, M))))))
set_option maxRecDepth 100000 in
set_option maxHeartbeats 4000000 in
theorem bW_X12_goTable_79 {K : q_K} {Q : State → Prop} (C : q_C K yX12_goTable cX12_goTable 8 (Option.none : Option Jvm.ClassFile.FieldType) 4 0 0) (l0 : Nat) (l1 : Nat) (l3 : Int32) (l4 : Int32) (l5 : Int32) (M : q_Mem) {stp : (Int32 × Int32 × Int32 × q_Mem) ⊕ ((Int32 × q_Mem) ⊕ (Int32 × q_Mem))} (h : B_X12_goTable_79 l0 l1 l3 l4 l5 M = some stp) (kC : ∀ (l3 : Int32) (l4 : Int32) (l5 : Int32) (M : q_Mem), stp = .inl (l3, l4, l5, M) → q_W K 8 Q 0 0 M 79 [some (.ref l0), some (.ref l1), none, some (.int l3), some (.int l4), some (.int l5), none, none] []) (kE0 : ∀ (l3 : Int32) (M : q_Mem), stp = .inr (.inl (l3, M)) → q_W K 8 Q 0 0 M 154 [some (.ref l0), some (.ref l1), none, some (.int l3), none, none, none, none] []) (kE1 : ∀ (l3 : Int32) (M : q_Mem), stp = .inr (.inr (l3, M)) → q_W K 8 Q 0 0 M 183 [some (.ref l0), some (.ref l1), none, some (.int l3), none, none, none, none] []) : q_W K 8 Q 0 0 M 79 [some (.ref l0), some (.ref l1), none, some (.int l3), some (.int l4), some (.int l5), none, none] [] := by
  unfold B_X12_goTable_79 at h
  refine q_iload C dX12_goTable_79 rfl ?_
  refine q_aload_n C dX12_goTable_81 rfl ?_
  refine x_getI (ci := 12) (j := 27) C dX12_goTable_82 lkF_X12_287 rfl h (fun v17 h => ?_)
  refine q_icmp_ge (tgt := 183) C dX12_goTable_85 (by decide) h (fun _ h => ?_) (fun _ h => ?_)
  · refine x_iconst (v := (-1 : Int32)) C dX12_goTable_88 (by decide) ?_
    refine q_istore (L' := [some (.ref l0), some (.ref l1), none, some (.int l3), some (.int l4), some (.int l5), some (.int (-1 : Int32)), none]) C dX12_goTable_89 (by decide) rfl rfl ?_
    refine x_iconst (v := (0 : Int32)) C dX12_goTable_91 (by decide) ?_
    refine q_istore (L' := [some (.ref l0), some (.ref l1), none, some (.int l3), some (.int l4), some (.int l5), some (.int (-1 : Int32)), some (.int (0 : Int32))]) C dX12_goTable_92 (by decide) rfl rfl ?_
    obtain ⟨e22, he, h⟩ := q_bind h
    refine q_msk [true, true, false, true, true, true, true, true] (lW_X12_goTable_94 C l0 l1 l3 l4 l5 M q_fu _ _ _ he (fun w23 hs => ?_))
    · have hs := hs.symm
      subst hs
      refine q_iload C dX12_goTable_144 rfl ?_
      refine x_iconst (v := (-1 : Int32)) C dX12_goTable_146 (by decide) ?_
      refine q_icmp_eq (tgt := 183) C dX12_goTable_147 (by decide) h (fun _ h => ?_) (fun _ h => ?_)
      · exact q_msk [true, true, false, true, false, false, false, false] (kE1 _ _ (Option.some.inj h).symm)
      · refine q_iload_n C dX12_goTable_150 rfl ?_
        refine q_if_ne (tgt := 157) C dX12_goTable_151 (by decide) h (fun _ h => ?_) (fun _ h => ?_)
        · exact q_msk [true, true, false, true, false, false, false, false] (kE0 _ _ (Option.some.inj h).symm)
        · refine q_iload C dX12_goTable_157 rfl ?_
          refine x_iconst (v := (1 : Int32)) C dX12_goTable_159 (by decide) ?_
          refine q_iload C dX12_goTable_160 rfl ?_
          refine q_ishl C dX12_goTable_162 ?_
          refine q_ior C dX12_goTable_163 ?_
          refine q_istore (L' := [some (.ref l0), some (.ref l1), none, some (.int l3), some (.int (l4 ||| ((1 : Int32) <<< (w23 &&& 31)))), some (.int l5), some (.int w23), none]) C dX12_goTable_164 (by decide) rfl rfl ?_
          refine q_aload_n C dX12_goTable_166 rfl ?_
          refine x_getR (ci := 12) (j := 36) C dX12_goTable_167 lkF_X12_74 rfl h (fun c24 h => ?_)
          refine x_nn h (fun r25 h => ?_)
          refine q_iload C dX12_goTable_170 rfl ?_
          refine x_iconst (v := (1 : Int32)) C dX12_goTable_172 (by decide) ?_
          refine x_iast C dX12_goTable_173 h (fun M26 h => ?_)
          refine x_iinc (w := (-1 : Int32)) (L' := [some (.ref l0), some (.ref l1), none, some (.int (l3 + (-1 : Int32))), some (.int (l4 ||| ((1 : Int32) <<< (w23 &&& 31)))), some (.int l5), some (.int w23), none]) C dX12_goTable_174 rfl (by decide) (by decide) rfl rfl ?_
          refine x_iinc (w := (1 : Int32)) (L' := [some (.ref l0), some (.ref l1), none, some (.int (l3 + (-1 : Int32))), some (.int (l4 ||| ((1 : Int32) <<< (w23 &&& 31)))), some (.int (l5 + (1 : Int32))), some (.int w23), none]) C dX12_goTable_177 rfl (by decide) (by decide) rfl rfl ?_
          refine q_goto (tgt := 79) C dX12_goTable_180 (by decide) ?_
          exact q_msk [true, true, false, true, true, true, false, false] (kC _ _ _ _ (Option.some.inj h).symm)
  · exact q_msk [true, true, false, true, false, false, false, false] (kE1 _ _ (Option.some.inj h).symm)
set_option maxRecDepth 100000 in
set_option maxHeartbeats 4000000 in
theorem lW_X12_goTable_79 {K : q_K} {Q : State → Prop} (C : q_C K yX12_goTable cX12_goTable 8 (Option.none : Option Jvm.ClassFile.FieldType) 4 0 0) (l0 : Nat) (l1 : Nat) (n : Nat) : ∀ (l3 : Int32) (l4 : Int32) (l5 : Int32) (M : q_Mem) (e : ((Int32 × q_Mem) ⊕ (Int32 × q_Mem))), q_lp (fun s => B_X12_goTable_79 l0 l1 s.1 s.2.1 s.2.2.1 s.2.2.2) n (l3, l4, l5, M) = some e → (∀ (l3 : Int32) (M : q_Mem), e = (.inl (l3, M)) → q_W K 8 Q 0 0 M 154 [some (.ref l0), some (.ref l1), none, some (.int l3), none, none, none, none] []) → (∀ (l3 : Int32) (M : q_Mem), e = (.inr (l3, M)) → q_W K 8 Q 0 0 M 183 [some (.ref l0), some (.ref l1), none, some (.int l3), none, none, none, none] []) → q_W K 8 Q 0 0 M 79 [some (.ref l0), some (.ref l1), none, some (.int l3), some (.int l4), some (.int l5), none, none] [] := by
  induction n with
  | zero => intro l3 l4 l5 M e h; cases h
  | succ n ih =>
    intro l3 l4 l5 M e h kE0 kE1
    obtain ⟨stp, e1, e2⟩ := q_bind h
    refine bW_X12_goTable_79 C l0 l1 l3 l4 l5 M e1 (fun a0 a1 a2 a3 hs => ?_) (fun b0 b1 hs => ?_) (fun b0 b1 hs => ?_)
    · subst hs; exact ih _ _ _ _ _ e2 kE0 kE1
    · subst hs; exact kE0 _ _ (Option.some.inj e2).symm
    · subst hs; exact kE1 _ _ (Option.some.inj e2).symm
noncomputable def J_X12_goTable_250_186 (l0 : Nat) (l1 : Nat) (l3 : Int32) (l5 : Int32) (M : q_Mem) : Option ((Int32 × Int32 × q_Mem) ⊕ (Int32 × q_Mem)) := some (.inl (l3, (l5 + (1 : Int32)), M))
set_option maxRecDepth 100000 in
set_option maxHeartbeats 4000000 in
theorem jW_X12_goTable_250_186 {K : q_K} {Q : State → Prop} (C : q_C K yX12_goTable cX12_goTable 8 (Option.none : Option Jvm.ClassFile.FieldType) 4 0 0) (l0 : Nat) (l1 : Nat) (l3 : Int32) (l5 : Int32) (M : q_Mem) {stp : (Int32 × Int32 × q_Mem) ⊕ (Int32 × q_Mem)} (h : J_X12_goTable_250_186 l0 l1 l3 l5 M = some stp) (kC : ∀ (l3 : Int32) (l5 : Int32) (M : q_Mem), stp = .inl (l3, l5, M) → q_W K 8 Q 0 0 M 186 [some (.ref l0), some (.ref l1), none, some (.int l3), none, some (.int l5), none, none] []) (kE0 : ∀ (l3 : Int32) (M : q_Mem), stp = .inr (l3, M) → q_W K 8 Q 0 0 M 256 [some (.ref l0), none, none, some (.int l3), none, none, none, none] []) : q_W K 8 Q 0 0 M 250 [some (.ref l0), some (.ref l1), none, some (.int l3), none, some (.int l5), none, none] [] := by
  unfold J_X12_goTable_250_186 at h
  refine x_iinc (w := (1 : Int32)) (L' := [some (.ref l0), some (.ref l1), none, some (.int l3), none, some (.int (l5 + (1 : Int32))), none, none]) C dX12_goTable_250 rfl (by decide) (by decide) rfl rfl ?_
  refine q_goto (tgt := 186) C dX12_goTable_253 (by decide) ?_
  exact q_msk [true, true, false, true, false, true, false, false] (kC _ _ _ (Option.some.inj h).symm)
noncomputable def B_X12_goTable_186 (l0 : Nat) (l1 : Nat) (l3 : Int32) (l5 : Int32) (M : q_Mem) : Option ((Int32 × Int32 × q_Mem) ⊕ (Int32 × q_Mem)) := (q_gI M l0 12 27 (fun v30 => (if l5 < v30 then (if 0 < l3 then (q_ob M l0 12 ((F_X12_isThere l0 l1 l5 M).bind (fun u31 => (if u31 = 0 then J_X12_goTable_250_186 l0 l1 l3 l5 M else (q_lI M 0 l1 (35 : Int32) (fun v32 => (q_ob M l0 12 ((F_X12_comes l0 l5 M).bind (fun u33 => (q_lI M 0 l1 (((4 : Int32) * l5) + (0 : Int32)) (fun v34 => (if v32 = ((u33 + v34) - (1 : Int32)) then (q_gR M l0 12 36 (fun c35 => q_nn c35 (fun r36 => (q_lI M 0 r36 l5 (fun v37 => (q_tI M r36 l5 (v37 + (1 : Int32)) (fun M38 => J_X12_goTable_250_186 l0 l1 (l3 + (-1 : Int32)) l5 M38))))))) else J_X12_goTable_250_186 l0 l1 l3 l5 M)))))))))))) else some (.inr (l3, M))) else some (.inr (l3, M)))))
set_option maxRecDepth 100000 in
set_option maxHeartbeats 4000000 in
theorem bW_X12_goTable_186 {K : q_K} {Q : State → Prop} (C : q_C K yX12_goTable cX12_goTable 8 (Option.none : Option Jvm.ClassFile.FieldType) 4 0 0) (l0 : Nat) (l1 : Nat) (l3 : Int32) (l5 : Int32) (M : q_Mem) {stp : (Int32 × Int32 × q_Mem) ⊕ (Int32 × q_Mem)} (h : B_X12_goTable_186 l0 l1 l3 l5 M = some stp) (kC : ∀ (l3 : Int32) (l5 : Int32) (M : q_Mem), stp = .inl (l3, l5, M) → q_W K 8 Q 0 0 M 186 [some (.ref l0), some (.ref l1), none, some (.int l3), none, some (.int l5), none, none] []) (kE0 : ∀ (l3 : Int32) (M : q_Mem), stp = .inr (l3, M) → q_W K 8 Q 0 0 M 256 [some (.ref l0), none, none, some (.int l3), none, none, none, none] []) : q_W K 8 Q 0 0 M 186 [some (.ref l0), some (.ref l1), none, some (.int l3), none, some (.int l5), none, none] [] := by
  unfold B_X12_goTable_186 at h
  refine q_iload C dX12_goTable_186 rfl ?_
  refine q_aload_n C dX12_goTable_188 rfl ?_
  refine x_getI (ci := 12) (j := 27) C dX12_goTable_189 lkF_X12_287 rfl h (fun v30 h => ?_)
  refine q_icmp_ge (tgt := 256) C dX12_goTable_192 (by decide) h (fun _ h => ?_) (fun _ h => ?_)
  · refine q_iload_n C dX12_goTable_195 rfl ?_
    refine q_if_le (tgt := 256) C dX12_goTable_196 (by decide) h (fun _ h => ?_) (fun _ h => ?_)
    · refine q_aload_n C dX12_goTable_199 rfl ?_
      refine q_aload_n C dX12_goTable_200 rfl ?_
      refine q_iload C dX12_goTable_201 rfl ?_
      obtain ⟨hk, h⟩ := q_obE h
      obtain ⟨u31, e1, h⟩ := q_bind h
      refine x_callV0 C dX12_goTable_203 lkM_X12_302 mV_X12_isThere ⟨_, rfl, rfl⟩ hk (c_X12_isThere _ _ _ _ _ _ e1) rfl rfl (Nat.le_of_ble_eq_true rfl) (by decide) (by decide) ?_
      refine q_if_eq (tgt := 250) C dX12_goTable_206 (by decide) h (fun _ h => ?_) (fun _ h => ?_)
      · exact q_msk [true, true, false, true, false, true, false, false] (jW_X12_goTable_250_186 C l0 l1 l3 l5 M h kC kE0)
      · refine q_aload_n C dX12_goTable_209 rfl ?_
        refine x_bipush (v := (35 : Int32)) C dX12_goTable_210 (by decide) ?_
        refine x_iald C dX12_goTable_212 h (fun v32 h => ?_)
        refine q_aload_n C dX12_goTable_213 rfl ?_
        refine q_iload C dX12_goTable_214 rfl ?_
        obtain ⟨hk, h⟩ := q_obE h
        obtain ⟨u33, e1, h⟩ := q_bind h
        refine x_callV0 C dX12_goTable_216 lkM_X12_299 mV_X12_comes ⟨_, rfl, rfl⟩ hk (c_X12_comes _ _ _ _ _ e1) rfl rfl (Nat.le_of_ble_eq_true rfl) (by decide) (by decide) ?_
        refine q_aload_n C dX12_goTable_219 rfl ?_
        refine x_iconst (v := (4 : Int32)) C dX12_goTable_220 (by decide) ?_
        refine q_iload C dX12_goTable_221 rfl ?_
        refine q_imul C dX12_goTable_223 ?_
        refine x_iconst (v := (0 : Int32)) C dX12_goTable_224 (by decide) ?_
        refine q_iadd C dX12_goTable_225 ?_
        refine x_iald C dX12_goTable_226 h (fun v34 h => ?_)
        refine q_iadd C dX12_goTable_227 ?_
        refine x_iconst (v := (1 : Int32)) C dX12_goTable_228 (by decide) ?_
        refine q_isub C dX12_goTable_229 ?_
        refine q_icmp_eq (tgt := 236) C dX12_goTable_230 (by decide) h (fun _ h => ?_) (fun _ h => ?_)
        · refine q_aload_n C dX12_goTable_236 rfl ?_
          refine x_getR (ci := 12) (j := 36) C dX12_goTable_237 lkF_X12_74 rfl h (fun c35 h => ?_)
          refine x_nn h (fun r36 h => ?_)
          refine q_iload C dX12_goTable_240 rfl ?_
          refine q_dup2 C dX12_goTable_242 rfl rfl ?_
          refine x_iald C dX12_goTable_243 h (fun v37 h => ?_)
          refine x_iconst (v := (1 : Int32)) C dX12_goTable_244 (by decide) ?_
          refine q_iadd C dX12_goTable_245 ?_
          refine x_iast C dX12_goTable_246 h (fun M38 h => ?_)
          refine x_iinc (w := (-1 : Int32)) (L' := [some (.ref l0), some (.ref l1), none, some (.int (l3 + (-1 : Int32))), none, some (.int l5), none, none]) C dX12_goTable_247 rfl (by decide) (by decide) rfl rfl ?_
          exact q_msk [true, true, false, true, false, true, false, false] (jW_X12_goTable_250_186 C l0 l1 (l3 + (-1 : Int32)) l5 M38 h kC kE0)
        · refine q_goto (tgt := 250) C dX12_goTable_233 (by decide) ?_
          exact q_msk [true, true, false, true, false, true, false, false] (jW_X12_goTable_250_186 C l0 l1 l3 l5 M h kC kE0)
    · exact q_msk [true, false, false, true, false, false, false, false] (kE0 _ _ (Option.some.inj h).symm)
  · exact q_msk [true, false, false, true, false, false, false, false] (kE0 _ _ (Option.some.inj h).symm)
set_option maxRecDepth 100000 in
set_option maxHeartbeats 4000000 in
theorem lW_X12_goTable_186 {K : q_K} {Q : State → Prop} (C : q_C K yX12_goTable cX12_goTable 8 (Option.none : Option Jvm.ClassFile.FieldType) 4 0 0) (l0 : Nat) (l1 : Nat) (n : Nat) : ∀ (l3 : Int32) (l5 : Int32) (M : q_Mem) (e : (Int32 × q_Mem)), q_lp (fun s => B_X12_goTable_186 l0 l1 s.1 s.2.1 s.2.2) n (l3, l5, M) = some e → (∀ (l3 : Int32) (M : q_Mem), e = (l3, M) → q_W K 8 Q 0 0 M 256 [some (.ref l0), none, none, some (.int l3), none, none, none, none] []) → q_W K 8 Q 0 0 M 186 [some (.ref l0), some (.ref l1), none, some (.int l3), none, some (.int l5), none, none] [] := by
  induction n with
  | zero => intro l3 l5 M e h; cases h
  | succ n ih =>
    intro l3 l5 M e h kE0
    obtain ⟨stp, e1, e2⟩ := q_bind h
    refine bW_X12_goTable_186 C l0 l1 l3 l5 M e1 (fun a0 a1 a2 hs => ?_) (fun b0 b1 hs => ?_)
    · subst hs; exact ih _ _ _ _ e2 kE0
    · subst hs; exact kE0 _ _ (Option.some.inj e2).symm
noncomputable def J_X12_goTable_183 (l0 : Nat) (l1 : Nat) (l3 : Int32) (M : q_Mem) : Option (Unit × q_Mem) := (q_lp (fun s => B_X12_goTable_186 l0 l1 s.1 s.2.1 s.2.2) q_fu (l3, (0 : Int32), M)).bind (fun e39 => match e39 with | (w40, M41) => (q_pI M41 l0 12 40 w40 (fun M42 => some ((), M42))))
set_option maxRecDepth 100000 in
set_option maxHeartbeats 4000000 in
theorem jW_X12_goTable_183 {K : q_K} (C : q_C K yX12_goTable cX12_goTable 8 (Option.none : Option Jvm.ClassFile.FieldType) 4 0 0) (l0 : Nat) (l1 : Nat) (l3 : Int32) (M : q_Mem) {r : Unit} {M' : q_Mem} (h : J_X12_goTable_183 l0 l1 l3 M = some (r, M')) : q_W K 8 (q_Q K none M' 0 0) 0 0 M 183 [some (.ref l0), some (.ref l1), none, some (.int l3), none, none, none, none] [] := by
  unfold J_X12_goTable_183 at h
  refine x_iconst (v := (0 : Int32)) C dX12_goTable_183 (by decide) ?_
  refine q_istore (L' := [some (.ref l0), some (.ref l1), none, some (.int l3), none, some (.int (0 : Int32)), none, none]) C dX12_goTable_184 (by decide) rfl rfl ?_
  obtain ⟨e39, he, h⟩ := q_bind h
  refine q_msk [true, true, false, true, false, true, false, false] (lW_X12_goTable_186 C l0 l1 q_fu _ _ _ _ he (fun w40 M41 hs => ?_))
  · have hs := hs.symm
    subst hs
    refine q_aload_n C dX12_goTable_256 rfl ?_
    refine q_iload_n C dX12_goTable_257 rfl ?_
    refine x_putI (ci := 12) (j := 40) C dX12_goTable_258 lkF_X12_338 (fun r hr => by cases hr; rfl) rfl h (fun M42 h => ?_)
    exact q_vret C dX12_goTable_261 rfl (by decide) (by decide) (Option.some.inj h)
noncomputable def F_X12_goTable (l0 : Nat) (l1 : Nat) (M : q_Mem) : Option (Unit × q_Mem) := (q_lI M 0 l1 (35 : Int32) (fun v1 => (q_rmi v1 (4 : Int32) (fun v2 => (q_ob M l0 12 ((F_X12_cooks l0 l1 M).bind (fun u3 => (q_tI M l1 ((24 : Int32) + ((2 : Int32) * v2)) u3 (fun M4 => (q_ob M4 l0 12 ((F_X12_thereBits l0 l1 M4).bind (fun u5 => ((F_J6_bitCount_0f7a4 u5 M4).bind (fun u6 => (q_tI M4 l1 (((24 : Int32) + ((2 : Int32) * v2)) + (1 : Int32)) u6 (fun M7 => (q_ob M7 l0 12 ((F_X12_serves l0 l1 M7).bind (fun x => match x with | (_, M9) => (q_gI M9 l0 12 39 (fun v10 => (q_ob M9 l0 12 ((F_X12_thereBits l0 l1 M9).bind (fun u11 => (q_lp (fun s => B_X12_goTable_55 l0 l1 v10 (u11 ^^^ (-1 : Int32)) s.1 s.2) q_fu ((0 : Int32), M9)).bind (fun e15 => match e15 with | M16 => (q_lp (fun s => B_X12_goTable_79 l0 l1 s.1 s.2.1 s.2.2.1 s.2.2.2) q_fu (v10, (u11 ^^^ (-1 : Int32)), (0 : Int32), M16)).bind (fun e27 => match e27 with | .inl (w28, M29) => J_X12_goTable_183 l0 l1 w28 M29 | .inr (w43, M44) => J_X12_goTable_183 l0 l1 w43 M44))))))))))))))))))))))))))
set_option maxRecDepth 100000 in
set_option maxHeartbeats 4000000 in
theorem c_X12_goTable (l : Launch) (G : q_G) (l0 : Nat) (l1 : Nat) (M : q_Mem) {r : Unit} {M' : q_Mem} (h : F_X12_goTable l0 l1 M = some (r, M')) : q_Met l G yX12_goTable cX12_goTable 8 (Option.none : Option Jvm.ClassFile.FieldType) 4 0 0 [.ref l0, .ref l1] M none M' := by
  unfold F_X12_goTable at h
  refine q_enter [some (.ref l0), some (.ref l1), none, none, none, none, none, none] (by decide) (Nat.le_of_ble_eq_true rfl) rfl (fun K C => ?_)
  refine x_bipush (v := (24 : Int32)) C dX12_goTable_0 (by decide) ?_
  refine x_iconst (v := (2 : Int32)) C dX12_goTable_2 (by decide) ?_
  refine q_aload_n C dX12_goTable_3 rfl ?_
  refine x_bipush (v := (35 : Int32)) C dX12_goTable_4 (by decide) ?_
  refine x_iald C dX12_goTable_6 h (fun v1 h => ?_)
  refine x_iconst (v := (4 : Int32)) C dX12_goTable_7 (by decide) ?_
  refine q_irem C dX12_goTable_8 h (fun v2 h => ?_)
  refine q_imul C dX12_goTable_9 ?_
  refine q_iadd C dX12_goTable_10 ?_
  refine q_istore_n (L' := [some (.ref l0), some (.ref l1), some (.int ((24 : Int32) + ((2 : Int32) * v2))), none, none, none, none, none]) C dX12_goTable_11 (by decide) rfl rfl ?_
  refine q_aload_n C dX12_goTable_12 rfl ?_
  refine q_iload_n C dX12_goTable_13 rfl ?_
  refine q_aload_n C dX12_goTable_14 rfl ?_
  refine q_aload_n C dX12_goTable_15 rfl ?_
  obtain ⟨hk, h⟩ := q_obE h
  obtain ⟨u3, e1, h⟩ := q_bind h
  refine x_callV0 C dX12_goTable_16 lkM_X12_322 mV_X12_cooks ⟨_, rfl, rfl⟩ hk (c_X12_cooks _ _ _ _ _ e1) rfl rfl (Nat.le_of_ble_eq_true rfl) (by decide) (by decide) ?_
  refine x_iast C dX12_goTable_19 h (fun M4 h => ?_)
  refine q_aload_n C dX12_goTable_20 rfl ?_
  refine q_iload_n C dX12_goTable_21 rfl ?_
  refine x_iconst (v := (1 : Int32)) C dX12_goTable_22 (by decide) ?_
  refine q_iadd C dX12_goTable_23 ?_
  refine q_aload_n C dX12_goTable_24 rfl ?_
  refine q_aload_n C dX12_goTable_25 rfl ?_
  obtain ⟨hk, h⟩ := q_obE h
  obtain ⟨u5, e1, h⟩ := q_bind h
  refine x_callV0 C dX12_goTable_26 lkM_X12_326 mV_X12_thereBits ⟨_, rfl, rfl⟩ hk (c_X12_thereBits _ _ _ _ _ e1) rfl rfl (Nat.le_of_ble_eq_true rfl) (by decide) (by decide) ?_
  obtain ⟨u6, e1, h⟩ := q_bind h
  refine x_callS0 C dX12_goTable_29 lkM_X12_329 mS_J6_bitCount_0f7a4 (c_J6_bitCount_0f7a4 _ _ _ _ e1) rfl rfl (Nat.le_of_ble_eq_true rfl) (by decide) (by decide) ?_
  refine x_iast C dX12_goTable_32 h (fun M7 h => ?_)
  refine q_aload_n C dX12_goTable_33 rfl ?_
  refine q_aload_n C dX12_goTable_34 rfl ?_
  obtain ⟨hk, h⟩ := q_obE h
  obtain ⟨⟨_, M9⟩, e1, h⟩ := q_bind h
  refine x_callVv0 C dX12_goTable_35 lkM_X12_334 mV_X12_serves ⟨_, rfl, rfl⟩ hk (c_X12_serves _ _ _ _ _ e1) rfl rfl (Nat.le_of_ble_eq_true rfl) (by decide) (by decide) ?_
  refine q_aload_n C dX12_goTable_38 rfl ?_
  refine x_getI (ci := 12) (j := 39) C dX12_goTable_39 lkF_X12_316 rfl h (fun v10 h => ?_)
  refine q_istore_n (L' := [some (.ref l0), some (.ref l1), some (.int ((24 : Int32) + ((2 : Int32) * v2))), some (.int v10), none, none, none, none]) C dX12_goTable_42 (by decide) rfl rfl ?_
  refine q_aload_n C dX12_goTable_43 rfl ?_
  refine q_aload_n C dX12_goTable_44 rfl ?_
  obtain ⟨hk, h⟩ := q_obE h
  obtain ⟨u11, e1, h⟩ := q_bind h
  refine x_callV0 C dX12_goTable_45 lkM_X12_326 mV_X12_thereBits ⟨_, rfl, rfl⟩ hk (c_X12_thereBits _ _ _ _ _ e1) rfl rfl (Nat.le_of_ble_eq_true rfl) (by decide) (by decide) ?_
  refine x_iconst (v := (-1 : Int32)) C dX12_goTable_48 (by decide) ?_
  refine q_ixor C dX12_goTable_49 ?_
  refine q_istore (L' := [some (.ref l0), some (.ref l1), some (.int ((24 : Int32) + ((2 : Int32) * v2))), some (.int v10), some (.int (u11 ^^^ (-1 : Int32))), none, none, none]) C dX12_goTable_50 (by decide) rfl rfl ?_
  refine x_iconst (v := (0 : Int32)) C dX12_goTable_52 (by decide) ?_
  refine q_istore (L' := [some (.ref l0), some (.ref l1), some (.int ((24 : Int32) + ((2 : Int32) * v2))), some (.int v10), some (.int (u11 ^^^ (-1 : Int32))), some (.int (0 : Int32)), none, none]) C dX12_goTable_53 (by decide) rfl rfl ?_
  obtain ⟨e15, he, h⟩ := q_bind h
  refine q_msk [true, true, false, true, true, true, false, false] (lW_X12_goTable_55 C l0 l1 v10 (u11 ^^^ (-1 : Int32)) q_fu _ _ _ he (fun M16 hs => ?_))
  · have hs := hs.symm
    subst hs
    refine x_iconst (v := (0 : Int32)) C dX12_goTable_76 (by decide) ?_
    refine q_istore (L' := [some (.ref l0), some (.ref l1), none, some (.int v10), some (.int (u11 ^^^ (-1 : Int32))), some (.int (0 : Int32)), none, none]) C dX12_goTable_77 (by decide) rfl rfl ?_
    obtain ⟨e27, he, h⟩ := q_bind h
    refine q_msk [true, true, false, true, true, true, false, false] (lW_X12_goTable_79 C l0 l1 q_fu _ _ _ _ _ he (fun w28 M29 hs => ?_) (fun w43 M44 hs => ?_))
    · have hs := hs.symm
      subst hs
      refine q_goto (tgt := 183) C dX12_goTable_154 (by decide) ?_
      exact q_msk [true, true, false, true, false, false, false, false] (jW_X12_goTable_183 C l0 l1 w28 M29 h)
    · have hs := hs.symm
      subst hs
      exact q_msk [true, true, false, true, false, false, false, false] (jW_X12_goTable_183 C l0 l1 w43 M44 h)
noncomputable def F_X12_kindOf (l0 : Nat) (l1 : Int32) (M : q_Mem) : Option (Int32) := (q_gR M l0 12 20 (fun c1 => q_nn c1 (fun r2 => (q_lI M 0 r2 (((3 : Int32) * l1) + (2 : Int32)) (fun v3 => some v3)))))
set_option maxRecDepth 100000 in
set_option maxHeartbeats 4000000 in
theorem c_X12_kindOf (l : Launch) (G : q_G) (l0 : Nat) (l1 : Int32) (M : q_Mem) {r : Int32} (h : F_X12_kindOf l0 l1 M = some r) : q_Met l G yX12_kindOf cX12_kindOf 2 (Option.some Jvm.ClassFile.FieldType.int) 1 0 0 [.ref l0, .int l1] M (some (.int r)) M := by
  unfold F_X12_kindOf at h
  refine q_enter [some (.ref l0), some (.int l1)] (by decide) (Nat.le_of_ble_eq_true rfl) rfl (fun K C => ?_)
  refine q_aload_n C dX12_kindOf_0 rfl ?_
  refine x_getR (ci := 12) (j := 20) C dX12_kindOf_1 lkF_X12_43 rfl h (fun c1 h => ?_)
  refine x_nn h (fun r2 h => ?_)
  refine x_iconst (v := (3 : Int32)) C dX12_kindOf_4 (by decide) ?_
  refine q_iload_n C dX12_kindOf_5 rfl ?_
  refine q_imul C dX12_kindOf_6 ?_
  refine x_iconst (v := (2 : Int32)) C dX12_kindOf_7 (by decide) ?_
  refine q_iadd C dX12_kindOf_8 ?_
  refine x_iald C dX12_kindOf_9 h (fun v3 h => ?_)
  exact q_iret (res := (r, M)) C dX12_kindOf_10 rfl (by decide) (by decide) (congrArg (fun z => (z, M)) (Option.some.inj h))
noncomputable def J_X12_joyOf_127 (l7 : Int32) (M : q_Mem) : Option (Int32 × q_Mem) := some ((q_mx (-9 : Int32) (q_mn (20 : Int32) l7)), M)
set_option maxRecDepth 100000 in
set_option maxHeartbeats 4000000 in
theorem jW_X12_joyOf_127 {K : q_K} (C : q_C K yX12_joyOf cX12_joyOf 8 (Option.some Jvm.ClassFile.FieldType.int) 133 2 0) (l7 : Int32) (M : q_Mem) {r : Int32} {M' : q_Mem} (h : J_X12_joyOf_127 l7 M = some (r, M')) : q_W K 8 (q_Q K (some (.int r)) M' 2 0) 0 0 M 127 [none, none, none, none, none, none, none, some (.int l7)] [] := by
  unfold J_X12_joyOf_127 at h
  refine x_bipush (v := (-9 : Int32)) C dX12_joyOf_127 (by decide) ?_
  refine x_bipush (v := (20 : Int32)) C dX12_joyOf_129 (by decide) ?_
  refine q_iload C dX12_joyOf_131 rfl ?_
  refine q_min C dX12_joyOf_133 wd_1608 wd_473 wd_15 wd_474 (by decide) (Nat.le_of_ble_eq_true rfl) (by decide) ?_
  refine q_max C dX12_joyOf_136 wd_1599 wd_470 wd_15 wd_471 (by decide) (Nat.le_of_ble_eq_true rfl) (by decide) ?_
  exact q_iret C dX12_joyOf_139 rfl (by decide) (by decide) (Option.some.inj h)
noncomputable def J_X12_joyOf_56 (l0 : Nat) (l1 : Int32) (l4 : Int32) (l5 : Int32) (l6 : Int32) (s0 : Nat) (s1 : Int32) (s2 : Int32) (M : q_Mem) : Option (Int32 × q_Mem) := (q_tI M s0 s1 s2 (fun M7 => (q_gR M7 l0 12 4 (fun c8 => q_nn c8 (fun r9 => (q_tI M7 r9 (102 : Int32) l4 (fun M10 => (q_gR M10 l0 12 4 (fun c11 => q_nn c11 (fun r12 => (q_tI M10 r12 (110 : Int32) l5 (fun M13 => (q_gR M13 l0 12 4 (fun c14 => q_nn c14 (fun r15 => (q_ob M13 l0 12 ((F_X12_pays l0 l1 M13).bind (fun u16 => (q_tI M13 r15 (112 : Int32) u16 (fun M17 => (q_gR M17 l0 12 4 (fun c18 => q_nn c18 (fun r19 => (q_tI M17 r19 (100 : Int32) l6 (fun M20 => (q_gR M20 l0 12 2 (fun c21 => q_nn c21 (fun r22 => (q_gI M20 l0 12 34 (fun v23 => (q_gR M20 l0 12 3 (fun c24 => q_nn c24 (fun r25 => (q_gI M20 l0 12 34 (fun v26 => (q_lI M20 0 r25 v26 (fun v27 => (q_ob M20 l0 12 ((F_X12_goThrough l0 r22 ((240 : Int32) * v23) v27 M20).bind (fun x => match x with | (_, M29) => (q_gI M29 l0 12 14 (fun v30 => J_X12_joyOf_127 v30 M29))))))))))))))))))))))))))))))))))))))))))
set_option maxRecDepth 100000 in
set_option maxHeartbeats 4000000 in
theorem jW_X12_joyOf_56 {K : q_K} (C : q_C K yX12_joyOf cX12_joyOf 8 (Option.some Jvm.ClassFile.FieldType.int) 133 2 0) (l0 : Nat) (l1 : Int32) (l4 : Int32) (l5 : Int32) (l6 : Int32) (s0 : Nat) (s1 : Int32) (s2 : Int32) (M : q_Mem) {r : Int32} {M' : q_Mem} (h : J_X12_joyOf_56 l0 l1 l4 l5 l6 s0 s1 s2 M = some (r, M')) : q_W K 8 (q_Q K (some (.int r)) M' 2 0) 0 0 M 56 [some (.ref l0), some (.int l1), none, none, some (.int l4), some (.int l5), some (.int l6), none] [.int s2, .int s1, .ref s0] := by
  unfold J_X12_joyOf_56 at h
  refine x_iast C dX12_joyOf_56 h (fun M7 h => ?_)
  refine q_aload_n C dX12_joyOf_57 rfl ?_
  refine x_getR (ci := 12) (j := 4) C dX12_joyOf_58 lkF_X12_20 rfl h (fun c8 h => ?_)
  refine x_nn h (fun r9 h => ?_)
  refine x_bipush (v := (102 : Int32)) C dX12_joyOf_61 (by decide) ?_
  refine q_iload C dX12_joyOf_63 rfl ?_
  refine x_iast C dX12_joyOf_65 h (fun M10 h => ?_)
  refine q_aload_n C dX12_joyOf_66 rfl ?_
  refine x_getR (ci := 12) (j := 4) C dX12_joyOf_67 lkF_X12_20 rfl h (fun c11 h => ?_)
  refine x_nn h (fun r12 h => ?_)
  refine x_bipush (v := (110 : Int32)) C dX12_joyOf_70 (by decide) ?_
  refine q_iload C dX12_joyOf_72 rfl ?_
  refine x_iast C dX12_joyOf_74 h (fun M13 h => ?_)
  refine q_aload_n C dX12_joyOf_75 rfl ?_
  refine x_getR (ci := 12) (j := 4) C dX12_joyOf_76 lkF_X12_20 rfl h (fun c14 h => ?_)
  refine x_nn h (fun r15 h => ?_)
  refine x_bipush (v := (112 : Int32)) C dX12_joyOf_79 (by decide) ?_
  refine q_aload_n C dX12_joyOf_81 rfl ?_
  refine q_iload_n C dX12_joyOf_82 rfl ?_
  obtain ⟨hk, h⟩ := q_obE h
  obtain ⟨u16, e1, h⟩ := q_bind h
  refine x_callV0 C dX12_joyOf_83 lkM_X12_306 mV_X12_pays ⟨_, rfl, rfl⟩ hk (c_X12_pays _ _ _ _ _ e1) rfl rfl (Nat.le_of_ble_eq_true rfl) (by decide) (by decide) ?_
  refine x_iast C dX12_joyOf_86 h (fun M17 h => ?_)
  refine q_aload_n C dX12_joyOf_87 rfl ?_
  refine x_getR (ci := 12) (j := 4) C dX12_joyOf_88 lkF_X12_20 rfl h (fun c18 h => ?_)
  refine x_nn h (fun r19 h => ?_)
  refine x_bipush (v := (100 : Int32)) C dX12_joyOf_91 (by decide) ?_
  refine q_iload C dX12_joyOf_93 rfl ?_
  refine x_iast C dX12_joyOf_95 h (fun M20 h => ?_)
  refine q_aload_n C dX12_joyOf_96 rfl ?_
  refine q_aload_n C dX12_joyOf_97 rfl ?_
  refine x_getR (ci := 12) (j := 2) C dX12_joyOf_98 lkF_X12_13 rfl h (fun c21 h => ?_)
  refine x_nn h (fun r22 h => ?_)
  refine x_sipush (v := (240 : Int32)) C dX12_joyOf_101 (by decide) ?_
  refine q_aload_n C dX12_joyOf_104 rfl ?_
  refine x_getI (ci := 12) (j := 34) C dX12_joyOf_105 lkF_X12_67 rfl h (fun v23 h => ?_)
  refine q_imul C dX12_joyOf_108 ?_
  refine q_aload_n C dX12_joyOf_109 rfl ?_
  refine x_getR (ci := 12) (j := 3) C dX12_joyOf_110 lkF_X12_16 rfl h (fun c24 h => ?_)
  refine x_nn h (fun r25 h => ?_)
  refine q_aload_n C dX12_joyOf_113 rfl ?_
  refine x_getI (ci := 12) (j := 34) C dX12_joyOf_114 lkF_X12_67 rfl h (fun v26 h => ?_)
  refine x_iald C dX12_joyOf_117 h (fun v27 h => ?_)
  obtain ⟨hk, h⟩ := q_obE h
  obtain ⟨⟨_, M29⟩, e1, h⟩ := q_bind h
  refine x_callVv C dX12_joyOf_118 lkM_X12_270 mV_X12_goThrough ⟨_, rfl, rfl⟩ hk (c_X12_goThrough _ _ _ _ _ _ _ e1) rfl rfl (Nat.le_of_ble_eq_true rfl) (by decide) (by decide) ?_
  refine q_aload_n C dX12_joyOf_121 rfl ?_
  refine x_getI (ci := 12) (j := 14) C dX12_joyOf_122 lkF_X12_200 rfl h (fun v30 h => ?_)
  refine q_istore (L' := [some (.ref l0), some (.int l1), none, none, some (.int l4), some (.int l5), some (.int l6), some (.int v30)]) C dX12_joyOf_125 (by decide) rfl rfl ?_
  exact q_msk [false, false, false, false, false, false, false, true] (jW_X12_joyOf_127 C v30 M29 h)
noncomputable def J_X12_joyOf_23 (l0 : Nat) (l1 : Int32) (l2 : Int32) (l3 : Int32) (l4 : Int32) (l5 : Int32) (l6 : Int32) (s0 : Int32) (M : q_Mem) : Option (Int32 × q_Mem) := (q_gI M l0 12 34 (fun v1 => (if v1 = (-1 : Int32) then J_X12_joyOf_127 s0 M else (q_gR M l0 12 4 (fun c2 => q_nn c2 (fun r3 => (q_tI M r3 (119 : Int32) l2 (fun M4 => (q_gR M4 l0 12 4 (fun c5 => q_nn c5 (fun r6 => (if l3 = 0 then J_X12_joyOf_56 l0 l1 l4 l5 l6 r6 (108 : Int32) (0 : Int32) M4 else J_X12_joyOf_56 l0 l1 l4 l5 l6 r6 (108 : Int32) (1 : Int32) M4))))))))))))
set_option maxRecDepth 100000 in
set_option maxHeartbeats 4000000 in
theorem jW_X12_joyOf_23 {K : q_K} (C : q_C K yX12_joyOf cX12_joyOf 8 (Option.some Jvm.ClassFile.FieldType.int) 133 2 0) (l0 : Nat) (l1 : Int32) (l2 : Int32) (l3 : Int32) (l4 : Int32) (l5 : Int32) (l6 : Int32) (s0 : Int32) (M : q_Mem) {r : Int32} {M' : q_Mem} (h : J_X12_joyOf_23 l0 l1 l2 l3 l4 l5 l6 s0 M = some (r, M')) : q_W K 8 (q_Q K (some (.int r)) M' 2 0) 0 0 M 23 [some (.ref l0), some (.int l1), some (.int l2), some (.int l3), some (.int l4), some (.int l5), some (.int l6), none] [.int s0] := by
  unfold J_X12_joyOf_23 at h
  refine q_istore (L' := [some (.ref l0), some (.int l1), some (.int l2), some (.int l3), some (.int l4), some (.int l5), some (.int l6), some (.int s0)]) C dX12_joyOf_23 (by decide) rfl rfl ?_
  refine q_aload_n C dX12_joyOf_25 rfl ?_
  refine x_getI (ci := 12) (j := 34) C dX12_joyOf_26 lkF_X12_67 rfl h (fun v1 h => ?_)
  refine x_iconst (v := (-1 : Int32)) C dX12_joyOf_29 (by decide) ?_
  refine q_icmp_eq (tgt := 127) C dX12_joyOf_30 (by decide) h (fun _ h => ?_) (fun _ h => ?_)
  · exact q_msk [false, false, false, false, false, false, false, true] (jW_X12_joyOf_127 C s0 M h)
  · refine q_aload_n C dX12_joyOf_33 rfl ?_
    refine x_getR (ci := 12) (j := 4) C dX12_joyOf_34 lkF_X12_20 rfl h (fun c2 h => ?_)
    refine x_nn h (fun r3 h => ?_)
    refine x_bipush (v := (119 : Int32)) C dX12_joyOf_37 (by decide) ?_
    refine q_iload_n C dX12_joyOf_39 rfl ?_
    refine x_iast C dX12_joyOf_40 h (fun M4 h => ?_)
    refine q_aload_n C dX12_joyOf_41 rfl ?_
    refine x_getR (ci := 12) (j := 4) C dX12_joyOf_42 lkF_X12_20 rfl h (fun c5 h => ?_)
    refine x_nn h (fun r6 h => ?_)
    refine x_bipush (v := (108 : Int32)) C dX12_joyOf_45 (by decide) ?_
    refine q_iload_n C dX12_joyOf_47 rfl ?_
    refine q_if_eq (tgt := 55) C dX12_joyOf_48 (by decide) h (fun _ h => ?_) (fun _ h => ?_)
    · refine x_iconst (v := (0 : Int32)) C dX12_joyOf_55 (by decide) ?_
      exact q_msk [true, true, false, false, true, true, true, false] (jW_X12_joyOf_56 C l0 l1 l4 l5 l6 r6 (108 : Int32) (0 : Int32) M4 h)
    · refine x_iconst (v := (1 : Int32)) C dX12_joyOf_51 (by decide) ?_
      refine q_goto (tgt := 56) C dX12_joyOf_52 (by decide) ?_
      exact q_msk [true, true, false, false, true, true, true, false] (jW_X12_joyOf_56 C l0 l1 l4 l5 l6 r6 (108 : Int32) (1 : Int32) M4 h)
noncomputable def J_X12_joyOf_22 (l0 : Nat) (l1 : Int32) (l2 : Int32) (l3 : Int32) (l4 : Int32) (l5 : Int32) (l6 : Int32) (s0 : Int32) (s1 : Int32) (M : q_Mem) : Option (Int32 × q_Mem) := J_X12_joyOf_23 l0 l1 l2 l3 l4 l5 l6 (s0 + s1) M
set_option maxRecDepth 100000 in
set_option maxHeartbeats 4000000 in
theorem jW_X12_joyOf_22 {K : q_K} (C : q_C K yX12_joyOf cX12_joyOf 8 (Option.some Jvm.ClassFile.FieldType.int) 133 2 0) (l0 : Nat) (l1 : Int32) (l2 : Int32) (l3 : Int32) (l4 : Int32) (l5 : Int32) (l6 : Int32) (s0 : Int32) (s1 : Int32) (M : q_Mem) {r : Int32} {M' : q_Mem} (h : J_X12_joyOf_22 l0 l1 l2 l3 l4 l5 l6 s0 s1 M = some (r, M')) : q_W K 8 (q_Q K (some (.int r)) M' 2 0) 0 0 M 22 [some (.ref l0), some (.int l1), some (.int l2), some (.int l3), some (.int l4), some (.int l5), some (.int l6), none] [.int s1, .int s0] := by
  unfold J_X12_joyOf_22 at h
  refine q_iadd C dX12_joyOf_22 ?_
  exact q_msk [true, true, true, true, true, true, true, false] (jW_X12_joyOf_23 C l0 l1 l2 l3 l4 l5 l6 (s0 + s1) M h)
noncomputable def F_X12_joyOf (l0 : Nat) (l1 : Int32) (l2 : Int32) (l3 : Int32) (l4 : Int32) (l5 : Int32) (l6 : Int32) (M : q_Mem) : Option (Int32 × q_Mem) := (if l4 = 0 then J_X12_joyOf_23 l0 l1 l2 l3 l4 l5 l6 (-2 : Int32) M else (q_dvi l2 (3 : Int32) (fun v31 => (if l3 = 0 then J_X12_joyOf_22 l0 l1 l2 l3 l4 l5 l6 v31 (0 : Int32) M else J_X12_joyOf_22 l0 l1 l2 l3 l4 l5 l6 v31 (3 : Int32) M))))
set_option maxRecDepth 100000 in
set_option maxHeartbeats 4000000 in
theorem c_X12_joyOf (l : Launch) (G : q_G) (l0 : Nat) (l1 : Int32) (l2 : Int32) (l3 : Int32) (l4 : Int32) (l5 : Int32) (l6 : Int32) (M : q_Mem) {r : Int32} {M' : q_Mem} (h : F_X12_joyOf l0 l1 l2 l3 l4 l5 l6 M = some (r, M')) : q_Met l G yX12_joyOf cX12_joyOf 8 (Option.some Jvm.ClassFile.FieldType.int) 133 2 0 [.ref l0, .int l1, .int l2, .int l3, .int l4, .int l5, .int l6] M (some (.int r)) M' := by
  unfold F_X12_joyOf at h
  refine q_enter [some (.ref l0), some (.int l1), some (.int l2), some (.int l3), some (.int l4), some (.int l5), some (.int l6), none] (by decide) (Nat.le_of_ble_eq_true rfl) rfl (fun K C => ?_)
  refine q_iload C dX12_joyOf_0 rfl ?_
  refine q_if_ne (tgt := 10) C dX12_joyOf_2 (by decide) h (fun _ h => ?_) (fun _ h => ?_)
  · refine x_bipush (v := (-2 : Int32)) C dX12_joyOf_5 (by decide) ?_
    refine q_goto (tgt := 23) C dX12_joyOf_7 (by decide) ?_
    exact q_msk [true, true, true, true, true, true, true, false] (jW_X12_joyOf_23 C l0 l1 l2 l3 l4 l5 l6 (-2 : Int32) M h)
  · refine q_iload_n C dX12_joyOf_10 rfl ?_
    refine x_iconst (v := (3 : Int32)) C dX12_joyOf_11 (by decide) ?_
    refine q_idiv C dX12_joyOf_12 h (fun v31 h => ?_)
    refine q_iload_n C dX12_joyOf_13 rfl ?_
    refine q_if_eq (tgt := 21) C dX12_joyOf_14 (by decide) h (fun _ h => ?_) (fun _ h => ?_)
    · refine x_iconst (v := (0 : Int32)) C dX12_joyOf_21 (by decide) ?_
      exact q_msk [true, true, true, true, true, true, true, false] (jW_X12_joyOf_22 C l0 l1 l2 l3 l4 l5 l6 v31 (0 : Int32) M h)
    · refine x_iconst (v := (3 : Int32)) C dX12_joyOf_17 (by decide) ?_
      refine q_goto (tgt := 22) C dX12_joyOf_18 (by decide) ?_
      exact q_msk [true, true, true, true, true, true, true, false] (jW_X12_joyOf_22 C l0 l1 l2 l3 l4 l5 l6 v31 (3 : Int32) M h)
noncomputable def J_X12_fedBits_29_4 (l0 : Nat) (l2 : Int32) (s0 : Int32) (s1 : Int32) (M : q_Mem) : Option ((Int32 × Int32) ⊕ (Int32)) := some (.inl ((s0 ||| s1), (l2 + (1 : Int32))))
set_option maxRecDepth 100000 in
set_option maxHeartbeats 4000000 in
theorem jW_X12_fedBits_29_4 {K : q_K} {Q : State → Prop} (C : q_C K yX12_fedBits cX12_fedBits 3 (Option.some Jvm.ClassFile.FieldType.int) 1 0 0) (l0 : Nat) (l2 : Int32) (s0 : Int32) (s1 : Int32) (M : q_Mem) {stp : (Int32 × Int32) ⊕ (Int32)} (h : J_X12_fedBits_29_4 l0 l2 s0 s1 M = some stp) (kC : ∀ (l1 : Int32) (l2 : Int32), stp = .inl (l1, l2) → q_W K 3 Q 0 0 M 4 [some (.ref l0), some (.int l1), some (.int l2)] []) (kE0 : ∀ (l1 : Int32), stp = .inr l1 → q_W K 3 Q 0 0 M 37 [none, some (.int l1), none] []) : q_W K 3 Q 0 0 M 29 [some (.ref l0), none, some (.int l2)] [.int s1, .int s0] := by
  unfold J_X12_fedBits_29_4 at h
  refine q_ior C dX12_fedBits_29 ?_
  refine q_istore_n (L' := [some (.ref l0), some (.int (s0 ||| s1)), some (.int l2)]) C dX12_fedBits_30 (by decide) rfl rfl ?_
  refine x_iinc (w := (1 : Int32)) (L' := [some (.ref l0), some (.int (s0 ||| s1)), some (.int (l2 + (1 : Int32)))]) C dX12_fedBits_31 rfl (by decide) (by decide) rfl rfl ?_
  refine q_goto (tgt := 4) C dX12_fedBits_34 (by decide) ?_
  exact q_msk [true, true, true] (kC _ _ (Option.some.inj h).symm)
noncomputable def B_X12_fedBits_4 (l0 : Nat) (l1 : Int32) (l2 : Int32) (M : q_Mem) : Option ((Int32 × Int32) ⊕ (Int32)) := (q_gI M l0 12 27 (fun v1 => (if l2 < v1 then (q_gR M l0 12 36 (fun c2 => q_nn c2 (fun r3 => (q_lI M 0 r3 l2 (fun v4 => (if 0 < v4 then J_X12_fedBits_29_4 l0 l2 l1 ((1 : Int32) <<< (l2 &&& 31)) M else J_X12_fedBits_29_4 l0 l2 l1 (0 : Int32) M)))))) else some (.inr l1))))
set_option maxRecDepth 100000 in
set_option maxHeartbeats 4000000 in
theorem bW_X12_fedBits_4 {K : q_K} {Q : State → Prop} (C : q_C K yX12_fedBits cX12_fedBits 3 (Option.some Jvm.ClassFile.FieldType.int) 1 0 0) (l0 : Nat) (l1 : Int32) (l2 : Int32) (M : q_Mem) {stp : (Int32 × Int32) ⊕ (Int32)} (h : B_X12_fedBits_4 l0 l1 l2 M = some stp) (kC : ∀ (l1 : Int32) (l2 : Int32), stp = .inl (l1, l2) → q_W K 3 Q 0 0 M 4 [some (.ref l0), some (.int l1), some (.int l2)] []) (kE0 : ∀ (l1 : Int32), stp = .inr l1 → q_W K 3 Q 0 0 M 37 [none, some (.int l1), none] []) : q_W K 3 Q 0 0 M 4 [some (.ref l0), some (.int l1), some (.int l2)] [] := by
  unfold B_X12_fedBits_4 at h
  refine q_iload_n C dX12_fedBits_4 rfl ?_
  refine q_aload_n C dX12_fedBits_5 rfl ?_
  refine x_getI (ci := 12) (j := 27) C dX12_fedBits_6 lkF_X12_287 rfl h (fun v1 h => ?_)
  refine q_icmp_ge (tgt := 37) C dX12_fedBits_9 (by decide) h (fun _ h => ?_) (fun _ h => ?_)
  · refine q_iload_n C dX12_fedBits_12 rfl ?_
    refine q_aload_n C dX12_fedBits_13 rfl ?_
    refine x_getR (ci := 12) (j := 36) C dX12_fedBits_14 lkF_X12_74 rfl h (fun c2 h => ?_)
    refine x_nn h (fun r3 h => ?_)
    refine q_iload_n C dX12_fedBits_17 rfl ?_
    refine x_iald C dX12_fedBits_18 h (fun v4 h => ?_)
    refine q_if_le (tgt := 28) C dX12_fedBits_19 (by decide) h (fun _ h => ?_) (fun _ h => ?_)
    · refine x_iconst (v := (1 : Int32)) C dX12_fedBits_22 (by decide) ?_
      refine q_iload_n C dX12_fedBits_23 rfl ?_
      refine q_ishl C dX12_fedBits_24 ?_
      refine q_goto (tgt := 29) C dX12_fedBits_25 (by decide) ?_
      exact q_msk [true, false, true] (jW_X12_fedBits_29_4 C l0 l2 l1 ((1 : Int32) <<< (l2 &&& 31)) M h kC kE0)
    · refine x_iconst (v := (0 : Int32)) C dX12_fedBits_28 (by decide) ?_
      exact q_msk [true, false, true] (jW_X12_fedBits_29_4 C l0 l2 l1 (0 : Int32) M h kC kE0)
  · exact q_msk [false, true, false] (kE0 _ (Option.some.inj h).symm)
set_option maxRecDepth 100000 in
set_option maxHeartbeats 4000000 in
theorem lW_X12_fedBits_4 {K : q_K} {Q : State → Prop} (C : q_C K yX12_fedBits cX12_fedBits 3 (Option.some Jvm.ClassFile.FieldType.int) 1 0 0) (l0 : Nat) (M : q_Mem) (n : Nat) : ∀ (l1 : Int32) (l2 : Int32) (e : (Int32)), q_lp (fun s => B_X12_fedBits_4 l0 s.1 s.2 M) n (l1, l2) = some e → (∀ (l1 : Int32), e = l1 → q_W K 3 Q 0 0 M 37 [none, some (.int l1), none] []) → q_W K 3 Q 0 0 M 4 [some (.ref l0), some (.int l1), some (.int l2)] [] := by
  induction n with
  | zero => intro l1 l2 e h; cases h
  | succ n ih =>
    intro l1 l2 e h kE0
    obtain ⟨stp, e1, e2⟩ := q_bind h
    refine bW_X12_fedBits_4 C l0 l1 l2 M e1 (fun a0 a1 hs => ?_) (fun b0 hs => ?_)
    · subst hs; exact ih _ _ _ e2 kE0
    · subst hs; exact kE0 _ (Option.some.inj e2).symm
noncomputable def F_X12_fedBits (l0 : Nat) (M : q_Mem) : Option (Int32) := (q_lp (fun s => B_X12_fedBits_4 l0 s.1 s.2 M) q_fu ((0 : Int32), (0 : Int32))).bind (fun e5 => match e5 with | w6 => some w6)
set_option maxRecDepth 100000 in
set_option maxHeartbeats 4000000 in
theorem c_X12_fedBits (l : Launch) (G : q_G) (l0 : Nat) (M : q_Mem) {r : Int32} (h : F_X12_fedBits l0 M = some r) : q_Met l G yX12_fedBits cX12_fedBits 3 (Option.some Jvm.ClassFile.FieldType.int) 1 0 0 [.ref l0] M (some (.int r)) M := by
  unfold F_X12_fedBits at h
  refine q_enter [some (.ref l0), none, none] (by decide) (Nat.le_of_ble_eq_true rfl) rfl (fun K C => ?_)
  refine x_iconst (v := (0 : Int32)) C dX12_fedBits_0 (by decide) ?_
  refine q_istore_n (L' := [some (.ref l0), some (.int (0 : Int32)), none]) C dX12_fedBits_1 (by decide) rfl rfl ?_
  refine x_iconst (v := (0 : Int32)) C dX12_fedBits_2 (by decide) ?_
  refine q_istore_n (L' := [some (.ref l0), some (.int (0 : Int32)), some (.int (0 : Int32))]) C dX12_fedBits_3 (by decide) rfl rfl ?_
  obtain ⟨e5, he, h⟩ := q_bind h
  refine q_msk [true, true, true] (lW_X12_fedBits_4 C l0 M q_fu _ _ _ he (fun w6 hs => ?_))
  · have hs := hs.symm
    subst hs
    refine q_iload_n C dX12_fedBits_37 rfl ?_
    exact q_iret (res := (r, M)) C dX12_fedBits_38 rfl (by decide) (by decide) (congrArg (fun z => (z, M)) (Option.some.inj h))
noncomputable def B_X12_joys_4 (l0 : Nat) (l1 : Nat) (l2 : Int32) (l3 : Int32) (M : q_Mem) : Option ((Int32 × Int32) ⊕ (Int32)) := (q_gI M l0 12 27 (fun v1 => (if l3 < v1 then (q_lI M 0 l1 (((4 : Int32) * l3) + (2 : Int32)) (fun v2 => some (.inl ((l2 + v2), (l3 + (1 : Int32)))))) else some (.inr l2))))
set_option maxRecDepth 100000 in
set_option maxHeartbeats 4000000 in
theorem bW_X12_joys_4 {K : q_K} {Q : State → Prop} (C : q_C K yX12_joys cX12_joys 4 (Option.some Jvm.ClassFile.FieldType.int) 1 0 0) (l0 : Nat) (l1 : Nat) (l2 : Int32) (l3 : Int32) (M : q_Mem) {stp : (Int32 × Int32) ⊕ (Int32)} (h : B_X12_joys_4 l0 l1 l2 l3 M = some stp) (kC : ∀ (l2 : Int32) (l3 : Int32), stp = .inl (l2, l3) → q_W K 4 Q 0 0 M 4 [some (.ref l0), some (.ref l1), some (.int l2), some (.int l3)] []) (kE0 : ∀ (l2 : Int32), stp = .inr l2 → q_W K 4 Q 0 0 M 28 [none, none, some (.int l2), none] []) : q_W K 4 Q 0 0 M 4 [some (.ref l0), some (.ref l1), some (.int l2), some (.int l3)] [] := by
  unfold B_X12_joys_4 at h
  refine q_iload_n C dX12_joys_4 rfl ?_
  refine q_aload_n C dX12_joys_5 rfl ?_
  refine x_getI (ci := 12) (j := 27) C dX12_joys_6 lkF_X12_287 rfl h (fun v1 h => ?_)
  refine q_icmp_ge (tgt := 28) C dX12_joys_9 (by decide) h (fun _ h => ?_) (fun _ h => ?_)
  · refine q_iload_n C dX12_joys_12 rfl ?_
    refine q_aload_n C dX12_joys_13 rfl ?_
    refine x_iconst (v := (4 : Int32)) C dX12_joys_14 (by decide) ?_
    refine q_iload_n C dX12_joys_15 rfl ?_
    refine q_imul C dX12_joys_16 ?_
    refine x_iconst (v := (2 : Int32)) C dX12_joys_17 (by decide) ?_
    refine q_iadd C dX12_joys_18 ?_
    refine x_iald C dX12_joys_19 h (fun v2 h => ?_)
    refine q_iadd C dX12_joys_20 ?_
    refine q_istore_n (L' := [some (.ref l0), some (.ref l1), some (.int (l2 + v2)), some (.int l3)]) C dX12_joys_21 (by decide) rfl rfl ?_
    refine x_iinc (w := (1 : Int32)) (L' := [some (.ref l0), some (.ref l1), some (.int (l2 + v2)), some (.int (l3 + (1 : Int32)))]) C dX12_joys_22 rfl (by decide) (by decide) rfl rfl ?_
    refine q_goto (tgt := 4) C dX12_joys_25 (by decide) ?_
    exact q_msk [true, true, true, true] (kC _ _ (Option.some.inj h).symm)
  · exact q_msk [false, false, true, false] (kE0 _ (Option.some.inj h).symm)
set_option maxRecDepth 100000 in
set_option maxHeartbeats 4000000 in
theorem lW_X12_joys_4 {K : q_K} {Q : State → Prop} (C : q_C K yX12_joys cX12_joys 4 (Option.some Jvm.ClassFile.FieldType.int) 1 0 0) (l0 : Nat) (l1 : Nat) (M : q_Mem) (n : Nat) : ∀ (l2 : Int32) (l3 : Int32) (e : (Int32)), q_lp (fun s => B_X12_joys_4 l0 l1 s.1 s.2 M) n (l2, l3) = some e → (∀ (l2 : Int32), e = l2 → q_W K 4 Q 0 0 M 28 [none, none, some (.int l2), none] []) → q_W K 4 Q 0 0 M 4 [some (.ref l0), some (.ref l1), some (.int l2), some (.int l3)] [] := by
  induction n with
  | zero => intro l2 l3 e h; cases h
  | succ n ih =>
    intro l2 l3 e h kE0
    obtain ⟨stp, e1, e2⟩ := q_bind h
    refine bW_X12_joys_4 C l0 l1 l2 l3 M e1 (fun a0 a1 hs => ?_) (fun b0 hs => ?_)
    · subst hs; exact ih _ _ _ e2 kE0
    · subst hs; exact kE0 _ (Option.some.inj e2).symm
noncomputable def F_X12_joys (l0 : Nat) (l1 : Nat) (M : q_Mem) : Option (Int32) := (q_lp (fun s => B_X12_joys_4 l0 l1 s.1 s.2 M) q_fu ((0 : Int32), (0 : Int32))).bind (fun e3 => match e3 with | w4 => some w4)
set_option maxRecDepth 100000 in
set_option maxHeartbeats 4000000 in
theorem c_X12_joys (l : Launch) (G : q_G) (l0 : Nat) (l1 : Nat) (M : q_Mem) {r : Int32} (h : F_X12_joys l0 l1 M = some r) : q_Met l G yX12_joys cX12_joys 4 (Option.some Jvm.ClassFile.FieldType.int) 1 0 0 [.ref l0, .ref l1] M (some (.int r)) M := by
  unfold F_X12_joys at h
  refine q_enter [some (.ref l0), some (.ref l1), none, none] (by decide) (Nat.le_of_ble_eq_true rfl) rfl (fun K C => ?_)
  refine x_iconst (v := (0 : Int32)) C dX12_joys_0 (by decide) ?_
  refine q_istore_n (L' := [some (.ref l0), some (.ref l1), some (.int (0 : Int32)), none]) C dX12_joys_1 (by decide) rfl rfl ?_
  refine x_iconst (v := (0 : Int32)) C dX12_joys_2 (by decide) ?_
  refine q_istore_n (L' := [some (.ref l0), some (.ref l1), some (.int (0 : Int32)), some (.int (0 : Int32))]) C dX12_joys_3 (by decide) rfl rfl ?_
  obtain ⟨e3, he, h⟩ := q_bind h
  refine q_msk [true, true, true, true] (lW_X12_joys_4 C l0 l1 M q_fu _ _ _ he (fun w4 hs => ?_))
  · have hs := hs.symm
    subst hs
    refine q_iload_n C dX12_joys_28 rfl ?_
    exact q_iret (res := (r, M)) C dX12_joys_29 rfl (by decide) (by decide) (congrArg (fun z => (z, M)) (Option.some.inj h))
