noncomputable def J_X12_clause_134 (l0 : Nat) (l1 : Int32) (l2 : Int32) (l3 : Int32) (M : q_Mem) : Option (Unit × q_Mem) := (q_gI M l0 12 11 (fun v19 => (if v19 = (-1 : Int32) then (q_gI M l0 12 17 (fun v20 => (if v20 = 0 then (q_gI M l0 12 13 (fun v21 => (if l1 = v21 then (if l2 = 0 then some ((), M) else (q_pZ M l0 12 17 (1 : Int32) (fun M22 => (q_pI M22 l0 12 14 l3 (fun M23 => some ((), M23)))))) else some ((), M)))) else some ((), M)))) else some ((), M))))
set_option maxRecDepth 100000 in
set_option maxHeartbeats 4000000 in
theorem jW_X12_clause_134 {K : q_K} (C : q_C K yX12_clause cX12_clause 5 (Option.none : Option Jvm.ClassFile.FieldType) 129 0 0) (l0 : Nat) (l1 : Int32) (l2 : Int32) (l3 : Int32) (M : q_Mem) {r : Unit} {M' : q_Mem} (h : J_X12_clause_134 l0 l1 l2 l3 M = some (r, M')) : q_W K 5 (q_Q K none M' 0 0) 0 0 M 134 [some (.ref l0), some (.int l1), some (.int l2), some (.int l3), none] [] := by
  unfold J_X12_clause_134 at h
  refine q_aload_n C dX12_clause_134 rfl ?_
  refine x_getI (ci := 12) (j := 11) C dX12_clause_135 lkF_X12_124 rfl h (fun v19 h => ?_)
  refine x_iconst (v := (-1 : Int32)) C dX12_clause_138 (by decide) ?_
  refine q_icmp_ne (tgt := 161) C dX12_clause_139 (by decide) h (fun _ h => ?_) (fun _ h => ?_)
  · refine q_aload_n C dX12_clause_142 rfl ?_
    refine x_getI (ci := 12) (j := 17) C dX12_clause_143 lkF_X12_193 rfl h (fun v20 h => ?_)
    refine q_if_ne (tgt := 161) C dX12_clause_146 (by decide) h (fun _ h => ?_) (fun _ h => ?_)
    · refine q_iload_n C dX12_clause_149 rfl ?_
      refine q_aload_n C dX12_clause_150 rfl ?_
      refine x_getI (ci := 12) (j := 13) C dX12_clause_151 lkF_X12_197 rfl h (fun v21 h => ?_)
      refine q_icmp_ne (tgt := 161) C dX12_clause_154 (by decide) h (fun _ h => ?_) (fun _ h => ?_)
      · refine q_iload_n C dX12_clause_157 rfl ?_
        refine q_if_ne (tgt := 162) C dX12_clause_158 (by decide) h (fun _ h => ?_) (fun _ h => ?_)
        · exact q_vret C dX12_clause_161 rfl (by decide) (by decide) (Option.some.inj h)
        · refine q_aload_n C dX12_clause_162 rfl ?_
          refine x_iconst (v := (1 : Int32)) C dX12_clause_163 (by decide) ?_
          refine x_putZ (ci := 12) (j := 17) C dX12_clause_164 lkF_X12_193 (fun r hr => by cases hr; rfl) rfl h (fun M22 h => ?_)
          refine q_aload_n C dX12_clause_167 rfl ?_
          refine q_iload_n C dX12_clause_168 rfl ?_
          refine x_putI (ci := 12) (j := 14) C dX12_clause_169 lkF_X12_200 (fun r hr => by cases hr; rfl) rfl h (fun M23 h => ?_)
          exact q_vret C dX12_clause_172 rfl (by decide) (by decide) (Option.some.inj h)
      · exact q_vret C dX12_clause_161 rfl (by decide) (by decide) (Option.some.inj h)
    · exact q_vret C dX12_clause_161 rfl (by decide) (by decide) (Option.some.inj h)
  · exact q_vret C dX12_clause_161 rfl (by decide) (by decide) (Option.some.inj h)
noncomputable def J_X12_clause_64 (l0 : Nat) (l1 : Int32) (M : q_Mem) : Option (Unit × q_Mem) := (q_ob M l0 12 ((R_X12_condition 60 0 l0 (0 : Int32) (0 : Int32) M).bind (fun x => match x with | (u13, M14) => (q_ob M14 l0 12 ((F_X12_takes l0 (63 : Int32) M14).bind (fun x => match x with | (u15, M16) => (if u15 = 0 then some ((), M16) else (q_ob M16 l0 12 ((R_X12_atom 60 1 l0 M16).bind (fun x => match x with | (u17, M18) => J_X12_clause_134 l0 l1 u13 u17 M18))))))))))
set_option maxRecDepth 100000 in
set_option maxHeartbeats 4000000 in
theorem jW_X12_clause_64 {K : q_K} (C : q_C K yX12_clause cX12_clause 5 (Option.none : Option Jvm.ClassFile.FieldType) 129 0 0) (l0 : Nat) (l1 : Int32) (M : q_Mem) {r : Unit} {M' : q_Mem} (h : J_X12_clause_64 l0 l1 M = some (r, M')) : q_W K 5 (q_Q K none M' 0 0) 0 0 M 64 [some (.ref l0), some (.int l1), none, none, none] [] := by
  unfold J_X12_clause_64 at h
  refine q_aload_n C dX12_clause_64 rfl ?_
  refine x_iconst (v := (0 : Int32)) C dX12_clause_65 (by decide) ?_
  refine x_iconst (v := (0 : Int32)) C dX12_clause_66 (by decide) ?_
  obtain ⟨hk, h⟩ := q_obE h
  obtain ⟨⟨u13, M14⟩, e1, h⟩ := q_bind h
  refine x_callV0 C dX12_clause_67 lkM_X12_183 mV_X12_condition ⟨_, rfl, rfl⟩ hk (c_X12_condition _ _ _ _ _ _ e1) rfl rfl (Nat.le_of_ble_eq_true rfl) (by decide) (by decide) ?_
  refine q_istore_n (L' := [some (.ref l0), some (.int l1), some (.int u13), none, none]) C dX12_clause_70 (by decide) rfl rfl ?_
  refine q_aload_n C dX12_clause_71 rfl ?_
  refine x_bipush (v := (63 : Int32)) C dX12_clause_72 (by decide) ?_
  obtain ⟨hk, h⟩ := q_obE h
  obtain ⟨⟨u15, M16⟩, e1, h⟩ := q_bind h
  refine x_callV0 C dX12_clause_74 lkM_X12_160 mV_X12_takes ⟨_, rfl, rfl⟩ hk (c_X12_takes _ _ _ _ _ e1) rfl rfl (Nat.le_of_ble_eq_true rfl) (by decide) (by decide) ?_
  refine q_if_ne (tgt := 81) C dX12_clause_77 (by decide) h (fun _ h => ?_) (fun _ h => ?_)
  · exact q_vret C dX12_clause_80 rfl (by decide) (by decide) (Option.some.inj h)
  · refine q_aload_n C dX12_clause_81 rfl ?_
    obtain ⟨hk, h⟩ := q_obE h
    obtain ⟨⟨u17, M18⟩, e1, h⟩ := q_bind h
    refine x_callV0 C dX12_clause_82 lkM_X12_157 mV_X12_sum ⟨_, rfl, rfl⟩ hk (c_X12_sum _ _ _ _ e1) rfl rfl (Nat.le_of_ble_eq_true rfl) (by decide) (by decide) ?_
    refine q_istore_n (L' := [some (.ref l0), some (.int l1), some (.int u13), some (.int u17), none]) C dX12_clause_85 (by decide) rfl rfl ?_
    refine q_goto (tgt := 134) C dX12_clause_86 (by decide) ?_
    exact q_msk [true, true, true, true, false] (jW_X12_clause_134 C l0 l1 u13 u17 M18 h)
noncomputable def F_X12_clause (l0 : Nat) (M : q_Mem) : Option (Unit × q_Mem) := (q_ob M l0 12 ((F_X12_look l0 M).bind (fun x => match x with | (u1, M2) => ((F_X12_isAmong 30 u1 M2).bind (fun x => match x with | (u3, M4) => (if u3 = 0 then (q_ob M4 l0 12 ((F_X12_fails l0 M4).bind (fun x => match x with | (u5, M6) => some ((), M6)))) else (q_gI M4 l0 12 10 (fun v7 => (q_pI M4 l0 12 10 (v7 + (1 : Int32)) (fun M8 => (q_ob M8 l0 12 ((F_X12_takes l0 (58 : Int32) M8).bind (fun x => match x with | (u9, M10) => (if u9 = 0 then some ((), M10) else (q_ob M10 l0 12 ((F_X12_look l0 M10).bind (fun x => match x with | (u11, M12) => (if u11 = (33 : Int32) then J_X12_clause_64 l0 u1 M12 else (if u11 = (40 : Int32) then J_X12_clause_64 l0 u1 M12 else (q_ob M12 l0 12 ((R_X12_atom 60 1 l0 M12).bind (fun x => match x with | (u24, M25) => (q_gI M25 l0 12 11 (fun v26 => (if v26 = (-1 : Int32) then (q_ob M25 l0 12 ((F_X12_look l0 M25).bind (fun x => match x with | (u27, M28) => ((F_X12_isSign u27 M28).bind (fun u29 => (if u29 = 0 then J_X12_clause_134 l0 u1 (1 : Int32) u24 M28 else (q_ob M28 l0 12 ((R_X12_condition 60 0 l0 (1 : Int32) u24 M28).bind (fun x => match x with | (u30, M31) => (q_ob M31 l0 12 ((F_X12_takes l0 (63 : Int32) M31).bind (fun x => match x with | (u32, M33) => (if u32 = 0 then some ((), M33) else (q_ob M33 l0 12 ((R_X12_atom 60 1 l0 M33).bind (fun x => match x with | (u34, M35) => J_X12_clause_134 l0 u1 u30 u34 M35)))))))))))))))) else J_X12_clause_134 l0 u1 (1 : Int32) u24 M25)))))))))))))))))))))))))
set_option maxRecDepth 100000 in
set_option maxHeartbeats 4000000 in
theorem c_X12_clause (l : Launch) (G : q_G) (l0 : Nat) (M : q_Mem) {r : Unit} {M' : q_Mem} (h : F_X12_clause l0 M = some (r, M')) : q_Met l G yX12_clause cX12_clause 5 (Option.none : Option Jvm.ClassFile.FieldType) 129 0 0 [.ref l0] M none M' := by
  unfold F_X12_clause at h
  refine q_enter [some (.ref l0), none, none, none, none] (by decide) (Nat.le_of_ble_eq_true rfl) rfl (fun K C => ?_)
  refine q_aload_n C dX12_clause_0 rfl ?_
  obtain ⟨hk, h⟩ := q_obE h
  obtain ⟨⟨u1, M2⟩, e1, h⟩ := q_bind h
  refine x_callV0 C dX12_clause_1 lkM_X12_134 mV_X12_look ⟨_, rfl, rfl⟩ hk (c_X12_look _ _ _ _ e1) rfl rfl (Nat.le_of_ble_eq_true rfl) (by decide) (by decide) ?_
  refine q_istore_n (L' := [some (.ref l0), some (.int u1), none, none, none]) C dX12_clause_4 (by decide) rfl rfl ?_
  refine q_ldcS (i := 13) C dX12_clause_5 rfl ?_
  refine q_iload_n C dX12_clause_7 rfl ?_
  obtain ⟨⟨u3, M4⟩, e1, h⟩ := q_bind h
  refine x_callS0 C dX12_clause_8 lkM_X12_150 mS_X12_isAmong (c_X12_isAmong _ _ _ _ _ e1) rfl rfl (Nat.le_of_ble_eq_true rfl) (by decide) (by decide) ?_
  refine q_if_ne (tgt := 20) C dX12_clause_11 (by decide) h (fun _ h => ?_) (fun _ h => ?_)
  · refine q_aload_n C dX12_clause_14 rfl ?_
    obtain ⟨hk, h⟩ := q_obE h
    obtain ⟨⟨u5, M6⟩, e1, h⟩ := q_bind h
    refine x_callV0 C dX12_clause_15 lkM_X12_130 mV_X12_fails ⟨_, rfl, rfl⟩ hk (c_X12_fails _ _ _ _ e1) rfl rfl (Nat.le_of_ble_eq_true rfl) (by decide) (by decide) ?_
    refine q_pop C dX12_clause_18 rfl ?_
    exact q_vret C dX12_clause_19 rfl (by decide) (by decide) (Option.some.inj h)
  · refine q_aload_n C dX12_clause_20 rfl ?_
    refine q_dup C dX12_clause_21 rfl ?_
    refine x_getI (ci := 12) (j := 10) C dX12_clause_22 lkF_X12_115 rfl h (fun v7 h => ?_)
    refine x_iconst (v := (1 : Int32)) C dX12_clause_25 (by decide) ?_
    refine q_iadd C dX12_clause_26 ?_
    refine x_putI (ci := 12) (j := 10) C dX12_clause_27 lkF_X12_115 (fun r hr => by cases hr; rfl) rfl h (fun M8 h => ?_)
    refine q_aload_n C dX12_clause_30 rfl ?_
    refine x_bipush (v := (58 : Int32)) C dX12_clause_31 (by decide) ?_
    obtain ⟨hk, h⟩ := q_obE h
    obtain ⟨⟨u9, M10⟩, e1, h⟩ := q_bind h
    refine x_callV0 C dX12_clause_33 lkM_X12_160 mV_X12_takes ⟨_, rfl, rfl⟩ hk (c_X12_takes _ _ _ _ _ e1) rfl rfl (Nat.le_of_ble_eq_true rfl) (by decide) (by decide) ?_
    refine q_if_ne (tgt := 40) C dX12_clause_36 (by decide) h (fun _ h => ?_) (fun _ h => ?_)
    · exact q_vret C dX12_clause_39 rfl (by decide) (by decide) (Option.some.inj h)
    · refine x_iconst (v := (1 : Int32)) C dX12_clause_40 (by decide) ?_
      refine q_istore_n (L' := [some (.ref l0), some (.int u1), some (.int (1 : Int32)), none, none]) C dX12_clause_41 (by decide) rfl rfl ?_
      refine x_iconst (v := (0 : Int32)) C dX12_clause_42 (by decide) ?_
      refine q_istore_n (L' := [some (.ref l0), some (.int u1), some (.int (1 : Int32)), some (.int (0 : Int32)), none]) C dX12_clause_43 (by decide) rfl rfl ?_
      refine q_aload_n C dX12_clause_44 rfl ?_
      obtain ⟨hk, h⟩ := q_obE h
      obtain ⟨⟨u11, M12⟩, e1, h⟩ := q_bind h
      refine x_callV0 C dX12_clause_45 lkM_X12_134 mV_X12_look ⟨_, rfl, rfl⟩ hk (c_X12_look _ _ _ _ e1) rfl rfl (Nat.le_of_ble_eq_true rfl) (by decide) (by decide) ?_
      refine q_istore (L' := [some (.ref l0), some (.int u1), some (.int (1 : Int32)), some (.int (0 : Int32)), some (.int u11)]) C dX12_clause_48 (by decide) rfl rfl ?_
      refine q_iload C dX12_clause_50 rfl ?_
      refine x_bipush (v := (33 : Int32)) C dX12_clause_52 (by decide) ?_
      refine q_icmp_eq (tgt := 64) C dX12_clause_54 (by decide) h (fun _ h => ?_) (fun _ h => ?_)
      · exact q_msk [true, true, false, false, false] (jW_X12_clause_64 C l0 u1 M12 h)
      · refine q_iload C dX12_clause_57 rfl ?_
        refine x_bipush (v := (40 : Int32)) C dX12_clause_59 (by decide) ?_
        refine q_icmp_ne (tgt := 89) C dX12_clause_61 (by decide) h (fun _ h => ?_) (fun _ h => ?_)
        · exact q_msk [true, true, false, false, false] (jW_X12_clause_64 C l0 u1 M12 h)
        · refine q_aload_n C dX12_clause_89 rfl ?_
          obtain ⟨hk, h⟩ := q_obE h
          obtain ⟨⟨u24, M25⟩, e1, h⟩ := q_bind h
          refine x_callV0 C dX12_clause_90 lkM_X12_157 mV_X12_sum ⟨_, rfl, rfl⟩ hk (c_X12_sum _ _ _ _ e1) rfl rfl (Nat.le_of_ble_eq_true rfl) (by decide) (by decide) ?_
          refine q_istore_n (L' := [some (.ref l0), some (.int u1), some (.int (1 : Int32)), some (.int u24), some (.int u11)]) C dX12_clause_93 (by decide) rfl rfl ?_
          refine q_aload_n C dX12_clause_94 rfl ?_
          refine x_getI (ci := 12) (j := 11) C dX12_clause_95 lkF_X12_124 rfl h (fun v26 h => ?_)
          refine x_iconst (v := (-1 : Int32)) C dX12_clause_98 (by decide) ?_
          refine q_icmp_ne (tgt := 134) C dX12_clause_99 (by decide) h (fun _ h => ?_) (fun _ h => ?_)
          · refine q_aload_n C dX12_clause_102 rfl ?_
            obtain ⟨hk, h⟩ := q_obE h
            obtain ⟨⟨u27, M28⟩, e1, h⟩ := q_bind h
            refine x_callV0 C dX12_clause_103 lkM_X12_134 mV_X12_look ⟨_, rfl, rfl⟩ hk (c_X12_look _ _ _ _ e1) rfl rfl (Nat.le_of_ble_eq_true rfl) (by decide) (by decide) ?_
            obtain ⟨u29, e1, h⟩ := q_bind h
            refine x_callS0 C dX12_clause_106 lkM_X12_177 mS_X12_isSign (c_X12_isSign _ _ _ _ e1) rfl rfl (Nat.le_of_ble_eq_true rfl) (by decide) (by decide) ?_
            refine q_if_eq (tgt := 134) C dX12_clause_109 (by decide) h (fun _ h => ?_) (fun _ h => ?_)
            · exact q_msk [true, true, true, true, false] (jW_X12_clause_134 C l0 u1 (1 : Int32) u24 M28 h)
            · refine q_aload_n C dX12_clause_112 rfl ?_
              refine x_iconst (v := (1 : Int32)) C dX12_clause_113 (by decide) ?_
              refine q_iload_n C dX12_clause_114 rfl ?_
              obtain ⟨hk, h⟩ := q_obE h
              obtain ⟨⟨u30, M31⟩, e1, h⟩ := q_bind h
              refine x_callV0 C dX12_clause_115 lkM_X12_183 mV_X12_condition ⟨_, rfl, rfl⟩ hk (c_X12_condition _ _ _ _ _ _ e1) rfl rfl (Nat.le_of_ble_eq_true rfl) (by decide) (by decide) ?_
              refine q_istore_n (L' := [some (.ref l0), some (.int u1), some (.int u30), some (.int u24), some (.int u11)]) C dX12_clause_118 (by decide) rfl rfl ?_
              refine q_aload_n C dX12_clause_119 rfl ?_
              refine x_bipush (v := (63 : Int32)) C dX12_clause_120 (by decide) ?_
              obtain ⟨hk, h⟩ := q_obE h
              obtain ⟨⟨u32, M33⟩, e1, h⟩ := q_bind h
              refine x_callV0 C dX12_clause_122 lkM_X12_160 mV_X12_takes ⟨_, rfl, rfl⟩ hk (c_X12_takes _ _ _ _ _ e1) rfl rfl (Nat.le_of_ble_eq_true rfl) (by decide) (by decide) ?_
              refine q_if_ne (tgt := 129) C dX12_clause_125 (by decide) h (fun _ h => ?_) (fun _ h => ?_)
              · exact q_vret C dX12_clause_128 rfl (by decide) (by decide) (Option.some.inj h)
              · refine q_aload_n C dX12_clause_129 rfl ?_
                obtain ⟨hk, h⟩ := q_obE h
                obtain ⟨⟨u34, M35⟩, e1, h⟩ := q_bind h
                refine x_callV0 C dX12_clause_130 lkM_X12_157 mV_X12_sum ⟨_, rfl, rfl⟩ hk (c_X12_sum _ _ _ _ e1) rfl rfl (Nat.le_of_ble_eq_true rfl) (by decide) (by decide) ?_
                refine q_istore_n (L' := [some (.ref l0), some (.int u1), some (.int u30), some (.int u34), some (.int u11)]) C dX12_clause_133 (by decide) rfl rfl ?_
                exact q_msk [true, true, true, true, false] (jW_X12_clause_134 C l0 u1 u30 u34 M35 h)
          · exact q_msk [true, true, true, true, false] (jW_X12_clause_134 C l0 u1 (1 : Int32) u24 M25 h)
noncomputable def B_X12_goThrough_32 (l0 : Nat) (M : q_Mem) : Option ((q_Mem) ⊕ (q_Mem)) := (q_gI M l0 12 11 (fun v9 => (if v9 = (-1 : Int32) then (q_ob M l0 12 ((F_X12_look l0 M).bind (fun x => match x with | (u10, M11) => (if u10 = (59 : Int32) then (q_gI M11 l0 12 10 (fun v12 => (q_pI M11 l0 12 10 (v12 + (1 : Int32)) (fun M13 => (q_ob M13 l0 12 ((F_X12_clause l0 M13).bind (fun x => match x with | (_, M15) => some (.inl M15)))))))) else some (.inr M11))))) else some (.inr M))))
set_option maxRecDepth 100000 in
set_option maxHeartbeats 4000000 in
theorem bW_X12_goThrough_32 {K : q_K} {Q : State → Prop} (C : q_C K yX12_goThrough cX12_goThrough 4 (Option.none : Option Jvm.ClassFile.FieldType) 130 0 0) (l0 : Nat) (M : q_Mem) {stp : (q_Mem) ⊕ (q_Mem)} (h : B_X12_goThrough_32 l0 M = some stp) (kC : ∀ (M : q_Mem), stp = .inl M → q_W K 4 Q 0 0 M 32 [some (.ref l0), none, none, none] []) (kE0 : ∀ (M : q_Mem), stp = .inr M → q_W K 4 Q 0 0 M 66 [some (.ref l0), none, none, none] []) : q_W K 4 Q 0 0 M 32 [some (.ref l0), none, none, none] [] := by
  unfold B_X12_goThrough_32 at h
  refine q_aload_n C dX12_goThrough_32 rfl ?_
  refine x_getI (ci := 12) (j := 11) C dX12_goThrough_33 lkF_X12_124 rfl h (fun v9 h => ?_)
  refine x_iconst (v := (-1 : Int32)) C dX12_goThrough_36 (by decide) ?_
  refine q_icmp_ne (tgt := 66) C dX12_goThrough_37 (by decide) h (fun _ h => ?_) (fun _ h => ?_)
  · refine q_aload_n C dX12_goThrough_40 rfl ?_
    obtain ⟨hk, h⟩ := q_obE h
    obtain ⟨⟨u10, M11⟩, e1, h⟩ := q_bind h
    refine x_callV0 C dX12_goThrough_41 lkM_X12_134 mV_X12_look ⟨_, rfl, rfl⟩ hk (c_X12_look _ _ _ _ e1) rfl rfl (Nat.le_of_ble_eq_true rfl) (by decide) (by decide) ?_
    refine x_bipush (v := (59 : Int32)) C dX12_goThrough_44 (by decide) ?_
    refine q_icmp_ne (tgt := 66) C dX12_goThrough_46 (by decide) h (fun _ h => ?_) (fun _ h => ?_)
    · refine q_aload_n C dX12_goThrough_49 rfl ?_
      refine q_dup C dX12_goThrough_50 rfl ?_
      refine x_getI (ci := 12) (j := 10) C dX12_goThrough_51 lkF_X12_115 rfl h (fun v12 h => ?_)
      refine x_iconst (v := (1 : Int32)) C dX12_goThrough_54 (by decide) ?_
      refine q_iadd C dX12_goThrough_55 ?_
      refine x_putI (ci := 12) (j := 10) C dX12_goThrough_56 lkF_X12_115 (fun r hr => by cases hr; rfl) rfl h (fun M13 h => ?_)
      refine q_aload_n C dX12_goThrough_59 rfl ?_
      obtain ⟨hk, h⟩ := q_obE h
      obtain ⟨⟨_, M15⟩, e1, h⟩ := q_bind h
      refine x_callVv0 C dX12_goThrough_60 lkM_X12_207 mV_X12_clause ⟨_, rfl, rfl⟩ hk (c_X12_clause _ _ _ _ e1) rfl rfl (Nat.le_of_ble_eq_true rfl) (by decide) (by decide) ?_
      refine q_goto (tgt := 32) C dX12_goThrough_63 (by decide) ?_
      exact q_msk [true, false, false, false] (kC _ (Option.some.inj h).symm)
    · exact q_msk [true, false, false, false] (kE0 _ (Option.some.inj h).symm)
  · exact q_msk [true, false, false, false] (kE0 _ (Option.some.inj h).symm)
set_option maxRecDepth 100000 in
set_option maxHeartbeats 4000000 in
theorem lW_X12_goThrough_32 {K : q_K} {Q : State → Prop} (C : q_C K yX12_goThrough cX12_goThrough 4 (Option.none : Option Jvm.ClassFile.FieldType) 130 0 0) (l0 : Nat) (n : Nat) : ∀ (M : q_Mem) (e : (q_Mem)), q_lp (fun s => B_X12_goThrough_32 l0 s) n M = some e → (∀ (M : q_Mem), e = M → q_W K 4 Q 0 0 M 66 [some (.ref l0), none, none, none] []) → q_W K 4 Q 0 0 M 32 [some (.ref l0), none, none, none] [] := by
  induction n with
  | zero => intro M e h; cases h
  | succ n ih =>
    intro M e h kE0
    obtain ⟨stp, e1, e2⟩ := q_bind h
    refine bW_X12_goThrough_32 C l0 M e1 (fun a0 hs => ?_) (fun b0 hs => ?_)
    · subst hs; exact ih _ _ e2 kE0
    · subst hs; exact kE0 _ (Option.some.inj e2).symm
noncomputable def F_X12_goThrough (l0 : Nat) (l1 : Nat) (l2 : Int32) (l3 : Int32) (M : q_Mem) : Option (Unit × q_Mem) := (q_ob M l0 12 ((F_X12_starts l0 l1 l2 l3 M).bind (fun x => match x with | (_, M2) => (q_pI M2 l0 12 13 (121 : Int32) (fun M3 => (q_pI M3 l0 12 12 (0 : Int32) (fun M4 => (q_pZ M4 l0 12 17 (0 : Int32) (fun M5 => (q_pI M5 l0 12 14 (0 : Int32) (fun M6 => (q_ob M6 l0 12 ((F_X12_clause l0 M6).bind (fun x => match x with | (_, M8) => (q_lp (fun s => B_X12_goThrough_32 l0 s) q_fu M8).bind (fun e16 => match e16 with | M17 => (q_gI M17 l0 12 11 (fun v18 => (if v18 = (-1 : Int32) then (q_ob M17 l0 12 ((F_X12_look l0 M17).bind (fun x => match x with | (u19, M20) => (if u19 = (-1 : Int32) then some ((), M20) else (q_ob M20 l0 12 ((F_X12_fails l0 M20).bind (fun x => match x with | (u21, M22) => some ((), M22)))))))) else some ((), M17)))))))))))))))))))
set_option maxRecDepth 100000 in
set_option maxHeartbeats 4000000 in
theorem c_X12_goThrough (l : Launch) (G : q_G) (l0 : Nat) (l1 : Nat) (l2 : Int32) (l3 : Int32) (M : q_Mem) {r : Unit} {M' : q_Mem} (h : F_X12_goThrough l0 l1 l2 l3 M = some (r, M')) : q_Met l G yX12_goThrough cX12_goThrough 4 (Option.none : Option Jvm.ClassFile.FieldType) 130 0 0 [.ref l0, .ref l1, .int l2, .int l3] M none M' := by
  unfold F_X12_goThrough at h
  refine q_enter [some (.ref l0), some (.ref l1), some (.int l2), some (.int l3)] (by decide) (Nat.le_of_ble_eq_true rfl) rfl (fun K C => ?_)
  refine q_aload_n C dX12_goThrough_0 rfl ?_
  refine q_aload_n C dX12_goThrough_1 rfl ?_
  refine q_iload_n C dX12_goThrough_2 rfl ?_
  refine q_iload_n C dX12_goThrough_3 rfl ?_
  obtain ⟨hk, h⟩ := q_obE h
  obtain ⟨⟨_, M2⟩, e1, h⟩ := q_bind h
  refine x_callVv0 C dX12_goThrough_4 lkM_X12_203 mV_X12_starts ⟨_, rfl, rfl⟩ hk (c_X12_starts _ _ _ _ _ _ _ e1) rfl rfl (Nat.le_of_ble_eq_true rfl) (by decide) (by decide) ?_
  refine q_aload_n C dX12_goThrough_7 rfl ?_
  refine x_bipush (v := (121 : Int32)) C dX12_goThrough_8 (by decide) ?_
  refine x_putI (ci := 12) (j := 13) C dX12_goThrough_10 lkF_X12_197 (fun r hr => by cases hr; rfl) rfl h (fun M3 h => ?_)
  refine q_aload_n C dX12_goThrough_13 rfl ?_
  refine x_iconst (v := (0 : Int32)) C dX12_goThrough_14 (by decide) ?_
  refine x_putI (ci := 12) (j := 12) C dX12_goThrough_15 lkF_X12_127 (fun r hr => by cases hr; rfl) rfl h (fun M4 h => ?_)
  refine q_aload_n C dX12_goThrough_18 rfl ?_
  refine x_iconst (v := (0 : Int32)) C dX12_goThrough_19 (by decide) ?_
  refine x_putZ (ci := 12) (j := 17) C dX12_goThrough_20 lkF_X12_193 (fun r hr => by cases hr; rfl) rfl h (fun M5 h => ?_)
  refine q_aload_n C dX12_goThrough_23 rfl ?_
  refine x_iconst (v := (0 : Int32)) C dX12_goThrough_24 (by decide) ?_
  refine x_putI (ci := 12) (j := 14) C dX12_goThrough_25 lkF_X12_200 (fun r hr => by cases hr; rfl) rfl h (fun M6 h => ?_)
  refine q_aload_n C dX12_goThrough_28 rfl ?_
  obtain ⟨hk, h⟩ := q_obE h
  obtain ⟨⟨_, M8⟩, e1, h⟩ := q_bind h
  refine x_callVv0 C dX12_goThrough_29 lkM_X12_207 mV_X12_clause ⟨_, rfl, rfl⟩ hk (c_X12_clause _ _ _ _ e1) rfl rfl (Nat.le_of_ble_eq_true rfl) (by decide) (by decide) ?_
  obtain ⟨e16, he, h⟩ := q_bind h
  refine q_msk [true, false, false, false] (lW_X12_goThrough_32 C l0 q_fu _ _ he (fun M17 hs => ?_))
  · have hs := hs.symm
    subst hs
    refine q_aload_n C dX12_goThrough_66 rfl ?_
    refine x_getI (ci := 12) (j := 11) C dX12_goThrough_67 lkF_X12_124 rfl h (fun v18 h => ?_)
    refine x_iconst (v := (-1 : Int32)) C dX12_goThrough_70 (by decide) ?_
    refine q_icmp_ne (tgt := 87) C dX12_goThrough_71 (by decide) h (fun _ h => ?_) (fun _ h => ?_)
    · refine q_aload_n C dX12_goThrough_74 rfl ?_
      obtain ⟨hk, h⟩ := q_obE h
      obtain ⟨⟨u19, M20⟩, e1, h⟩ := q_bind h
      refine x_callV0 C dX12_goThrough_75 lkM_X12_134 mV_X12_look ⟨_, rfl, rfl⟩ hk (c_X12_look _ _ _ _ e1) rfl rfl (Nat.le_of_ble_eq_true rfl) (by decide) (by decide) ?_
      refine x_iconst (v := (-1 : Int32)) C dX12_goThrough_78 (by decide) ?_
      refine q_icmp_eq (tgt := 87) C dX12_goThrough_79 (by decide) h (fun _ h => ?_) (fun _ h => ?_)
      · exact q_vret C dX12_goThrough_87 rfl (by decide) (by decide) (Option.some.inj h)
      · refine q_aload_n C dX12_goThrough_82 rfl ?_
        obtain ⟨hk, h⟩ := q_obE h
        obtain ⟨⟨u21, M22⟩, e1, h⟩ := q_bind h
        refine x_callV0 C dX12_goThrough_83 lkM_X12_130 mV_X12_fails ⟨_, rfl, rfl⟩ hk (c_X12_fails _ _ _ _ e1) rfl rfl (Nat.le_of_ble_eq_true rfl) (by decide) (by decide) ?_
        refine q_pop C dX12_goThrough_86 rfl ?_
        exact q_vret C dX12_goThrough_87 rfl (by decide) (by decide) (Option.some.inj h)
    · exact q_vret C dX12_goThrough_87 rfl (by decide) (by decide) (Option.some.inj h)
noncomputable def F_X12_digit (l0 : Nat) (M : q_Mem) : Option (Int32 × q_Mem) := (q_ob M l0 12 ((F_X12_look l0 M).bind (fun x => match x with | (u1, M2) => (q_ob M2 l0 12 ((F_X12_isDigit l0 M2).bind (fun u3 => (if u3 = 0 then (q_ob M2 l0 12 ((F_X12_fails l0 M2).bind (fun x => match x with | (u4, M5) => some ((0 : Int32), M5)))) else (q_gI M2 l0 12 10 (fun v6 => (q_pI M2 l0 12 10 (v6 + (1 : Int32)) (fun M7 => some ((u1 - (48 : Int32)), M7))))))))))))
set_option maxRecDepth 100000 in
set_option maxHeartbeats 4000000 in
theorem c_X12_digit (l : Launch) (G : q_G) (l0 : Nat) (M : q_Mem) {r : Int32} {M' : q_Mem} (h : F_X12_digit l0 M = some (r, M')) : q_Met l G yX12_digit cX12_digit 2 (Option.some Jvm.ClassFile.FieldType.int) 2 0 0 [.ref l0] M (some (.int r)) M' := by
  unfold F_X12_digit at h
  refine q_enter [some (.ref l0), none] (by decide) (Nat.le_of_ble_eq_true rfl) rfl (fun K C => ?_)
  refine q_aload_n C dX12_digit_0 rfl ?_
  obtain ⟨hk, h⟩ := q_obE h
  obtain ⟨⟨u1, M2⟩, e1, h⟩ := q_bind h
  refine x_callV0 C dX12_digit_1 lkM_X12_134 mV_X12_look ⟨_, rfl, rfl⟩ hk (c_X12_look _ _ _ _ e1) rfl rfl (Nat.le_of_ble_eq_true rfl) (by decide) (by decide) ?_
  refine q_istore_n (L' := [some (.ref l0), some (.int u1)]) C dX12_digit_4 (by decide) rfl rfl ?_
  refine q_aload_n C dX12_digit_5 rfl ?_
  obtain ⟨hk, h⟩ := q_obE h
  obtain ⟨u3, e1, h⟩ := q_bind h
  refine x_callV0 C dX12_digit_6 lkM_X12_164 mV_X12_isDigit ⟨_, rfl, rfl⟩ hk (c_X12_isDigit _ _ _ _ e1) rfl rfl (Nat.le_of_ble_eq_true rfl) (by decide) (by decide) ?_
  refine q_if_ne (tgt := 19) C dX12_digit_9 (by decide) h (fun _ h => ?_) (fun _ h => ?_)
  · refine q_aload_n C dX12_digit_12 rfl ?_
    obtain ⟨hk, h⟩ := q_obE h
    obtain ⟨⟨u4, M5⟩, e1, h⟩ := q_bind h
    refine x_callV0 C dX12_digit_13 lkM_X12_130 mV_X12_fails ⟨_, rfl, rfl⟩ hk (c_X12_fails _ _ _ _ e1) rfl rfl (Nat.le_of_ble_eq_true rfl) (by decide) (by decide) ?_
    refine q_pop C dX12_digit_16 rfl ?_
    refine x_iconst (v := (0 : Int32)) C dX12_digit_17 (by decide) ?_
    exact q_iret C dX12_digit_18 rfl (by decide) (by decide) (Option.some.inj h)
  · refine q_aload_n C dX12_digit_19 rfl ?_
    refine q_dup C dX12_digit_20 rfl ?_
    refine x_getI (ci := 12) (j := 10) C dX12_digit_21 lkF_X12_115 rfl h (fun v6 h => ?_)
    refine x_iconst (v := (1 : Int32)) C dX12_digit_24 (by decide) ?_
    refine q_iadd C dX12_digit_25 ?_
    refine x_putI (ci := 12) (j := 10) C dX12_digit_26 lkF_X12_115 (fun r hr => by cases hr; rfl) rfl h (fun M7 h => ?_)
    refine q_iload_n C dX12_digit_29 rfl ?_
    refine x_bipush (v := (48 : Int32)) C dX12_digit_30 (by decide) ?_
    refine q_isub C dX12_digit_32 ?_
    exact q_iret C dX12_digit_33 rfl (by decide) (by decide) (Option.some.inj h)
noncomputable def J_X12_readStep_68 (l0 : Nat) (l1 : Int32) (l2 : Int32) (M : q_Mem) : Option (Unit × q_Mem) := (q_gR M l0 12 24 (fun c18 => q_nn c18 (fun r19 => (q_ob M l0 12 ((F_X12_digit l0 M).bind (fun x => match x with | (u20, M21) => (q_tI M21 r19 (l1 + (1 : Int32)) u20 (fun M22 => (q_gI M22 l0 12 11 (fun v23 => (if v23 = (-1 : Int32) then (if l2 = (4 : Int32) then (q_gR M22 l0 12 24 (fun c24 => q_nn c24 (fun r25 => (q_ob M22 l0 12 ((F_X12_digit l0 M22).bind (fun x => match x with | (u26, M27) => (q_tI M27 r25 (l1 + (2 : Int32)) u26 (fun M28 => some ((), M28))))))))) else some ((), M22)) else some ((), M22))))))))))))
set_option maxRecDepth 100000 in
set_option maxHeartbeats 4000000 in
theorem jW_X12_readStep_68 {K : q_K} (C : q_C K yX12_readStep cX12_readStep 3 (Option.none : Option Jvm.ClassFile.FieldType) 6 0 0) (l0 : Nat) (l1 : Int32) (l2 : Int32) (M : q_Mem) {r : Unit} {M' : q_Mem} (h : J_X12_readStep_68 l0 l1 l2 M = some (r, M')) : q_W K 3 (q_Q K none M' 0 0) 0 0 M 68 [some (.ref l0), some (.int l1), some (.int l2)] [] := by
  unfold J_X12_readStep_68 at h
  refine q_aload_n C dX12_readStep_68 rfl ?_
  refine x_getR (ci := 12) (j := 24) C dX12_readStep_69 lkF_X12_55 rfl h (fun c18 h => ?_)
  refine x_nn h (fun r19 h => ?_)
  refine q_iload_n C dX12_readStep_72 rfl ?_
  refine x_iconst (v := (1 : Int32)) C dX12_readStep_73 (by decide) ?_
  refine q_iadd C dX12_readStep_74 ?_
  refine q_aload_n C dX12_readStep_75 rfl ?_
  obtain ⟨hk, h⟩ := q_obE h
  obtain ⟨⟨u20, M21⟩, e1, h⟩ := q_bind h
  refine x_callV0 C dX12_readStep_76 lkM_X12_259 mV_X12_digit ⟨_, rfl, rfl⟩ hk (c_X12_digit _ _ _ _ e1) rfl rfl (Nat.le_of_ble_eq_true rfl) (by decide) (by decide) ?_
  refine x_iast C dX12_readStep_79 h (fun M22 h => ?_)
  refine q_aload_n C dX12_readStep_80 rfl ?_
  refine x_getI (ci := 12) (j := 11) C dX12_readStep_81 lkF_X12_124 rfl h (fun v23 h => ?_)
  refine x_iconst (v := (-1 : Int32)) C dX12_readStep_84 (by decide) ?_
  refine q_icmp_ne (tgt := 105) C dX12_readStep_85 (by decide) h (fun _ h => ?_) (fun _ h => ?_)
  · refine q_iload_n C dX12_readStep_88 rfl ?_
    refine x_iconst (v := (4 : Int32)) C dX12_readStep_89 (by decide) ?_
    refine q_icmp_ne (tgt := 105) C dX12_readStep_90 (by decide) h (fun _ h => ?_) (fun _ h => ?_)
    · refine q_aload_n C dX12_readStep_93 rfl ?_
      refine x_getR (ci := 12) (j := 24) C dX12_readStep_94 lkF_X12_55 rfl h (fun c24 h => ?_)
      refine x_nn h (fun r25 h => ?_)
      refine q_iload_n C dX12_readStep_97 rfl ?_
      refine x_iconst (v := (2 : Int32)) C dX12_readStep_98 (by decide) ?_
      refine q_iadd C dX12_readStep_99 ?_
      refine q_aload_n C dX12_readStep_100 rfl ?_
      obtain ⟨hk, h⟩ := q_obE h
      obtain ⟨⟨u26, M27⟩, e1, h⟩ := q_bind h
      refine x_callV0 C dX12_readStep_101 lkM_X12_259 mV_X12_digit ⟨_, rfl, rfl⟩ hk (c_X12_digit _ _ _ _ e1) rfl rfl (Nat.le_of_ble_eq_true rfl) (by decide) (by decide) ?_
      refine x_iast C dX12_readStep_104 h (fun M28 h => ?_)
      exact q_vret C dX12_readStep_105 rfl (by decide) (by decide) (Option.some.inj h)
    · exact q_vret C dX12_readStep_105 rfl (by decide) (by decide) (Option.some.inj h)
  · exact q_vret C dX12_readStep_105 rfl (by decide) (by decide) (Option.some.inj h)
noncomputable def F_X12_readStep (l0 : Nat) (l1 : Int32) (M : q_Mem) : Option (Unit × q_Mem) := (q_ob M l0 12 ((F_X12_look l0 M).bind (fun x => match x with | (u1, M2) => ((F_X12_spotOf 28 u1 M2).bind (fun x => match x with | (u3, M4) => (if u3 = (-1 : Int32) then (q_ob M4 l0 12 ((F_X12_fails l0 M4).bind (fun x => match x with | (u5, M6) => some ((), M6)))) else (q_gI M4 l0 12 10 (fun v7 => (q_pI M4 l0 12 10 (v7 + (1 : Int32)) (fun M8 => (q_gR M8 l0 12 24 (fun c9 => q_nn c9 (fun r10 => (q_tI M8 r10 l1 u3 (fun M11 => (q_gR M11 l0 12 24 (fun c12 => q_nn c12 (fun r13 => (q_tI M11 r13 (l1 + (1 : Int32)) (-1 : Int32) (fun M14 => (q_gR M14 l0 12 24 (fun c15 => q_nn c15 (fun r16 => (q_tI M14 r16 (l1 + (2 : Int32)) (-1 : Int32) (fun M17 => (if u3 = (1 : Int32) then J_X12_readStep_68 l0 l1 u3 M17 else (if u3 = (4 : Int32) then J_X12_readStep_68 l0 l1 u3 M17 else some ((), M17))))))))))))))))))))))))))))
set_option maxRecDepth 100000 in
set_option maxHeartbeats 4000000 in
theorem c_X12_readStep (l : Launch) (G : q_G) (l0 : Nat) (l1 : Int32) (M : q_Mem) {r : Unit} {M' : q_Mem} (h : F_X12_readStep l0 l1 M = some (r, M')) : q_Met l G yX12_readStep cX12_readStep 3 (Option.none : Option Jvm.ClassFile.FieldType) 6 0 0 [.ref l0, .int l1] M none M' := by
  unfold F_X12_readStep at h
  refine q_enter [some (.ref l0), some (.int l1), none] (by decide) (Nat.le_of_ble_eq_true rfl) rfl (fun K C => ?_)
  refine q_ldcSw (i := 12) C dX12_readStep_0 rfl ?_
  refine q_aload_n C dX12_readStep_3 rfl ?_
  obtain ⟨hk, h⟩ := q_obE h
  obtain ⟨⟨u1, M2⟩, e1, h⟩ := q_bind h
  refine x_callV0 C dX12_readStep_4 lkM_X12_134 mV_X12_look ⟨_, rfl, rfl⟩ hk (c_X12_look _ _ _ _ e1) rfl rfl (Nat.le_of_ble_eq_true rfl) (by decide) (by decide) ?_
  obtain ⟨⟨u3, M4⟩, e1, h⟩ := q_bind h
  refine x_callS0 C dX12_readStep_7 lkM_X12_221 mS_X12_spotOf (c_X12_spotOf _ _ _ _ _ e1) rfl rfl (Nat.le_of_ble_eq_true rfl) (by decide) (by decide) ?_
  refine q_istore_n (L' := [some (.ref l0), some (.int l1), some (.int u3)]) C dX12_readStep_10 (by decide) rfl rfl ?_
  refine q_iload_n C dX12_readStep_11 rfl ?_
  refine x_iconst (v := (-1 : Int32)) C dX12_readStep_12 (by decide) ?_
  refine q_icmp_ne (tgt := 22) C dX12_readStep_13 (by decide) h (fun _ h => ?_) (fun _ h => ?_)
  · refine q_aload_n C dX12_readStep_16 rfl ?_
    obtain ⟨hk, h⟩ := q_obE h
    obtain ⟨⟨u5, M6⟩, e1, h⟩ := q_bind h
    refine x_callV0 C dX12_readStep_17 lkM_X12_130 mV_X12_fails ⟨_, rfl, rfl⟩ hk (c_X12_fails _ _ _ _ e1) rfl rfl (Nat.le_of_ble_eq_true rfl) (by decide) (by decide) ?_
    refine q_pop C dX12_readStep_20 rfl ?_
    exact q_vret C dX12_readStep_21 rfl (by decide) (by decide) (Option.some.inj h)
  · refine q_aload_n C dX12_readStep_22 rfl ?_
    refine q_dup C dX12_readStep_23 rfl ?_
    refine x_getI (ci := 12) (j := 10) C dX12_readStep_24 lkF_X12_115 rfl h (fun v7 h => ?_)
    refine x_iconst (v := (1 : Int32)) C dX12_readStep_27 (by decide) ?_
    refine q_iadd C dX12_readStep_28 ?_
    refine x_putI (ci := 12) (j := 10) C dX12_readStep_29 lkF_X12_115 (fun r hr => by cases hr; rfl) rfl h (fun M8 h => ?_)
    refine q_aload_n C dX12_readStep_32 rfl ?_
    refine x_getR (ci := 12) (j := 24) C dX12_readStep_33 lkF_X12_55 rfl h (fun c9 h => ?_)
    refine x_nn h (fun r10 h => ?_)
    refine q_iload_n C dX12_readStep_36 rfl ?_
    refine q_iload_n C dX12_readStep_37 rfl ?_
    refine x_iast C dX12_readStep_38 h (fun M11 h => ?_)
    refine q_aload_n C dX12_readStep_39 rfl ?_
    refine x_getR (ci := 12) (j := 24) C dX12_readStep_40 lkF_X12_55 rfl h (fun c12 h => ?_)
    refine x_nn h (fun r13 h => ?_)
    refine q_iload_n C dX12_readStep_43 rfl ?_
    refine x_iconst (v := (1 : Int32)) C dX12_readStep_44 (by decide) ?_
    refine q_iadd C dX12_readStep_45 ?_
    refine x_iconst (v := (-1 : Int32)) C dX12_readStep_46 (by decide) ?_
    refine x_iast C dX12_readStep_47 h (fun M14 h => ?_)
    refine q_aload_n C dX12_readStep_48 rfl ?_
    refine x_getR (ci := 12) (j := 24) C dX12_readStep_49 lkF_X12_55 rfl h (fun c15 h => ?_)
    refine x_nn h (fun r16 h => ?_)
    refine q_iload_n C dX12_readStep_52 rfl ?_
    refine x_iconst (v := (2 : Int32)) C dX12_readStep_53 (by decide) ?_
    refine q_iadd C dX12_readStep_54 ?_
    refine x_iconst (v := (-1 : Int32)) C dX12_readStep_55 (by decide) ?_
    refine x_iast C dX12_readStep_56 h (fun M17 h => ?_)
    refine q_iload_n C dX12_readStep_57 rfl ?_
    refine x_iconst (v := (1 : Int32)) C dX12_readStep_58 (by decide) ?_
    refine q_icmp_eq (tgt := 68) C dX12_readStep_59 (by decide) h (fun _ h => ?_) (fun _ h => ?_)
    · exact q_msk [true, true, true] (jW_X12_readStep_68 C l0 l1 u3 M17 h)
    · refine q_iload_n C dX12_readStep_62 rfl ?_
      refine x_iconst (v := (4 : Int32)) C dX12_readStep_63 (by decide) ?_
      refine q_icmp_eq (tgt := 68) C dX12_readStep_64 (by decide) h (fun _ h => ?_) (fun _ h => ?_)
      · exact q_msk [true, true, true] (jW_X12_readStep_68 C l0 l1 u3 M17 h)
      · exact q_vret C dX12_readStep_67 rfl (by decide) (by decide) (Option.some.inj h)
noncomputable def J_X12_readWeek_74_17 (l0 : Nat) (l1 : Int32) (l2 : Int32) (M : q_Mem) : Option ((Int32 × Int32 × q_Mem) ⊕ ((q_Mem) ⊕ ((q_Mem) ⊕ (Int32 × q_Mem)))) := (if l2 = 0 then some (.inl (l1, l2, M)) else (q_gI M l0 12 10 (fun v11 => (q_pI M l0 12 10 (v11 + (1 : Int32)) (fun M12 => some (.inl (l1, l2, M12)))))))
set_option maxRecDepth 100000 in
set_option maxHeartbeats 4000000 in
theorem jW_X12_readWeek_74_17 {K : q_K} {Q : State → Prop} (C : q_C K yX12_readWeek cX12_readWeek 3 (Option.none : Option Jvm.ClassFile.FieldType) 7 0 0) (l0 : Nat) (l1 : Int32) (l2 : Int32) (M : q_Mem) {stp : (Int32 × Int32 × q_Mem) ⊕ ((q_Mem) ⊕ ((q_Mem) ⊕ (Int32 × q_Mem)))} (h : J_X12_readWeek_74_17 l0 l1 l2 M = some stp) (kC : ∀ (l1 : Int32) (l2 : Int32) (M : q_Mem), stp = .inl (l1, l2, M) → q_W K 3 Q 0 0 M 17 [some (.ref l0), some (.int l1), some (.int l2)] []) (kE0 : ∀ (M : q_Mem), stp = .inr (.inl M) → q_W K 3 Q 0 0 M 39 [none, none, none] []) (kE1 : ∀ (M : q_Mem), stp = .inr (.inr (.inl M)) → q_W K 3 Q 0 0 M 68 [some (.ref l0), none, none] []) (kE2 : ∀ (l1 : Int32) (M : q_Mem), stp = .inr (.inr (.inr (l1, M))) → q_W K 3 Q 0 0 M 91 [some (.ref l0), some (.int l1), none] []) : q_W K 3 Q 0 0 M 74 [some (.ref l0), some (.int l1), some (.int l2)] [] := by
  unfold J_X12_readWeek_74_17 at h
  refine q_iload_n C dX12_readWeek_74 rfl ?_
  refine q_if_eq (tgt := 17) C dX12_readWeek_75 (by decide) h (fun _ h => ?_) (fun _ h => ?_)
  · exact q_msk [true, true, true] (kC _ _ _ (Option.some.inj h).symm)
  · refine q_aload_n C dX12_readWeek_78 rfl ?_
    refine q_dup C dX12_readWeek_79 rfl ?_
    refine x_getI (ci := 12) (j := 10) C dX12_readWeek_80 lkF_X12_115 rfl h (fun v11 h => ?_)
    refine x_iconst (v := (1 : Int32)) C dX12_readWeek_83 (by decide) ?_
    refine q_iadd C dX12_readWeek_84 ?_
    refine x_putI (ci := 12) (j := 10) C dX12_readWeek_85 lkF_X12_115 (fun r hr => by cases hr; rfl) rfl h (fun M12 h => ?_)
    refine q_goto (tgt := 17) C dX12_readWeek_88 (by decide) ?_
    exact q_msk [true, true, true] (kC _ _ _ (Option.some.inj h).symm)
noncomputable def J_X12_readWeek_57_17 (l0 : Nat) (l1 : Int32) (s0 : Int32) (M : q_Mem) : Option ((Int32 × Int32 × q_Mem) ⊕ ((q_Mem) ⊕ ((q_Mem) ⊕ (Int32 × q_Mem)))) := (if s0 = 0 then J_X12_readWeek_74_17 l0 l1 s0 M else (if l1 = (16 : Int32) then some (.inr (.inr (.inl M))) else J_X12_readWeek_74_17 l0 l1 s0 M))
set_option maxRecDepth 100000 in
set_option maxHeartbeats 4000000 in
theorem jW_X12_readWeek_57_17 {K : q_K} {Q : State → Prop} (C : q_C K yX12_readWeek cX12_readWeek 3 (Option.none : Option Jvm.ClassFile.FieldType) 7 0 0) (l0 : Nat) (l1 : Int32) (s0 : Int32) (M : q_Mem) {stp : (Int32 × Int32 × q_Mem) ⊕ ((q_Mem) ⊕ ((q_Mem) ⊕ (Int32 × q_Mem)))} (h : J_X12_readWeek_57_17 l0 l1 s0 M = some stp) (kC : ∀ (l1 : Int32) (l2 : Int32) (M : q_Mem), stp = .inl (l1, l2, M) → q_W K 3 Q 0 0 M 17 [some (.ref l0), some (.int l1), some (.int l2)] []) (kE0 : ∀ (M : q_Mem), stp = .inr (.inl M) → q_W K 3 Q 0 0 M 39 [none, none, none] []) (kE1 : ∀ (M : q_Mem), stp = .inr (.inr (.inl M)) → q_W K 3 Q 0 0 M 68 [some (.ref l0), none, none] []) (kE2 : ∀ (l1 : Int32) (M : q_Mem), stp = .inr (.inr (.inr (l1, M))) → q_W K 3 Q 0 0 M 91 [some (.ref l0), some (.int l1), none] []) : q_W K 3 Q 0 0 M 57 [some (.ref l0), some (.int l1), none] [.int s0] := by
  unfold J_X12_readWeek_57_17 at h
  refine q_istore_n (L' := [some (.ref l0), some (.int l1), some (.int s0)]) C dX12_readWeek_57 (by decide) rfl rfl ?_
  refine q_iload_n C dX12_readWeek_58 rfl ?_
  refine q_if_eq (tgt := 74) C dX12_readWeek_59 (by decide) h (fun _ h => ?_) (fun _ h => ?_)
  · exact q_msk [true, true, true] (jW_X12_readWeek_74_17 C l0 l1 s0 M h kC kE0 kE1 kE2)
  · refine q_iload_n C dX12_readWeek_62 rfl ?_
    refine x_bipush (v := (16 : Int32)) C dX12_readWeek_63 (by decide) ?_
    refine q_icmp_ne (tgt := 74) C dX12_readWeek_65 (by decide) h (fun _ h => ?_) (fun _ h => ?_)
    · exact q_msk [true, false, false] (kE1 _ (Option.some.inj h).symm)
    · exact q_msk [true, true, true] (jW_X12_readWeek_74_17 C l0 l1 s0 M h kC kE0 kE1 kE2)
noncomputable def B_X12_readWeek_17 (l0 : Nat) (l1 : Int32) (l2 : Int32) (M : q_Mem) : Option ((Int32 × Int32 × q_Mem) ⊕ ((q_Mem) ⊕ ((q_Mem) ⊕ (Int32 × q_Mem)))) := (if l2 = 0 then some (.inr (.inr (.inr (l1, M)))) else (q_ob M l0 12 ((F_X12_readStep l0 ((3 : Int32) * ((64 : Int32) + l1)) M).bind (fun x => match x with | (_, M7) => (q_gI M7 l0 12 11 (fun v8 => (if v8 = (-1 : Int32) then (q_ob M7 l0 12 ((F_X12_look l0 M7).bind (fun x => match x with | (u9, M10) => (if u9 = (59 : Int32) then J_X12_readWeek_57_17 l0 (l1 + (1 : Int32)) (1 : Int32) M10 else J_X12_readWeek_57_17 l0 (l1 + (1 : Int32)) (0 : Int32) M10)))) else some (.inr (.inl M7)))))))))
set_option maxRecDepth 100000 in
set_option maxHeartbeats 4000000 in
theorem bW_X12_readWeek_17 {K : q_K} {Q : State → Prop} (C : q_C K yX12_readWeek cX12_readWeek 3 (Option.none : Option Jvm.ClassFile.FieldType) 7 0 0) (l0 : Nat) (l1 : Int32) (l2 : Int32) (M : q_Mem) {stp : (Int32 × Int32 × q_Mem) ⊕ ((q_Mem) ⊕ ((q_Mem) ⊕ (Int32 × q_Mem)))} (h : B_X12_readWeek_17 l0 l1 l2 M = some stp) (kC : ∀ (l1 : Int32) (l2 : Int32) (M : q_Mem), stp = .inl (l1, l2, M) → q_W K 3 Q 0 0 M 17 [some (.ref l0), some (.int l1), some (.int l2)] []) (kE0 : ∀ (M : q_Mem), stp = .inr (.inl M) → q_W K 3 Q 0 0 M 39 [none, none, none] []) (kE1 : ∀ (M : q_Mem), stp = .inr (.inr (.inl M)) → q_W K 3 Q 0 0 M 68 [some (.ref l0), none, none] []) (kE2 : ∀ (l1 : Int32) (M : q_Mem), stp = .inr (.inr (.inr (l1, M))) → q_W K 3 Q 0 0 M 91 [some (.ref l0), some (.int l1), none] []) : q_W K 3 Q 0 0 M 17 [some (.ref l0), some (.int l1), some (.int l2)] [] := by
  unfold B_X12_readWeek_17 at h
  refine q_iload_n C dX12_readWeek_17 rfl ?_
  refine q_if_eq (tgt := 91) C dX12_readWeek_18 (by decide) h (fun _ h => ?_) (fun _ h => ?_)
  · exact q_msk [true, true, false] (kE2 _ _ (Option.some.inj h).symm)
  · refine q_aload_n C dX12_readWeek_21 rfl ?_
    refine x_iconst (v := (3 : Int32)) C dX12_readWeek_22 (by decide) ?_
    refine x_bipush (v := (64 : Int32)) C dX12_readWeek_23 (by decide) ?_
    refine q_iload_n C dX12_readWeek_25 rfl ?_
    refine q_iadd C dX12_readWeek_26 ?_
    refine q_imul C dX12_readWeek_27 ?_
    obtain ⟨hk, h⟩ := q_obE h
    obtain ⟨⟨_, M7⟩, e1, h⟩ := q_bind h
    refine x_callVv0 C dX12_readWeek_28 lkM_X12_262 mV_X12_readStep ⟨_, rfl, rfl⟩ hk (c_X12_readStep _ _ _ _ _ e1) rfl rfl (Nat.le_of_ble_eq_true rfl) (by decide) (by decide) ?_
    refine q_aload_n C dX12_readWeek_31 rfl ?_
    refine x_getI (ci := 12) (j := 11) C dX12_readWeek_32 lkF_X12_124 rfl h (fun v8 h => ?_)
    refine x_iconst (v := (-1 : Int32)) C dX12_readWeek_35 (by decide) ?_
    refine q_icmp_eq (tgt := 40) C dX12_readWeek_36 (by decide) h (fun _ h => ?_) (fun _ h => ?_)
    · refine x_iinc (w := (1 : Int32)) (L' := [some (.ref l0), some (.int (l1 + (1 : Int32))), some (.int l2)]) C dX12_readWeek_40 rfl (by decide) (by decide) rfl rfl ?_
      refine q_aload_n C dX12_readWeek_43 rfl ?_
      obtain ⟨hk, h⟩ := q_obE h
      obtain ⟨⟨u9, M10⟩, e1, h⟩ := q_bind h
      refine x_callV0 C dX12_readWeek_44 lkM_X12_134 mV_X12_look ⟨_, rfl, rfl⟩ hk (c_X12_look _ _ _ _ e1) rfl rfl (Nat.le_of_ble_eq_true rfl) (by decide) (by decide) ?_
      refine x_bipush (v := (59 : Int32)) C dX12_readWeek_47 (by decide) ?_
      refine q_icmp_ne (tgt := 56) C dX12_readWeek_49 (by decide) h (fun _ h => ?_) (fun _ h => ?_)
      · refine x_iconst (v := (1 : Int32)) C dX12_readWeek_52 (by decide) ?_
        refine q_goto (tgt := 57) C dX12_readWeek_53 (by decide) ?_
        exact q_msk [true, true, false] (jW_X12_readWeek_57_17 C l0 (l1 + (1 : Int32)) (1 : Int32) M10 h kC kE0 kE1 kE2)
      · refine x_iconst (v := (0 : Int32)) C dX12_readWeek_56 (by decide) ?_
        exact q_msk [true, true, false] (jW_X12_readWeek_57_17 C l0 (l1 + (1 : Int32)) (0 : Int32) M10 h kC kE0 kE1 kE2)
    · exact q_msk [false, false, false] (kE0 _ (Option.some.inj h).symm)
set_option maxRecDepth 100000 in
set_option maxHeartbeats 4000000 in
theorem lW_X12_readWeek_17 {K : q_K} {Q : State → Prop} (C : q_C K yX12_readWeek cX12_readWeek 3 (Option.none : Option Jvm.ClassFile.FieldType) 7 0 0) (l0 : Nat) (n : Nat) : ∀ (l1 : Int32) (l2 : Int32) (M : q_Mem) (e : ((q_Mem) ⊕ ((q_Mem) ⊕ (Int32 × q_Mem)))), q_lp (fun s => B_X12_readWeek_17 l0 s.1 s.2.1 s.2.2) n (l1, l2, M) = some e → (∀ (M : q_Mem), e = (.inl M) → q_W K 3 Q 0 0 M 39 [none, none, none] []) → (∀ (M : q_Mem), e = (.inr (.inl M)) → q_W K 3 Q 0 0 M 68 [some (.ref l0), none, none] []) → (∀ (l1 : Int32) (M : q_Mem), e = (.inr (.inr (l1, M))) → q_W K 3 Q 0 0 M 91 [some (.ref l0), some (.int l1), none] []) → q_W K 3 Q 0 0 M 17 [some (.ref l0), some (.int l1), some (.int l2)] [] := by
  induction n with
  | zero => intro l1 l2 M e h; cases h
  | succ n ih =>
    intro l1 l2 M e h kE0 kE1 kE2
    obtain ⟨stp, e1, e2⟩ := q_bind h
    refine bW_X12_readWeek_17 C l0 l1 l2 M e1 (fun a0 a1 a2 hs => ?_) (fun b0 hs => ?_) (fun b0 hs => ?_) (fun b0 b1 hs => ?_)
    · subst hs; exact ih _ _ _ _ e2 kE0 kE1 kE2
    · subst hs; exact kE0 _ (Option.some.inj e2).symm
    · subst hs; exact kE1 _ (Option.some.inj e2).symm
    · subst hs; exact kE2 _ _ (Option.some.inj e2).symm
noncomputable def F_X12_readWeek (l0 : Nat) (M : q_Mem) : Option (Unit × q_Mem) := (q_gR M l0 12 1 (fun c1 => q_nn c1 (fun r2 => (q_gI M l0 12 6 (fun v3 => (q_ob M l0 12 ((F_X12_starts l0 r2 (0 : Int32) v3 M).bind (fun x => match x with | (_, M5) => (q_lp (fun s => B_X12_readWeek_17 l0 s.1 s.2.1 s.2.2) q_fu ((0 : Int32), (1 : Int32), M5)).bind (fun e13 => match e13 with | .inl M14 => some ((), M14) | .inr (.inl M15) => (q_ob M15 l0 12 ((F_X12_fails l0 M15).bind (fun x => match x with | (u16, M17) => some ((), M17)))) | .inr (.inr (w18, M19)) => (q_gR M19 l0 12 25 (fun c20 => q_nn c20 (fun r21 => (q_tI M19 r21 (4 : Int32) w18 (fun M22 => (q_ob M22 l0 12 ((F_X12_look l0 M22).bind (fun x => match x with | (u23, M24) => (if u23 = (-1 : Int32) then some ((), M24) else (q_ob M24 l0 12 ((F_X12_fails l0 M24).bind (fun x => match x with | (u25, M26) => some ((), M26))))))))))))))))))))))
set_option maxRecDepth 100000 in
set_option maxHeartbeats 4000000 in
theorem c_X12_readWeek (l : Launch) (G : q_G) (l0 : Nat) (M : q_Mem) {r : Unit} {M' : q_Mem} (h : F_X12_readWeek l0 M = some (r, M')) : q_Met l G yX12_readWeek cX12_readWeek 3 (Option.none : Option Jvm.ClassFile.FieldType) 7 0 0 [.ref l0] M none M' := by
  unfold F_X12_readWeek at h
  refine q_enter [some (.ref l0), none, none] (by decide) (Nat.le_of_ble_eq_true rfl) rfl (fun K C => ?_)
  refine q_aload_n C dX12_readWeek_0 rfl ?_
  refine q_aload_n C dX12_readWeek_1 rfl ?_
  refine x_getR (ci := 12) (j := 1) C dX12_readWeek_2 lkF_X12_9 rfl h (fun c1 h => ?_)
  refine x_nn h (fun r2 h => ?_)
  refine x_iconst (v := (0 : Int32)) C dX12_readWeek_5 (by decide) ?_
  refine q_aload_n C dX12_readWeek_6 rfl ?_
  refine x_getI (ci := 12) (j := 6) C dX12_readWeek_7 lkF_X12_105 rfl h (fun v3 h => ?_)
  obtain ⟨hk, h⟩ := q_obE h
  obtain ⟨⟨_, M5⟩, e1, h⟩ := q_bind h
  refine x_callVv0 C dX12_readWeek_10 lkM_X12_203 mV_X12_starts ⟨_, rfl, rfl⟩ hk (c_X12_starts _ _ _ _ _ _ _ e1) rfl rfl (Nat.le_of_ble_eq_true rfl) (by decide) (by decide) ?_
  refine x_iconst (v := (0 : Int32)) C dX12_readWeek_13 (by decide) ?_
  refine q_istore_n (L' := [some (.ref l0), some (.int (0 : Int32)), none]) C dX12_readWeek_14 (by decide) rfl rfl ?_
  refine x_iconst (v := (1 : Int32)) C dX12_readWeek_15 (by decide) ?_
  refine q_istore_n (L' := [some (.ref l0), some (.int (0 : Int32)), some (.int (1 : Int32))]) C dX12_readWeek_16 (by decide) rfl rfl ?_
  obtain ⟨e13, he, h⟩ := q_bind h
  refine q_msk [true, true, true] (lW_X12_readWeek_17 C l0 q_fu _ _ _ _ he (fun M14 hs => ?_) (fun M15 hs => ?_) (fun w18 M19 hs => ?_))
  · have hs := hs.symm
    subst hs
    exact q_vret C dX12_readWeek_39 rfl (by decide) (by decide) (Option.some.inj h)
  · have hs := hs.symm
    subst hs
    refine q_aload_n C dX12_readWeek_68 rfl ?_
    obtain ⟨hk, h⟩ := q_obE h
    obtain ⟨⟨u16, M17⟩, e1, h⟩ := q_bind h
    refine x_callV0 C dX12_readWeek_69 lkM_X12_130 mV_X12_fails ⟨_, rfl, rfl⟩ hk (c_X12_fails _ _ _ _ e1) rfl rfl (Nat.le_of_ble_eq_true rfl) (by decide) (by decide) ?_
    refine q_pop C dX12_readWeek_72 rfl ?_
    exact q_vret C dX12_readWeek_73 rfl (by decide) (by decide) (Option.some.inj h)
  · have hs := hs.symm
    subst hs
    refine q_aload_n C dX12_readWeek_91 rfl ?_
    refine x_getR (ci := 12) (j := 25) C dX12_readWeek_92 lkF_X12_58 rfl h (fun c20 h => ?_)
    refine x_nn h (fun r21 h => ?_)
    refine x_iconst (v := (4 : Int32)) C dX12_readWeek_95 (by decide) ?_
    refine q_iload_n C dX12_readWeek_96 rfl ?_
    refine x_iast C dX12_readWeek_97 h (fun M22 h => ?_)
    refine q_aload_n C dX12_readWeek_98 rfl ?_
    obtain ⟨hk, h⟩ := q_obE h
    obtain ⟨⟨u23, M24⟩, e1, h⟩ := q_bind h
    refine x_callV0 C dX12_readWeek_99 lkM_X12_134 mV_X12_look ⟨_, rfl, rfl⟩ hk (c_X12_look _ _ _ _ e1) rfl rfl (Nat.le_of_ble_eq_true rfl) (by decide) (by decide) ?_
    refine x_iconst (v := (-1 : Int32)) C dX12_readWeek_102 (by decide) ?_
    refine q_icmp_eq (tgt := 111) C dX12_readWeek_103 (by decide) h (fun _ h => ?_) (fun _ h => ?_)
    · exact q_vret C dX12_readWeek_111 rfl (by decide) (by decide) (Option.some.inj h)
    · refine q_aload_n C dX12_readWeek_106 rfl ?_
      obtain ⟨hk, h⟩ := q_obE h
      obtain ⟨⟨u25, M26⟩, e1, h⟩ := q_bind h
      refine x_callV0 C dX12_readWeek_107 lkM_X12_130 mV_X12_fails ⟨_, rfl, rfl⟩ hk (c_X12_fails _ _ _ _ e1) rfl rfl (Nat.le_of_ble_eq_true rfl) (by decide) (by decide) ?_
      refine q_pop C dX12_readWeek_110 rfl ?_
      exact q_vret C dX12_readWeek_111 rfl (by decide) (by decide) (Option.some.inj h)
noncomputable def J_X12_fault_55 (l0 : Nat) (M : q_Mem) : Option (Int32 × q_Mem) := (q_gI M l0 12 11 (fun v12 => some (v12, M)))
set_option maxRecDepth 100000 in
set_option maxHeartbeats 4000000 in
theorem jW_X12_fault_55 {K : q_K} (C : q_C K yX12_fault cX12_fault 2 (Option.some Jvm.ClassFile.FieldType.int) 131 0 0) (l0 : Nat) (M : q_Mem) {r : Int32} {M' : q_Mem} (h : J_X12_fault_55 l0 M = some (r, M')) : q_W K 2 (q_Q K (some (.int r)) M' 0 0) 0 0 M 55 [some (.ref l0), none] [] := by
  unfold J_X12_fault_55 at h
  refine q_aload_n C dX12_fault_55 rfl ?_
  refine x_getI (ci := 12) (j := 11) C dX12_fault_56 lkF_X12_124 rfl h (fun v12 h => ?_)
  exact q_iret C dX12_fault_59 rfl (by decide) (by decide) (Option.some.inj h)
noncomputable def J_X12_fault_46 (l0 : Nat) (l1 : Int32) (M : q_Mem) : Option (Int32 × q_Mem) := (if l1 = (2 : Int32) then (q_ob M l0 12 ((F_X12_readWeek l0 M).bind (fun x => match x with | (_, M11) => J_X12_fault_55 l0 M11))) else J_X12_fault_55 l0 M)
set_option maxRecDepth 100000 in
set_option maxHeartbeats 4000000 in
theorem jW_X12_fault_46 {K : q_K} (C : q_C K yX12_fault cX12_fault 2 (Option.some Jvm.ClassFile.FieldType.int) 131 0 0) (l0 : Nat) (l1 : Int32) (M : q_Mem) {r : Int32} {M' : q_Mem} (h : J_X12_fault_46 l0 l1 M = some (r, M')) : q_W K 2 (q_Q K (some (.int r)) M' 0 0) 0 0 M 46 [some (.ref l0), some (.int l1)] [] := by
  unfold J_X12_fault_46 at h
  refine q_iload_n C dX12_fault_46 rfl ?_
  refine x_iconst (v := (2 : Int32)) C dX12_fault_47 (by decide) ?_
  refine q_icmp_ne (tgt := 55) C dX12_fault_48 (by decide) h (fun _ h => ?_) (fun _ h => ?_)
  · refine q_aload_n C dX12_fault_51 rfl ?_
    obtain ⟨hk, h⟩ := q_obE h
    obtain ⟨⟨_, M11⟩, e1, h⟩ := q_bind h
    refine x_callVv0 C dX12_fault_52 lkM_X12_273 mV_X12_readWeek ⟨_, rfl, rfl⟩ hk (c_X12_readWeek _ _ _ _ e1) rfl rfl (Nat.le_of_ble_eq_true rfl) (by decide) (by decide) ?_
    exact q_msk [true, false] (jW_X12_fault_55 C l0 M11 h)
  · exact q_msk [true, false] (jW_X12_fault_55 C l0 M h)
noncomputable def J_X12_fault_28 (l0 : Nat) (l1 : Int32) (M : q_Mem) : Option (Int32 × q_Mem) := (if l1 = (1 : Int32) then (q_gR M l0 12 1 (fun c5 => q_nn c5 (fun r6 => (q_gI M l0 12 6 (fun v7 => (q_ob M l0 12 ((F_X12_goThrough l0 r6 (0 : Int32) v7 M).bind (fun x => match x with | (_, M9) => J_X12_fault_46 l0 l1 M9)))))))) else J_X12_fault_46 l0 l1 M)
set_option maxRecDepth 100000 in
set_option maxHeartbeats 4000000 in
theorem jW_X12_fault_28 {K : q_K} (C : q_C K yX12_fault cX12_fault 2 (Option.some Jvm.ClassFile.FieldType.int) 131 0 0) (l0 : Nat) (l1 : Int32) (M : q_Mem) {r : Int32} {M' : q_Mem} (h : J_X12_fault_28 l0 l1 M = some (r, M')) : q_W K 2 (q_Q K (some (.int r)) M' 0 0) 0 0 M 28 [some (.ref l0), some (.int l1)] [] := by
  unfold J_X12_fault_28 at h
  refine q_iload_n C dX12_fault_28 rfl ?_
  refine x_iconst (v := (1 : Int32)) C dX12_fault_29 (by decide) ?_
  refine q_icmp_ne (tgt := 46) C dX12_fault_30 (by decide) h (fun _ h => ?_) (fun _ h => ?_)
  · refine q_aload_n C dX12_fault_33 rfl ?_
    refine q_aload_n C dX12_fault_34 rfl ?_
    refine x_getR (ci := 12) (j := 1) C dX12_fault_35 lkF_X12_9 rfl h (fun c5 h => ?_)
    refine x_nn h (fun r6 h => ?_)
    refine x_iconst (v := (0 : Int32)) C dX12_fault_38 (by decide) ?_
    refine q_aload_n C dX12_fault_39 rfl ?_
    refine x_getI (ci := 12) (j := 6) C dX12_fault_40 lkF_X12_105 rfl h (fun v7 h => ?_)
    obtain ⟨hk, h⟩ := q_obE h
    obtain ⟨⟨_, M9⟩, e1, h⟩ := q_bind h
    refine x_callVv0 C dX12_fault_43 lkM_X12_270 mV_X12_goThrough ⟨_, rfl, rfl⟩ hk (c_X12_goThrough _ _ _ _ _ _ _ e1) rfl rfl (Nat.le_of_ble_eq_true rfl) (by decide) (by decide) ?_
    exact q_msk [true, true] (jW_X12_fault_46 C l0 l1 M9 h)
  · exact q_msk [true, true] (jW_X12_fault_46 C l0 l1 M h)
noncomputable def F_X12_fault (l0 : Nat) (l1 : Int32) (M : q_Mem) : Option (Int32 × q_Mem) := (q_pI M l0 12 0 (0 : Int32) (fun M1 => ((F_X12_isIn l1.toInt64 (0 : Int64) (2 : Int64) M1).bind (fun u2 => (if u2 = 0 then some ((-2 : Int32), M1) else (if l1 = 0 then (q_ob M1 l0 12 ((F_X12_readHouse l0 M1).bind (fun x => match x with | (_, M4) => J_X12_fault_28 l0 l1 M4))) else J_X12_fault_28 l0 l1 M1))))))
set_option maxRecDepth 100000 in
set_option maxHeartbeats 4000000 in
theorem c_X12_fault (l : Launch) (G : q_G) (l0 : Nat) (l1 : Int32) (M : q_Mem) {r : Int32} {M' : q_Mem} (h : F_X12_fault l0 l1 M = some (r, M')) : q_Met l G yX12_fault cX12_fault 2 (Option.some Jvm.ClassFile.FieldType.int) 131 0 0 [.ref l0, .int l1] M (some (.int r)) M' := by
  unfold F_X12_fault at h
  refine q_enter [some (.ref l0), some (.int l1)] (by decide) (Nat.le_of_ble_eq_true rfl) rfl (fun K C => ?_)
  refine q_aload_n C dX12_fault_0 rfl ?_
  refine x_iconst (v := (0 : Int32)) C dX12_fault_1 (by decide) ?_
  refine x_putI (ci := 12) (j := 0) C dX12_fault_2 lkF_X12_92 (fun r hr => by cases hr; rfl) rfl h (fun M1 h => ?_)
  refine q_iload_n C dX12_fault_5 rfl ?_
  refine q_i2l C dX12_fault_6 ?_
  refine x_lconst (v := (0 : Int64)) C dX12_fault_7 (by decide) ?_
  refine q_ldc2 (v := (2 : Int64)) C dX12_fault_8 wd_1373 ?_
  obtain ⟨u2, e1, h⟩ := q_bind h
  refine x_callS0 C dX12_fault_11 lkM_X12_213 mS_X12_isIn (c_X12_isIn _ _ _ _ _ _ e1) rfl rfl (Nat.le_of_ble_eq_true rfl) (by decide) (by decide) ?_
  refine q_if_ne (tgt := 20) C dX12_fault_14 (by decide) h (fun _ h => ?_) (fun _ h => ?_)
  · refine x_bipush (v := (-2 : Int32)) C dX12_fault_17 (by decide) ?_
    exact q_iret C dX12_fault_19 rfl (by decide) (by decide) (Option.some.inj h)
  · refine q_iload_n C dX12_fault_20 rfl ?_
    refine q_if_ne (tgt := 28) C dX12_fault_21 (by decide) h (fun _ h => ?_) (fun _ h => ?_)
    · refine q_aload_n C dX12_fault_24 rfl ?_
      obtain ⟨hk, h⟩ := q_obE h
      obtain ⟨⟨_, M4⟩, e1, h⟩ := q_bind h
      refine x_callVv0 C dX12_fault_25 lkM_X12_267 mV_X12_readHouse ⟨_, rfl, rfl⟩ hk (c_X12_readHouse _ _ _ _ e1) rfl rfl (Nat.le_of_ble_eq_true rfl) (by decide) (by decide) ?_
      exact q_msk [true, true] (jW_X12_fault_28 C l0 l1 M4 h)
    · exact q_msk [true, true] (jW_X12_fault_28 C l0 l1 M1 h)
noncomputable def B_X12_text_71 (l0 : Nat) (l2 : Int32) (l3 : Int32) (M : q_Mem) : Option ((Int32 × q_Mem) ⊕ (q_Mem)) := (if l3 < l2 then (q_gR M l0 12 2 (fun c9 => q_nn c9 (fun r10 => (q_gI M l0 12 7 (fun v11 => (q_gR M l0 12 1 (fun c12 => q_nn c12 (fun r13 => (q_lI M 1 r13 l3 (fun v14 => (q_tB M r10 (((240 : Int32) * v11) + l3) v14 (fun M15 => some (.inl ((l3 + (1 : Int32)), M15)))))))))))))) else some (.inr M))
set_option maxRecDepth 100000 in
set_option maxHeartbeats 4000000 in
theorem bW_X12_text_71 {K : q_K} {Q : State → Prop} (C : q_C K yX12_text cX12_text 4 (Option.some Jvm.ClassFile.FieldType.int) 132 0 0) (l0 : Nat) (l2 : Int32) (l3 : Int32) (M : q_Mem) {stp : (Int32 × q_Mem) ⊕ (q_Mem)} (h : B_X12_text_71 l0 l2 l3 M = some stp) (kC : ∀ (l3 : Int32) (M : q_Mem), stp = .inl (l3, M) → q_W K 4 Q 0 0 M 71 [some (.ref l0), none, some (.int l2), some (.int l3)] []) (kE0 : ∀ (M : q_Mem), stp = .inr M → q_W K 4 Q 0 0 M 103 [some (.ref l0), none, some (.int l2), none] []) : q_W K 4 Q 0 0 M 71 [some (.ref l0), none, some (.int l2), some (.int l3)] [] := by
  unfold B_X12_text_71 at h
  refine q_iload_n C dX12_text_71 rfl ?_
  refine q_iload_n C dX12_text_72 rfl ?_
  refine q_icmp_ge (tgt := 103) C dX12_text_73 (by decide) h (fun _ h => ?_) (fun _ h => ?_)
  · refine q_aload_n C dX12_text_76 rfl ?_
    refine x_getR (ci := 12) (j := 2) C dX12_text_77 lkF_X12_13 rfl h (fun c9 h => ?_)
    refine x_nn h (fun r10 h => ?_)
    refine x_sipush (v := (240 : Int32)) C dX12_text_80 (by decide) ?_
    refine q_aload_n C dX12_text_83 rfl ?_
    refine x_getI (ci := 12) (j := 7) C dX12_text_84 lkF_X12_276 rfl h (fun v11 h => ?_)
    refine q_imul C dX12_text_87 ?_
    refine q_iload_n C dX12_text_88 rfl ?_
    refine q_iadd C dX12_text_89 ?_
    refine q_aload_n C dX12_text_90 rfl ?_
    refine x_getR (ci := 12) (j := 1) C dX12_text_91 lkF_X12_9 rfl h (fun c12 h => ?_)
    refine x_nn h (fun r13 h => ?_)
    refine q_iload_n C dX12_text_94 rfl ?_
    refine x_bald C dX12_text_95 h (fun v14 h => ?_)
    refine x_bast C dX12_text_96 h (fun M15 h => ?_)
    refine x_iinc (w := (1 : Int32)) (L' := [some (.ref l0), none, some (.int l2), some (.int (l3 + (1 : Int32)))]) C dX12_text_97 rfl (by decide) (by decide) rfl rfl ?_
    refine q_goto (tgt := 71) C dX12_text_100 (by decide) ?_
    exact q_msk [true, false, true, true] (kC _ _ (Option.some.inj h).symm)
  · exact q_msk [true, false, true, false] (kE0 _ (Option.some.inj h).symm)
set_option maxRecDepth 100000 in
set_option maxHeartbeats 4000000 in
theorem lW_X12_text_71 {K : q_K} {Q : State → Prop} (C : q_C K yX12_text cX12_text 4 (Option.some Jvm.ClassFile.FieldType.int) 132 0 0) (l0 : Nat) (l2 : Int32) (n : Nat) : ∀ (l3 : Int32) (M : q_Mem) (e : (q_Mem)), q_lp (fun s => B_X12_text_71 l0 l2 s.1 s.2) n (l3, M) = some e → (∀ (M : q_Mem), e = M → q_W K 4 Q 0 0 M 103 [some (.ref l0), none, some (.int l2), none] []) → q_W K 4 Q 0 0 M 71 [some (.ref l0), none, some (.int l2), some (.int l3)] [] := by
  induction n with
  | zero => intro l3 M e h; cases h
  | succ n ih =>
    intro l3 M e h kE0
    obtain ⟨stp, e1, e2⟩ := q_bind h
    refine bW_X12_text_71 C l0 l2 l3 M e1 (fun a0 a1 hs => ?_) (fun b0 hs => ?_)
    · subst hs; exact ih _ _ _ e2 kE0
    · subst hs; exact kE0 _ (Option.some.inj e2).symm
noncomputable def B_X12_text_137 (l0 : Nat) (l3 : Int32) (M : q_Mem) : Option ((Int32 × q_Mem) ⊕ (q_Mem)) := (if l3 < (48 : Int32) then (q_gR M l0 12 24 (fun c25 => q_nn c25 (fun r26 => (q_gI M l0 12 30 (fun v27 => (q_gR M l0 12 24 (fun c28 => q_nn c28 (fun r29 => (q_lI M 0 r29 ((192 : Int32) + l3) (fun v30 => (q_tI M r26 (((48 : Int32) * v27) + l3) v30 (fun M31 => some (.inl ((l3 + (1 : Int32)), M31)))))))))))))) else some (.inr M))
set_option maxRecDepth 100000 in
set_option maxHeartbeats 4000000 in
theorem bW_X12_text_137 {K : q_K} {Q : State → Prop} (C : q_C K yX12_text cX12_text 4 (Option.some Jvm.ClassFile.FieldType.int) 132 0 0) (l0 : Nat) (l3 : Int32) (M : q_Mem) {stp : (Int32 × q_Mem) ⊕ (q_Mem)} (h : B_X12_text_137 l0 l3 M = some stp) (kC : ∀ (l3 : Int32) (M : q_Mem), stp = .inl (l3, M) → q_W K 4 Q 0 0 M 137 [some (.ref l0), none, none, some (.int l3)] []) (kE0 : ∀ (M : q_Mem), stp = .inr M → q_W K 4 Q 0 0 M 173 [some (.ref l0), none, none, none] []) : q_W K 4 Q 0 0 M 137 [some (.ref l0), none, none, some (.int l3)] [] := by
  unfold B_X12_text_137 at h
  refine q_iload_n C dX12_text_137 rfl ?_
  refine x_bipush (v := (48 : Int32)) C dX12_text_138 (by decide) ?_
  refine q_icmp_ge (tgt := 173) C dX12_text_140 (by decide) h (fun _ h => ?_) (fun _ h => ?_)
  · refine q_aload_n C dX12_text_143 rfl ?_
    refine x_getR (ci := 12) (j := 24) C dX12_text_144 lkF_X12_55 rfl h (fun c25 h => ?_)
    refine x_nn h (fun r26 h => ?_)
    refine x_bipush (v := (48 : Int32)) C dX12_text_147 (by decide) ?_
    refine q_aload_n C dX12_text_149 rfl ?_
    refine x_getI (ci := 12) (j := 30) C dX12_text_150 lkF_X12_279 rfl h (fun v27 h => ?_)
    refine q_imul C dX12_text_153 ?_
    refine q_iload_n C dX12_text_154 rfl ?_
    refine q_iadd C dX12_text_155 ?_
    refine q_aload_n C dX12_text_156 rfl ?_
    refine x_getR (ci := 12) (j := 24) C dX12_text_157 lkF_X12_55 rfl h (fun c28 h => ?_)
    refine x_nn h (fun r29 h => ?_)
    refine x_sipush (v := (192 : Int32)) C dX12_text_160 (by decide) ?_
    refine q_iload_n C dX12_text_163 rfl ?_
    refine q_iadd C dX12_text_164 ?_
    refine x_iald C dX12_text_165 h (fun v30 h => ?_)
    refine x_iast C dX12_text_166 h (fun M31 h => ?_)
    refine x_iinc (w := (1 : Int32)) (L' := [some (.ref l0), none, none, some (.int (l3 + (1 : Int32)))]) C dX12_text_167 rfl (by decide) (by decide) rfl rfl ?_
    refine q_goto (tgt := 137) C dX12_text_170 (by decide) ?_
    exact q_msk [true, false, false, true] (kC _ _ (Option.some.inj h).symm)
  · exact q_msk [true, false, false, false] (kE0 _ (Option.some.inj h).symm)
set_option maxRecDepth 100000 in
set_option maxHeartbeats 4000000 in
theorem lW_X12_text_137 {K : q_K} {Q : State → Prop} (C : q_C K yX12_text cX12_text 4 (Option.some Jvm.ClassFile.FieldType.int) 132 0 0) (l0 : Nat) (n : Nat) : ∀ (l3 : Int32) (M : q_Mem) (e : (q_Mem)), q_lp (fun s => B_X12_text_137 l0 s.1 s.2) n (l3, M) = some e → (∀ (M : q_Mem), e = M → q_W K 4 Q 0 0 M 173 [some (.ref l0), none, none, none] []) → q_W K 4 Q 0 0 M 137 [some (.ref l0), none, none, some (.int l3)] [] := by
  induction n with
  | zero => intro l3 M e h; cases h
  | succ n ih =>
    intro l3 M e h kE0
    obtain ⟨stp, e1, e2⟩ := q_bind h
    refine bW_X12_text_137 C l0 l3 M e1 (fun a0 a1 hs => ?_) (fun b0 hs => ?_)
    · subst hs; exact ih _ _ _ e2 kE0
    · subst hs; exact kE0 _ (Option.some.inj e2).symm
noncomputable def B_X12_text_223 (l0 : Nat) (l3 : Int32) (M : q_Mem) : Option ((Int32 × q_Mem) ⊕ (q_Mem)) := (if l3 < (3 : Int32) then (q_gR M l0 12 18 (fun c48 => q_nn c48 (fun r49 => (q_gR M l0 12 19 (fun c50 => q_nn c50 (fun r51 => (q_lI M 0 r51 l3 (fun v52 => (q_tI M r49 l3 v52 (fun M53 => some (.inl ((l3 + (1 : Int32)), M53)))))))))))) else some (.inr M))
set_option maxRecDepth 100000 in
set_option maxHeartbeats 4000000 in
theorem bW_X12_text_223 {K : q_K} {Q : State → Prop} (C : q_C K yX12_text cX12_text 4 (Option.some Jvm.ClassFile.FieldType.int) 132 0 0) (l0 : Nat) (l3 : Int32) (M : q_Mem) {stp : (Int32 × q_Mem) ⊕ (q_Mem)} (h : B_X12_text_223 l0 l3 M = some stp) (kC : ∀ (l3 : Int32) (M : q_Mem), stp = .inl (l3, M) → q_W K 4 Q 0 0 M 223 [some (.ref l0), none, none, some (.int l3)] []) (kE0 : ∀ (M : q_Mem), stp = .inr M → q_W K 4 Q 0 0 M 246 [some (.ref l0), none, none, none] []) : q_W K 4 Q 0 0 M 223 [some (.ref l0), none, none, some (.int l3)] [] := by
  unfold B_X12_text_223 at h
  refine q_iload_n C dX12_text_223 rfl ?_
  refine x_iconst (v := (3 : Int32)) C dX12_text_224 (by decide) ?_
  refine q_icmp_ge (tgt := 246) C dX12_text_225 (by decide) h (fun _ h => ?_) (fun _ h => ?_)
  · refine q_aload_n C dX12_text_228 rfl ?_
    refine x_getR (ci := 12) (j := 18) C dX12_text_229 lkF_X12_37 rfl h (fun c48 h => ?_)
    refine x_nn h (fun r49 h => ?_)
    refine q_iload_n C dX12_text_232 rfl ?_
    refine q_aload_n C dX12_text_233 rfl ?_
    refine x_getR (ci := 12) (j := 19) C dX12_text_234 lkF_X12_40 rfl h (fun c50 h => ?_)
    refine x_nn h (fun r51 h => ?_)
    refine q_iload_n C dX12_text_237 rfl ?_
    refine x_iald C dX12_text_238 h (fun v52 h => ?_)
    refine x_iast C dX12_text_239 h (fun M53 h => ?_)
    refine x_iinc (w := (1 : Int32)) (L' := [some (.ref l0), none, none, some (.int (l3 + (1 : Int32)))]) C dX12_text_240 rfl (by decide) (by decide) rfl rfl ?_
    refine q_goto (tgt := 223) C dX12_text_243 (by decide) ?_
    exact q_msk [true, false, false, true] (kC _ _ (Option.some.inj h).symm)
  · exact q_msk [true, false, false, false] (kE0 _ (Option.some.inj h).symm)
set_option maxRecDepth 100000 in
set_option maxHeartbeats 4000000 in
theorem lW_X12_text_223 {K : q_K} {Q : State → Prop} (C : q_C K yX12_text cX12_text 4 (Option.some Jvm.ClassFile.FieldType.int) 132 0 0) (l0 : Nat) (n : Nat) : ∀ (l3 : Int32) (M : q_Mem) (e : (q_Mem)), q_lp (fun s => B_X12_text_223 l0 s.1 s.2) n (l3, M) = some e → (∀ (M : q_Mem), e = M → q_W K 4 Q 0 0 M 246 [some (.ref l0), none, none, none] []) → q_W K 4 Q 0 0 M 223 [some (.ref l0), none, none, some (.int l3)] [] := by
  induction n with
  | zero => intro l3 M e h; cases h
  | succ n ih =>
    intro l3 M e h kE0
    obtain ⟨stp, e1, e2⟩ := q_bind h
    refine bW_X12_text_223 C l0 l3 M e1 (fun a0 a1 hs => ?_) (fun b0 hs => ?_)
    · subst hs; exact ih _ _ _ e2 kE0
    · subst hs; exact kE0 _ (Option.some.inj e2).symm
noncomputable def B_X12_text_248 (l0 : Nat) (l3 : Int32) (M : q_Mem) : Option ((Int32 × q_Mem) ⊕ (q_Mem)) := (if l3 < (15 : Int32) then (q_gR M l0 12 20 (fun c56 => q_nn c56 (fun r57 => (q_gR M l0 12 21 (fun c58 => q_nn c58 (fun r59 => (q_lI M 0 r59 l3 (fun v60 => (q_tI M r57 l3 v60 (fun M61 => some (.inl ((l3 + (1 : Int32)), M61)))))))))))) else some (.inr M))
set_option maxRecDepth 100000 in
set_option maxHeartbeats 4000000 in
theorem bW_X12_text_248 {K : q_K} {Q : State → Prop} (C : q_C K yX12_text cX12_text 4 (Option.some Jvm.ClassFile.FieldType.int) 132 0 0) (l0 : Nat) (l3 : Int32) (M : q_Mem) {stp : (Int32 × q_Mem) ⊕ (q_Mem)} (h : B_X12_text_248 l0 l3 M = some stp) (kC : ∀ (l3 : Int32) (M : q_Mem), stp = .inl (l3, M) → q_W K 4 Q 0 0 M 248 [some (.ref l0), none, none, some (.int l3)] []) (kE0 : ∀ (M : q_Mem), stp = .inr M → q_W K 4 Q 0 0 M 272 [some (.ref l0), none, none, none] []) : q_W K 4 Q 0 0 M 248 [some (.ref l0), none, none, some (.int l3)] [] := by
  unfold B_X12_text_248 at h
  refine q_iload_n C dX12_text_248 rfl ?_
  refine x_bipush (v := (15 : Int32)) C dX12_text_249 (by decide) ?_
  refine q_icmp_ge (tgt := 272) C dX12_text_251 (by decide) h (fun _ h => ?_) (fun _ h => ?_)
  · refine q_aload_n C dX12_text_254 rfl ?_
    refine x_getR (ci := 12) (j := 20) C dX12_text_255 lkF_X12_43 rfl h (fun c56 h => ?_)
    refine x_nn h (fun r57 h => ?_)
    refine q_iload_n C dX12_text_258 rfl ?_
    refine q_aload_n C dX12_text_259 rfl ?_
    refine x_getR (ci := 12) (j := 21) C dX12_text_260 lkF_X12_46 rfl h (fun c58 h => ?_)
    refine x_nn h (fun r59 h => ?_)
    refine q_iload_n C dX12_text_263 rfl ?_
    refine x_iald C dX12_text_264 h (fun v60 h => ?_)
    refine x_iast C dX12_text_265 h (fun M61 h => ?_)
    refine x_iinc (w := (1 : Int32)) (L' := [some (.ref l0), none, none, some (.int (l3 + (1 : Int32)))]) C dX12_text_266 rfl (by decide) (by decide) rfl rfl ?_
    refine q_goto (tgt := 248) C dX12_text_269 (by decide) ?_
    exact q_msk [true, false, false, true] (kC _ _ (Option.some.inj h).symm)
  · exact q_msk [true, false, false, false] (kE0 _ (Option.some.inj h).symm)
set_option maxRecDepth 100000 in
set_option maxHeartbeats 4000000 in
theorem lW_X12_text_248 {K : q_K} {Q : State → Prop} (C : q_C K yX12_text cX12_text 4 (Option.some Jvm.ClassFile.FieldType.int) 132 0 0) (l0 : Nat) (n : Nat) : ∀ (l3 : Int32) (M : q_Mem) (e : (q_Mem)), q_lp (fun s => B_X12_text_248 l0 s.1 s.2) n (l3, M) = some e → (∀ (M : q_Mem), e = M → q_W K 4 Q 0 0 M 272 [some (.ref l0), none, none, none] []) → q_W K 4 Q 0 0 M 248 [some (.ref l0), none, none, some (.int l3)] [] := by
  induction n with
  | zero => intro l3 M e h; cases h
  | succ n ih =>
    intro l3 M e h kE0
    obtain ⟨stp, e1, e2⟩ := q_bind h
    refine bW_X12_text_248 C l0 l3 M e1 (fun a0 a1 hs => ?_) (fun b0 hs => ?_)
    · subst hs; exact ih _ _ _ e2 kE0
    · subst hs; exact kE0 _ (Option.some.inj e2).symm
noncomputable def B_X12_text_274 (l0 : Nat) (l3 : Int32) (M : q_Mem) : Option ((Int32 × q_Mem) ⊕ (q_Mem)) := (if l3 < (24 : Int32) then (q_gR M l0 12 22 (fun c64 => q_nn c64 (fun r65 => (q_gR M l0 12 23 (fun c66 => q_nn c66 (fun r67 => (q_lI M 0 r67 l3 (fun v68 => (q_tI M r65 l3 v68 (fun M69 => some (.inl ((l3 + (1 : Int32)), M69)))))))))))) else some (.inr M))
set_option maxRecDepth 100000 in
set_option maxHeartbeats 4000000 in
theorem bW_X12_text_274 {K : q_K} {Q : State → Prop} (C : q_C K yX12_text cX12_text 4 (Option.some Jvm.ClassFile.FieldType.int) 132 0 0) (l0 : Nat) (l3 : Int32) (M : q_Mem) {stp : (Int32 × q_Mem) ⊕ (q_Mem)} (h : B_X12_text_274 l0 l3 M = some stp) (kC : ∀ (l3 : Int32) (M : q_Mem), stp = .inl (l3, M) → q_W K 4 Q 0 0 M 274 [some (.ref l0), none, none, some (.int l3)] []) (kE0 : ∀ (M : q_Mem), stp = .inr M → q_W K 4 Q 0 0 M 298 [some (.ref l0), none, none, none] []) : q_W K 4 Q 0 0 M 274 [some (.ref l0), none, none, some (.int l3)] [] := by
  unfold B_X12_text_274 at h
  refine q_iload_n C dX12_text_274 rfl ?_
  refine x_bipush (v := (24 : Int32)) C dX12_text_275 (by decide) ?_
  refine q_icmp_ge (tgt := 298) C dX12_text_277 (by decide) h (fun _ h => ?_) (fun _ h => ?_)
  · refine q_aload_n C dX12_text_280 rfl ?_
    refine x_getR (ci := 12) (j := 22) C dX12_text_281 lkF_X12_49 rfl h (fun c64 h => ?_)
    refine x_nn h (fun r65 h => ?_)
    refine q_iload_n C dX12_text_284 rfl ?_
    refine q_aload_n C dX12_text_285 rfl ?_
    refine x_getR (ci := 12) (j := 23) C dX12_text_286 lkF_X12_52 rfl h (fun c66 h => ?_)
    refine x_nn h (fun r67 h => ?_)
    refine q_iload_n C dX12_text_289 rfl ?_
    refine x_iald C dX12_text_290 h (fun v68 h => ?_)
    refine x_iast C dX12_text_291 h (fun M69 h => ?_)
    refine x_iinc (w := (1 : Int32)) (L' := [some (.ref l0), none, none, some (.int (l3 + (1 : Int32)))]) C dX12_text_292 rfl (by decide) (by decide) rfl rfl ?_
    refine q_goto (tgt := 274) C dX12_text_295 (by decide) ?_
    exact q_msk [true, false, false, true] (kC _ _ (Option.some.inj h).symm)
  · exact q_msk [true, false, false, false] (kE0 _ (Option.some.inj h).symm)
set_option maxRecDepth 100000 in
set_option maxHeartbeats 4000000 in
theorem lW_X12_text_274 {K : q_K} {Q : State → Prop} (C : q_C K yX12_text cX12_text 4 (Option.some Jvm.ClassFile.FieldType.int) 132 0 0) (l0 : Nat) (n : Nat) : ∀ (l3 : Int32) (M : q_Mem) (e : (q_Mem)), q_lp (fun s => B_X12_text_274 l0 s.1 s.2) n (l3, M) = some e → (∀ (M : q_Mem), e = M → q_W K 4 Q 0 0 M 298 [some (.ref l0), none, none, none] []) → q_W K 4 Q 0 0 M 274 [some (.ref l0), none, none, some (.int l3)] [] := by
  induction n with
  | zero => intro l3 M e h; cases h
  | succ n ih =>
    intro l3 M e h kE0
    obtain ⟨stp, e1, e2⟩ := q_bind h
    refine bW_X12_text_274 C l0 l3 M e1 (fun a0 a1 hs => ?_) (fun b0 hs => ?_)
    · subst hs; exact ih _ _ _ e2 kE0
    · subst hs; exact kE0 _ (Option.some.inj e2).symm
noncomputable def B_X12_text_300 (l0 : Nat) (l3 : Int32) (M : q_Mem) : Option ((Int32 × q_Mem) ⊕ (q_Mem)) := (if l3 < (217 : Int32) then (q_gR M l0 12 32 (fun c72 => q_nn c72 (fun r73 => (q_tI M r73 l3 (0 : Int32) (fun M74 => some (.inl ((l3 + (1 : Int32)), M74))))))) else some (.inr M))
set_option maxRecDepth 100000 in
set_option maxHeartbeats 4000000 in
theorem bW_X12_text_300 {K : q_K} {Q : State → Prop} (C : q_C K yX12_text cX12_text 4 (Option.some Jvm.ClassFile.FieldType.int) 132 0 0) (l0 : Nat) (l3 : Int32) (M : q_Mem) {stp : (Int32 × q_Mem) ⊕ (q_Mem)} (h : B_X12_text_300 l0 l3 M = some stp) (kC : ∀ (l3 : Int32) (M : q_Mem), stp = .inl (l3, M) → q_W K 4 Q 0 0 M 300 [some (.ref l0), none, none, some (.int l3)] []) (kE0 : ∀ (M : q_Mem), stp = .inr M → q_W K 4 Q 0 0 M 320 [some (.ref l0), none, none, none] []) : q_W K 4 Q 0 0 M 300 [some (.ref l0), none, none, some (.int l3)] [] := by
  unfold B_X12_text_300 at h
  refine q_iload_n C dX12_text_300 rfl ?_
  refine x_sipush (v := (217 : Int32)) C dX12_text_301 (by decide) ?_
  refine q_icmp_ge (tgt := 320) C dX12_text_304 (by decide) h (fun _ h => ?_) (fun _ h => ?_)
  · refine q_aload_n C dX12_text_307 rfl ?_
    refine x_getR (ci := 12) (j := 32) C dX12_text_308 lkF_X12_61 rfl h (fun c72 h => ?_)
    refine x_nn h (fun r73 h => ?_)
    refine q_iload_n C dX12_text_311 rfl ?_
    refine x_iconst (v := (0 : Int32)) C dX12_text_312 (by decide) ?_
    refine x_iast C dX12_text_313 h (fun M74 h => ?_)
    refine x_iinc (w := (1 : Int32)) (L' := [some (.ref l0), none, none, some (.int (l3 + (1 : Int32)))]) C dX12_text_314 rfl (by decide) (by decide) rfl rfl ?_
    refine q_goto (tgt := 300) C dX12_text_317 (by decide) ?_
    exact q_msk [true, false, false, true] (kC _ _ (Option.some.inj h).symm)
  · exact q_msk [true, false, false, false] (kE0 _ (Option.some.inj h).symm)
set_option maxRecDepth 100000 in
set_option maxHeartbeats 4000000 in
theorem lW_X12_text_300 {K : q_K} {Q : State → Prop} (C : q_C K yX12_text cX12_text 4 (Option.some Jvm.ClassFile.FieldType.int) 132 0 0) (l0 : Nat) (n : Nat) : ∀ (l3 : Int32) (M : q_Mem) (e : (q_Mem)), q_lp (fun s => B_X12_text_300 l0 s.1 s.2) n (l3, M) = some e → (∀ (M : q_Mem), e = M → q_W K 4 Q 0 0 M 320 [some (.ref l0), none, none, none] []) → q_W K 4 Q 0 0 M 300 [some (.ref l0), none, none, some (.int l3)] [] := by
  induction n with
  | zero => intro l3 M e h; cases h
  | succ n ih =>
    intro l3 M e h kE0
    obtain ⟨stp, e1, e2⟩ := q_bind h
    refine bW_X12_text_300 C l0 l3 M e1 (fun a0 a1 hs => ?_) (fun b0 hs => ?_)
    · subst hs; exact ih _ _ _ e2 kE0
    · subst hs; exact kE0 _ (Option.some.inj e2).symm
noncomputable def B_X12_text_322 (l0 : Nat) (l3 : Int32) (M : q_Mem) : Option ((Int32 × q_Mem) ⊕ (q_Mem)) := (q_gI M l0 12 27 (fun v77 => (if l3 < v77 then (q_gR M l0 12 32 (fun c78 => q_nn c78 (fun r79 => (q_gR M l0 12 22 (fun c80 => q_nn c80 (fun r81 => (q_lI M 0 r81 (((4 : Int32) * l3) + (1 : Int32)) (fun v82 => (q_tI M r79 (((4 : Int32) * l3) + (0 : Int32)) v82 (fun M83 => (q_gR M83 l0 12 32 (fun c84 => q_nn c84 (fun r85 => (q_gR M83 l0 12 22 (fun c86 => q_nn c86 (fun r87 => (q_lI M83 0 r87 (((4 : Int32) * l3) + (2 : Int32)) (fun v88 => (q_tI M83 r85 (((4 : Int32) * l3) + (1 : Int32)) v88 (fun M89 => some (.inl ((l3 + (1 : Int32)), M89)))))))))))))))))))))) else some (.inr M))))
set_option maxRecDepth 100000 in
set_option maxHeartbeats 4000000 in
theorem bW_X12_text_322 {K : q_K} {Q : State → Prop} (C : q_C K yX12_text cX12_text 4 (Option.some Jvm.ClassFile.FieldType.int) 132 0 0) (l0 : Nat) (l3 : Int32) (M : q_Mem) {stp : (Int32 × q_Mem) ⊕ (q_Mem)} (h : B_X12_text_322 l0 l3 M = some stp) (kC : ∀ (l3 : Int32) (M : q_Mem), stp = .inl (l3, M) → q_W K 4 Q 0 0 M 322 [some (.ref l0), none, none, some (.int l3)] []) (kE0 : ∀ (M : q_Mem), stp = .inr M → q_W K 4 Q 0 0 M 376 [some (.ref l0), none, none, none] []) : q_W K 4 Q 0 0 M 322 [some (.ref l0), none, none, some (.int l3)] [] := by
  unfold B_X12_text_322 at h
  refine q_iload_n C dX12_text_322 rfl ?_
  refine q_aload_n C dX12_text_323 rfl ?_
  refine x_getI (ci := 12) (j := 27) C dX12_text_324 lkF_X12_287 rfl h (fun v77 h => ?_)
  refine q_icmp_ge (tgt := 376) C dX12_text_327 (by decide) h (fun _ h => ?_) (fun _ h => ?_)
  · refine q_aload_n C dX12_text_330 rfl ?_
    refine x_getR (ci := 12) (j := 32) C dX12_text_331 lkF_X12_61 rfl h (fun c78 h => ?_)
    refine x_nn h (fun r79 h => ?_)
    refine x_iconst (v := (4 : Int32)) C dX12_text_334 (by decide) ?_
    refine q_iload_n C dX12_text_335 rfl ?_
    refine q_imul C dX12_text_336 ?_
    refine x_iconst (v := (0 : Int32)) C dX12_text_337 (by decide) ?_
    refine q_iadd C dX12_text_338 ?_
    refine q_aload_n C dX12_text_339 rfl ?_
    refine x_getR (ci := 12) (j := 22) C dX12_text_340 lkF_X12_49 rfl h (fun c80 h => ?_)
    refine x_nn h (fun r81 h => ?_)
    refine x_iconst (v := (4 : Int32)) C dX12_text_343 (by decide) ?_
    refine q_iload_n C dX12_text_344 rfl ?_
    refine q_imul C dX12_text_345 ?_
    refine x_iconst (v := (1 : Int32)) C dX12_text_346 (by decide) ?_
    refine q_iadd C dX12_text_347 ?_
    refine x_iald C dX12_text_348 h (fun v82 h => ?_)
    refine x_iast C dX12_text_349 h (fun M83 h => ?_)
    refine q_aload_n C dX12_text_350 rfl ?_
    refine x_getR (ci := 12) (j := 32) C dX12_text_351 lkF_X12_61 rfl h (fun c84 h => ?_)
    refine x_nn h (fun r85 h => ?_)
    refine x_iconst (v := (4 : Int32)) C dX12_text_354 (by decide) ?_
    refine q_iload_n C dX12_text_355 rfl ?_
    refine q_imul C dX12_text_356 ?_
    refine x_iconst (v := (1 : Int32)) C dX12_text_357 (by decide) ?_
    refine q_iadd C dX12_text_358 ?_
    refine q_aload_n C dX12_text_359 rfl ?_
    refine x_getR (ci := 12) (j := 22) C dX12_text_360 lkF_X12_49 rfl h (fun c86 h => ?_)
    refine x_nn h (fun r87 h => ?_)
    refine x_iconst (v := (4 : Int32)) C dX12_text_363 (by decide) ?_
    refine q_iload_n C dX12_text_364 rfl ?_
    refine q_imul C dX12_text_365 ?_
    refine x_iconst (v := (2 : Int32)) C dX12_text_366 (by decide) ?_
    refine q_iadd C dX12_text_367 ?_
    refine x_iald C dX12_text_368 h (fun v88 h => ?_)
    refine x_iast C dX12_text_369 h (fun M89 h => ?_)
    refine x_iinc (w := (1 : Int32)) (L' := [some (.ref l0), none, none, some (.int (l3 + (1 : Int32)))]) C dX12_text_370 rfl (by decide) (by decide) rfl rfl ?_
    refine q_goto (tgt := 322) C dX12_text_373 (by decide) ?_
    exact q_msk [true, false, false, true] (kC _ _ (Option.some.inj h).symm)
  · exact q_msk [true, false, false, false] (kE0 _ (Option.some.inj h).symm)
set_option maxRecDepth 100000 in
set_option maxHeartbeats 4000000 in
theorem lW_X12_text_322 {K : q_K} {Q : State → Prop} (C : q_C K yX12_text cX12_text 4 (Option.some Jvm.ClassFile.FieldType.int) 132 0 0) (l0 : Nat) (n : Nat) : ∀ (l3 : Int32) (M : q_Mem) (e : (q_Mem)), q_lp (fun s => B_X12_text_322 l0 s.1 s.2) n (l3, M) = some e → (∀ (M : q_Mem), e = M → q_W K 4 Q 0 0 M 376 [some (.ref l0), none, none, none] []) → q_W K 4 Q 0 0 M 322 [some (.ref l0), none, none, some (.int l3)] [] := by
  induction n with
  | zero => intro l3 M e h; cases h
  | succ n ih =>
    intro l3 M e h kE0
    obtain ⟨stp, e1, e2⟩ := q_bind h
    refine bW_X12_text_322 C l0 l3 M e1 (fun a0 a1 hs => ?_) (fun b0 hs => ?_)
    · subst hs; exact ih _ _ _ e2 kE0
    · subst hs; exact kE0 _ (Option.some.inj e2).symm
noncomputable def J_X12_text_43 (l0 : Nat) (l1 : Int32) (M : q_Mem) : Option (Int32 × q_Mem) := (q_ob M l0 12 ((F_X12_fault l0 l1 M).bind (fun x => match x with | (u5, M6) => (if u5 = (-1 : Int32) then (q_gI M6 l0 12 6 (fun v7 => (q_pI M6 l0 12 6 (0 : Int32) (fun M8 => (if l1 = (1 : Int32) then (q_lp (fun s => B_X12_text_71 l0 v7 s.1 s.2) q_fu ((0 : Int32), M8)).bind (fun e16 => match e16 with | M17 => (q_gR M17 l0 12 3 (fun c18 => q_nn c18 (fun r19 => (q_gI M17 l0 12 7 (fun v20 => (q_tI M17 r19 v20 v7 (fun M21 => (q_gI M21 l0 12 7 (fun v22 => (q_pI M21 l0 12 7 (v22 + (1 : Int32)) (fun M23 => (q_gI M23 l0 12 7 (fun v24 => some ((v24 - (1 : Int32)), M23))))))))))))))) else (if l1 = (2 : Int32) then (q_lp (fun s => B_X12_text_137 l0 s.1 s.2) q_fu ((0 : Int32), M8)).bind (fun e32 => match e32 with | M33 => (q_gR M33 l0 12 25 (fun c34 => q_nn c34 (fun r35 => (q_gI M33 l0 12 30 (fun v36 => (q_gR M33 l0 12 25 (fun c37 => q_nn c37 (fun r38 => (q_lI M33 0 r38 (4 : Int32) (fun v39 => (q_tI M33 r35 v36 v39 (fun M40 => (q_gI M40 l0 12 30 (fun v41 => (q_pI M40 l0 12 30 (v41 + (1 : Int32)) (fun M42 => (q_gI M42 l0 12 30 (fun v43 => some ((v43 - (1 : Int32)), M42)))))))))))))))))))) else (q_gI M8 l0 12 28 (fun v44 => (q_pI M8 l0 12 26 v44 (fun M45 => (q_gI M45 l0 12 29 (fun v46 => (q_pI M45 l0 12 27 v46 (fun M47 => (q_lp (fun s => B_X12_text_223 l0 s.1 s.2) q_fu ((0 : Int32), M47)).bind (fun e54 => match e54 with | M55 => (q_lp (fun s => B_X12_text_248 l0 s.1 s.2) q_fu ((0 : Int32), M55)).bind (fun e62 => match e62 with | M63 => (q_lp (fun s => B_X12_text_274 l0 s.1 s.2) q_fu ((0 : Int32), M63)).bind (fun e70 => match e70 with | M71 => (q_lp (fun s => B_X12_text_300 l0 s.1 s.2) q_fu ((0 : Int32), M71)).bind (fun e75 => match e75 with | M76 => (q_lp (fun s => B_X12_text_322 l0 s.1 s.2) q_fu ((0 : Int32), M76)).bind (fun e90 => match e90 with | M91 => (q_gR M91 l0 12 32 (fun c92 => q_nn c92 (fun r93 => (q_gR M91 l0 12 18 (fun c94 => q_nn c94 (fun r95 => (q_lI M91 0 r95 (0 : Int32) (fun v96 => (q_tI M91 r93 (32 : Int32) v96 (fun M97 => (q_gR M97 l0 12 32 (fun c98 => q_nn c98 (fun r99 => (q_gR M97 l0 12 18 (fun c100 => q_nn c100 (fun r101 => (q_lI M97 0 r101 (2 : Int32) (fun v102 => (q_tI M97 r99 (33 : Int32) v102 (fun M103 => (q_pI M103 l0 12 45 (0 : Int32) (fun M104 => (q_pI M104 l0 12 42 (0 : Int32) (fun M105 => (q_pZ M105 l0 12 49 (0 : Int32) (fun M106 => (q_gI M106 l0 12 27 (fun v107 => some (v107, M106)))))))))))))))))))))))))))))))))))))))))))))))) else some ((-1 : Int32), M6)))))
set_option maxRecDepth 100000 in
set_option maxHeartbeats 4000000 in
theorem jW_X12_text_43 {K : q_K} (C : q_C K yX12_text cX12_text 4 (Option.some Jvm.ClassFile.FieldType.int) 132 0 0) (l0 : Nat) (l1 : Int32) (M : q_Mem) {r : Int32} {M' : q_Mem} (h : J_X12_text_43 l0 l1 M = some (r, M')) : q_W K 4 (q_Q K (some (.int r)) M' 0 0) 0 0 M 43 [some (.ref l0), some (.int l1), none, none] [] := by
  unfold J_X12_text_43 at h
  refine q_aload_n C dX12_text_43 rfl ?_
  refine q_iload_n C dX12_text_44 rfl ?_
  obtain ⟨hk, h⟩ := q_obE h
  obtain ⟨⟨u5, M6⟩, e1, h⟩ := q_bind h
  refine x_callV0 C dX12_text_45 lkM_X12_282 mV_X12_fault ⟨_, rfl, rfl⟩ hk (c_X12_fault _ _ _ _ _ e1) rfl rfl (Nat.le_of_ble_eq_true rfl) (by decide) (by decide) ?_
  refine x_iconst (v := (-1 : Int32)) C dX12_text_48 (by decide) ?_
  refine q_icmp_eq (tgt := 54) C dX12_text_49 (by decide) h (fun _ h => ?_) (fun _ h => ?_)
  · refine q_aload_n C dX12_text_54 rfl ?_
    refine x_getI (ci := 12) (j := 6) C dX12_text_55 lkF_X12_105 rfl h (fun v7 h => ?_)
    refine q_istore_n (L' := [some (.ref l0), some (.int l1), some (.int v7), none]) C dX12_text_58 (by decide) rfl rfl ?_
    refine q_aload_n C dX12_text_59 rfl ?_
    refine x_iconst (v := (0 : Int32)) C dX12_text_60 (by decide) ?_
    refine x_putI (ci := 12) (j := 6) C dX12_text_61 lkF_X12_105 (fun r hr => by cases hr; rfl) rfl h (fun M8 h => ?_)
    refine q_iload_n C dX12_text_64 rfl ?_
    refine x_iconst (v := (1 : Int32)) C dX12_text_65 (by decide) ?_
    refine q_icmp_ne (tgt := 130) C dX12_text_66 (by decide) h (fun _ h => ?_) (fun _ h => ?_)
    · refine x_iconst (v := (0 : Int32)) C dX12_text_69 (by decide) ?_
      refine q_istore_n (L' := [some (.ref l0), some (.int l1), some (.int v7), some (.int (0 : Int32))]) C dX12_text_70 (by decide) rfl rfl ?_
      obtain ⟨e16, he, h⟩ := q_bind h
      refine q_msk [true, false, true, true] (lW_X12_text_71 C l0 v7 q_fu _ _ _ he (fun M17 hs => ?_))
      · have hs := hs.symm
        subst hs
        refine q_aload_n C dX12_text_103 rfl ?_
        refine x_getR (ci := 12) (j := 3) C dX12_text_104 lkF_X12_16 rfl h (fun c18 h => ?_)
        refine x_nn h (fun r19 h => ?_)
        refine q_aload_n C dX12_text_107 rfl ?_
        refine x_getI (ci := 12) (j := 7) C dX12_text_108 lkF_X12_276 rfl h (fun v20 h => ?_)
        refine q_iload_n C dX12_text_111 rfl ?_
        refine x_iast C dX12_text_112 h (fun M21 h => ?_)
        refine q_aload_n C dX12_text_113 rfl ?_
        refine q_dup C dX12_text_114 rfl ?_
        refine x_getI (ci := 12) (j := 7) C dX12_text_115 lkF_X12_276 rfl h (fun v22 h => ?_)
        refine x_iconst (v := (1 : Int32)) C dX12_text_118 (by decide) ?_
        refine q_iadd C dX12_text_119 ?_
        refine x_putI (ci := 12) (j := 7) C dX12_text_120 lkF_X12_276 (fun r hr => by cases hr; rfl) rfl h (fun M23 h => ?_)
        refine q_aload_n C dX12_text_123 rfl ?_
        refine x_getI (ci := 12) (j := 7) C dX12_text_124 lkF_X12_276 rfl h (fun v24 h => ?_)
        refine x_iconst (v := (1 : Int32)) C dX12_text_127 (by decide) ?_
        refine q_isub C dX12_text_128 ?_
        exact q_iret C dX12_text_129 rfl (by decide) (by decide) (Option.some.inj h)
    · refine q_iload_n C dX12_text_130 rfl ?_
      refine x_iconst (v := (2 : Int32)) C dX12_text_131 (by decide) ?_
      refine q_icmp_ne (tgt := 205) C dX12_text_132 (by decide) h (fun _ h => ?_) (fun _ h => ?_)
      · refine x_iconst (v := (0 : Int32)) C dX12_text_135 (by decide) ?_
        refine q_istore_n (L' := [some (.ref l0), some (.int l1), some (.int v7), some (.int (0 : Int32))]) C dX12_text_136 (by decide) rfl rfl ?_
        obtain ⟨e32, he, h⟩ := q_bind h
        refine q_msk [true, false, false, true] (lW_X12_text_137 C l0 q_fu _ _ _ he (fun M33 hs => ?_))
        · have hs := hs.symm
          subst hs
          refine q_aload_n C dX12_text_173 rfl ?_
          refine x_getR (ci := 12) (j := 25) C dX12_text_174 lkF_X12_58 rfl h (fun c34 h => ?_)
          refine x_nn h (fun r35 h => ?_)
          refine q_aload_n C dX12_text_177 rfl ?_
          refine x_getI (ci := 12) (j := 30) C dX12_text_178 lkF_X12_279 rfl h (fun v36 h => ?_)
          refine q_aload_n C dX12_text_181 rfl ?_
          refine x_getR (ci := 12) (j := 25) C dX12_text_182 lkF_X12_58 rfl h (fun c37 h => ?_)
          refine x_nn h (fun r38 h => ?_)
          refine x_iconst (v := (4 : Int32)) C dX12_text_185 (by decide) ?_
          refine x_iald C dX12_text_186 h (fun v39 h => ?_)
          refine x_iast C dX12_text_187 h (fun M40 h => ?_)
          refine q_aload_n C dX12_text_188 rfl ?_
          refine q_dup C dX12_text_189 rfl ?_
          refine x_getI (ci := 12) (j := 30) C dX12_text_190 lkF_X12_279 rfl h (fun v41 h => ?_)
          refine x_iconst (v := (1 : Int32)) C dX12_text_193 (by decide) ?_
          refine q_iadd C dX12_text_194 ?_
          refine x_putI (ci := 12) (j := 30) C dX12_text_195 lkF_X12_279 (fun r hr => by cases hr; rfl) rfl h (fun M42 h => ?_)
          refine q_aload_n C dX12_text_198 rfl ?_
          refine x_getI (ci := 12) (j := 30) C dX12_text_199 lkF_X12_279 rfl h (fun v43 h => ?_)
          refine x_iconst (v := (1 : Int32)) C dX12_text_202 (by decide) ?_
          refine q_isub C dX12_text_203 ?_
          exact q_iret C dX12_text_204 rfl (by decide) (by decide) (Option.some.inj h)
      · refine q_aload_n C dX12_text_205 rfl ?_
        refine q_aload_n C dX12_text_206 rfl ?_
        refine x_getI (ci := 12) (j := 28) C dX12_text_207 lkF_X12_238 rfl h (fun v44 h => ?_)
        refine x_putI (ci := 12) (j := 26) C dX12_text_210 lkF_X12_284 (fun r hr => by cases hr; rfl) rfl h (fun M45 h => ?_)
        refine q_aload_n C dX12_text_213 rfl ?_
        refine q_aload_n C dX12_text_214 rfl ?_
        refine x_getI (ci := 12) (j := 29) C dX12_text_215 lkF_X12_241 rfl h (fun v46 h => ?_)
        refine x_putI (ci := 12) (j := 27) C dX12_text_218 lkF_X12_287 (fun r hr => by cases hr; rfl) rfl h (fun M47 h => ?_)
        refine x_iconst (v := (0 : Int32)) C dX12_text_221 (by decide) ?_
        refine q_istore_n (L' := [some (.ref l0), some (.int l1), some (.int v7), some (.int (0 : Int32))]) C dX12_text_222 (by decide) rfl rfl ?_
        obtain ⟨e54, he, h⟩ := q_bind h
        refine q_msk [true, false, false, true] (lW_X12_text_223 C l0 q_fu _ _ _ he (fun M55 hs => ?_))
        · have hs := hs.symm
          subst hs
          refine x_iconst (v := (0 : Int32)) C dX12_text_246 (by decide) ?_
          refine q_istore_n (L' := [some (.ref l0), none, none, some (.int (0 : Int32))]) C dX12_text_247 (by decide) rfl rfl ?_
          obtain ⟨e62, he, h⟩ := q_bind h
          refine q_msk [true, false, false, true] (lW_X12_text_248 C l0 q_fu _ _ _ he (fun M63 hs => ?_))
          · have hs := hs.symm
            subst hs
            refine x_iconst (v := (0 : Int32)) C dX12_text_272 (by decide) ?_
            refine q_istore_n (L' := [some (.ref l0), none, none, some (.int (0 : Int32))]) C dX12_text_273 (by decide) rfl rfl ?_
            obtain ⟨e70, he, h⟩ := q_bind h
            refine q_msk [true, false, false, true] (lW_X12_text_274 C l0 q_fu _ _ _ he (fun M71 hs => ?_))
            · have hs := hs.symm
              subst hs
              refine x_iconst (v := (0 : Int32)) C dX12_text_298 (by decide) ?_
              refine q_istore_n (L' := [some (.ref l0), none, none, some (.int (0 : Int32))]) C dX12_text_299 (by decide) rfl rfl ?_
              obtain ⟨e75, he, h⟩ := q_bind h
              refine q_msk [true, false, false, true] (lW_X12_text_300 C l0 q_fu _ _ _ he (fun M76 hs => ?_))
              · have hs := hs.symm
                subst hs
                refine x_iconst (v := (0 : Int32)) C dX12_text_320 (by decide) ?_
                refine q_istore_n (L' := [some (.ref l0), none, none, some (.int (0 : Int32))]) C dX12_text_321 (by decide) rfl rfl ?_
                obtain ⟨e90, he, h⟩ := q_bind h
                refine q_msk [true, false, false, true] (lW_X12_text_322 C l0 q_fu _ _ _ he (fun M91 hs => ?_))
                · have hs := hs.symm
                  subst hs
                  refine q_aload_n C dX12_text_376 rfl ?_
                  refine x_getR (ci := 12) (j := 32) C dX12_text_377 lkF_X12_61 rfl h (fun c92 h => ?_)
                  refine x_nn h (fun r93 h => ?_)
                  refine x_bipush (v := (32 : Int32)) C dX12_text_380 (by decide) ?_
                  refine q_aload_n C dX12_text_382 rfl ?_
                  refine x_getR (ci := 12) (j := 18) C dX12_text_383 lkF_X12_37 rfl h (fun c94 h => ?_)
                  refine x_nn h (fun r95 h => ?_)
                  refine x_iconst (v := (0 : Int32)) C dX12_text_386 (by decide) ?_
                  refine x_iald C dX12_text_387 h (fun v96 h => ?_)
                  refine x_iast C dX12_text_388 h (fun M97 h => ?_)
                  refine q_aload_n C dX12_text_389 rfl ?_
                  refine x_getR (ci := 12) (j := 32) C dX12_text_390 lkF_X12_61 rfl h (fun c98 h => ?_)
                  refine x_nn h (fun r99 h => ?_)
                  refine x_bipush (v := (33 : Int32)) C dX12_text_393 (by decide) ?_
                  refine q_aload_n C dX12_text_395 rfl ?_
                  refine x_getR (ci := 12) (j := 18) C dX12_text_396 lkF_X12_37 rfl h (fun c100 h => ?_)
                  refine x_nn h (fun r101 h => ?_)
                  refine x_iconst (v := (2 : Int32)) C dX12_text_399 (by decide) ?_
                  refine x_iald C dX12_text_400 h (fun v102 h => ?_)
                  refine x_iast C dX12_text_401 h (fun M103 h => ?_)
                  refine q_aload_n C dX12_text_402 rfl ?_
                  refine x_iconst (v := (0 : Int32)) C dX12_text_403 (by decide) ?_
                  refine x_putI (ci := 12) (j := 45) C dX12_text_404 lkF_X12_290 (fun r hr => by cases hr; rfl) rfl h (fun M104 h => ?_)
                  refine q_aload_n C dX12_text_407 rfl ?_
                  refine x_iconst (v := (0 : Int32)) C dX12_text_408 (by decide) ?_
                  refine x_putI (ci := 12) (j := 42) C dX12_text_409 lkF_X12_293 (fun r hr => by cases hr; rfl) rfl h (fun M105 h => ?_)
                  refine q_aload_n C dX12_text_412 rfl ?_
                  refine x_iconst (v := (0 : Int32)) C dX12_text_413 (by decide) ?_
                  refine x_putZ (ci := 12) (j := 49) C dX12_text_414 lkF_X12_296 (fun r hr => by cases hr; rfl) rfl h (fun M106 h => ?_)
                  refine q_aload_n C dX12_text_417 rfl ?_
                  refine x_getI (ci := 12) (j := 27) C dX12_text_418 lkF_X12_287 rfl h (fun v107 h => ?_)
                  exact q_iret C dX12_text_421 rfl (by decide) (by decide) (Option.some.inj h)
  · refine x_iconst (v := (-1 : Int32)) C dX12_text_52 (by decide) ?_
    exact q_iret C dX12_text_53 rfl (by decide) (by decide) (Option.some.inj h)
noncomputable def J_X12_text_30 (l0 : Nat) (l1 : Int32) (M : q_Mem) : Option (Int32 × q_Mem) := (if l1 = (2 : Int32) then (q_gI M l0 12 30 (fun v4 => (if v4 = (4 : Int32) then some ((-1 : Int32), M) else J_X12_text_43 l0 l1 M))) else J_X12_text_43 l0 l1 M)
set_option maxRecDepth 100000 in
set_option maxHeartbeats 4000000 in
theorem jW_X12_text_30 {K : q_K} (C : q_C K yX12_text cX12_text 4 (Option.some Jvm.ClassFile.FieldType.int) 132 0 0) (l0 : Nat) (l1 : Int32) (M : q_Mem) {r : Int32} {M' : q_Mem} (h : J_X12_text_30 l0 l1 M = some (r, M')) : q_W K 4 (q_Q K (some (.int r)) M' 0 0) 0 0 M 30 [some (.ref l0), some (.int l1), none, none] [] := by
  unfold J_X12_text_30 at h
  refine q_iload_n C dX12_text_30 rfl ?_
  refine x_iconst (v := (2 : Int32)) C dX12_text_31 (by decide) ?_
  refine q_icmp_ne (tgt := 43) C dX12_text_32 (by decide) h (fun _ h => ?_) (fun _ h => ?_)
  · refine q_aload_n C dX12_text_35 rfl ?_
    refine x_getI (ci := 12) (j := 30) C dX12_text_36 lkF_X12_279 rfl h (fun v4 h => ?_)
    refine x_iconst (v := (4 : Int32)) C dX12_text_39 (by decide) ?_
    refine q_icmp_eq (tgt := 52) C dX12_text_40 (by decide) h (fun _ h => ?_) (fun _ h => ?_)
    · refine x_iconst (v := (-1 : Int32)) C dX12_text_52 (by decide) ?_
      exact q_iret C dX12_text_53 rfl (by decide) (by decide) (Option.some.inj h)
    · exact q_msk [true, true, false, false] (jW_X12_text_43 C l0 l1 M h)
  · exact q_msk [true, true, false, false] (jW_X12_text_43 C l0 l1 M h)
noncomputable def F_X12_text (l0 : Nat) (l1 : Int32) (M : q_Mem) : Option (Int32 × q_Mem) := (q_pI M l0 12 0 (0 : Int32) (fun M1 => ((F_X12_isIn l1.toInt64 (0 : Int64) (2 : Int64) M1).bind (fun u2 => (if u2 = 0 then some ((-1 : Int32), M1) else (if l1 = (1 : Int32) then (q_gI M1 l0 12 7 (fun v3 => (if v3 = (4 : Int32) then some ((-1 : Int32), M1) else J_X12_text_30 l0 l1 M1))) else J_X12_text_30 l0 l1 M1))))))
set_option maxRecDepth 100000 in
set_option maxHeartbeats 4000000 in
theorem c_X12_text (l : Launch) (G : q_G) (l0 : Nat) (l1 : Int32) (M : q_Mem) {r : Int32} {M' : q_Mem} (h : F_X12_text l0 l1 M = some (r, M')) : q_Met l G yX12_text cX12_text 4 (Option.some Jvm.ClassFile.FieldType.int) 132 0 0 [.ref l0, .int l1] M (some (.int r)) M' := by
  unfold F_X12_text at h
  refine q_enter [some (.ref l0), some (.int l1), none, none] (by decide) (Nat.le_of_ble_eq_true rfl) rfl (fun K C => ?_)
  refine q_aload_n C dX12_text_0 rfl ?_
  refine x_iconst (v := (0 : Int32)) C dX12_text_1 (by decide) ?_
  refine x_putI (ci := 12) (j := 0) C dX12_text_2 lkF_X12_92 (fun r hr => by cases hr; rfl) rfl h (fun M1 h => ?_)
  refine q_iload_n C dX12_text_5 rfl ?_
  refine q_i2l C dX12_text_6 ?_
  refine x_lconst (v := (0 : Int64)) C dX12_text_7 (by decide) ?_
  refine q_ldc2 (v := (2 : Int64)) C dX12_text_8 wd_1373 ?_
  obtain ⟨u2, e1, h⟩ := q_bind h
  refine x_callS0 C dX12_text_11 lkM_X12_213 mS_X12_isIn (c_X12_isIn _ _ _ _ _ _ e1) rfl rfl (Nat.le_of_ble_eq_true rfl) (by decide) (by decide) ?_
  refine q_if_eq (tgt := 52) C dX12_text_14 (by decide) h (fun _ h => ?_) (fun _ h => ?_)
  · refine x_iconst (v := (-1 : Int32)) C dX12_text_52 (by decide) ?_
    exact q_iret C dX12_text_53 rfl (by decide) (by decide) (Option.some.inj h)
  · refine q_iload_n C dX12_text_17 rfl ?_
    refine x_iconst (v := (1 : Int32)) C dX12_text_18 (by decide) ?_
    refine q_icmp_ne (tgt := 30) C dX12_text_19 (by decide) h (fun _ h => ?_) (fun _ h => ?_)
    · refine q_aload_n C dX12_text_22 rfl ?_
      refine x_getI (ci := 12) (j := 7) C dX12_text_23 lkF_X12_276 rfl h (fun v3 h => ?_)
      refine x_iconst (v := (4 : Int32)) C dX12_text_26 (by decide) ?_
      refine q_icmp_eq (tgt := 52) C dX12_text_27 (by decide) h (fun _ h => ?_) (fun _ h => ?_)
      · refine x_iconst (v := (-1 : Int32)) C dX12_text_52 (by decide) ?_
        exact q_iret C dX12_text_53 rfl (by decide) (by decide) (Option.some.inj h)
      · exact q_msk [true, true, false, false] (jW_X12_text_30 C l0 l1 M1 h)
    · exact q_msk [true, true, false, false] (jW_X12_text_30 C l0 l1 M1 h)
