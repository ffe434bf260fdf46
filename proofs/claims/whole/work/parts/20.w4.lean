noncomputable def J_X12_goDay_198_45 (l0 : Nat) (l1 : Nat) (l2 : Int32) (l3 : Int32) (M : q_Mem) : Option ((Int32 × q_Mem) ⊕ (q_Mem)) := some (.inl ((l3 + (1 : Int32)), M))
set_option maxRecDepth 100000 in
set_option maxHeartbeats 4000000 in
theorem jW_X12_goDay_198_45 {K : q_K} {Q : State → Prop} (C : q_C K yX12_goDay cX12_goDay 6 (Option.some Jvm.ClassFile.FieldType.int) 134 2 0) (l0 : Nat) (l1 : Nat) (l2 : Int32) (l3 : Int32) (M : q_Mem) {stp : (Int32 × q_Mem) ⊕ (q_Mem)} (h : J_X12_goDay_198_45 l0 l1 l2 l3 M = some stp) (kC : ∀ (l3 : Int32) (M : q_Mem), stp = .inl (l3, M) → q_W K 6 Q 0 0 M 45 [some (.ref l0), some (.ref l1), some (.int l2), some (.int l3), none, none] []) (kE0 : ∀ (M : q_Mem), stp = .inr M → q_W K 6 Q 0 0 M 204 [some (.ref l0), some (.ref l1), none, none, none, none] []) : q_W K 6 Q 0 0 M 198 [some (.ref l0), some (.ref l1), some (.int l2), some (.int l3), none, none] [] := by
  unfold J_X12_goDay_198_45 at h
  refine x_iinc (w := (1 : Int32)) (L' := [some (.ref l0), some (.ref l1), some (.int l2), some (.int (l3 + (1 : Int32))), none, none]) C dX12_goDay_198 rfl (by decide) (by decide) rfl rfl ?_
  refine q_goto (tgt := 45) C dX12_goDay_201 (by decide) ?_
  exact q_msk [true, true, true, true, false, false] (kC _ _ (Option.some.inj h).symm)
noncomputable def J_X12_goDay_95_45 (l0 : Nat) (l1 : Nat) (l2 : Int32) (l3 : Int32) (s0 : Int32) (M : q_Mem) : Option ((Int32 × q_Mem) ⊕ (q_Mem)) := (q_lI M 0 l1 (((4 : Int32) * l3) + (2 : Int32)) (fun v14 => (q_gI M l0 12 38 (fun v15 => (q_gR M l0 12 36 (fun c16 => q_nn c16 (fun r17 => (q_lI M 0 r17 l3 (fun v18 => (q_lI M 0 l1 (35 : Int32) (fun v19 => (q_ob M l0 12 ((F_X12_comes l0 l3 M).bind (fun u20 => (q_lI M 0 l1 (35 : Int32) (fun v21 => (q_ob M l0 12 ((F_X12_joyOf l0 l3 v15 s0 v18 (v19 - u20) v21 M).bind (fun x => match x with | (u22, M23) => (q_tI M23 l1 (((4 : Int32) * l3) + (2 : Int32)) (q_mx (-99 : Int32) (q_mn (999 : Int32) (v14 + u22))) (fun M24 => (q_lI M24 0 l1 (33 : Int32) (fun v25 => (q_ob M24 l0 12 ((F_X12_pays l0 l3 M24).bind (fun u26 => (q_tI M24 l1 (33 : Int32) (q_mn (999 : Int32) (v25 + u26)) (fun M27 => (q_lI M27 0 l1 (((4 : Int32) * l3) + (2 : Int32)) (fun v28 => (if (-10 : Int32) < v28 then J_X12_goDay_198_45 l0 l1 l2 l3 M27 else (q_tI M27 l1 (((4 : Int32) * l3) + (3 : Int32)) (1 : Int32) (fun M29 => J_X12_goDay_198_45 l0 l1 l2 l3 M29)))))))))))))))))))))))))))))))))
set_option maxRecDepth 100000 in
set_option maxHeartbeats 4000000 in
theorem jW_X12_goDay_95_45 {K : q_K} {Q : State → Prop} (C : q_C K yX12_goDay cX12_goDay 6 (Option.some Jvm.ClassFile.FieldType.int) 134 2 0) (l0 : Nat) (l1 : Nat) (l2 : Int32) (l3 : Int32) (s0 : Int32) (M : q_Mem) {stp : (Int32 × q_Mem) ⊕ (q_Mem)} (h : J_X12_goDay_95_45 l0 l1 l2 l3 s0 M = some stp) (kC : ∀ (l3 : Int32) (M : q_Mem), stp = .inl (l3, M) → q_W K 6 Q 0 0 M 45 [some (.ref l0), some (.ref l1), some (.int l2), some (.int l3), none, none] []) (kE0 : ∀ (M : q_Mem), stp = .inr M → q_W K 6 Q 0 0 M 204 [some (.ref l0), some (.ref l1), none, none, none, none] []) : q_W K 6 Q 0 0 M 95 [some (.ref l0), some (.ref l1), some (.int l2), some (.int l3), none, none] [.int s0] := by
  unfold J_X12_goDay_95_45 at h
  refine q_istore (L' := [some (.ref l0), some (.ref l1), some (.int l2), some (.int l3), some (.int s0), none]) C dX12_goDay_95 (by decide) rfl rfl ?_
  refine q_aload_n C dX12_goDay_97 rfl ?_
  refine x_iconst (v := (4 : Int32)) C dX12_goDay_98 (by decide) ?_
  refine q_iload_n C dX12_goDay_99 rfl ?_
  refine q_imul C dX12_goDay_100 ?_
  refine x_iconst (v := (2 : Int32)) C dX12_goDay_101 (by decide) ?_
  refine q_iadd C dX12_goDay_102 ?_
  refine x_iald C dX12_goDay_103 h (fun v14 h => ?_)
  refine q_aload_n C dX12_goDay_104 rfl ?_
  refine q_iload_n C dX12_goDay_105 rfl ?_
  refine q_aload_n C dX12_goDay_106 rfl ?_
  refine x_getI (ci := 12) (j := 38) C dX12_goDay_107 lkF_X12_319 rfl h (fun v15 h => ?_)
  refine q_iload C dX12_goDay_110 rfl ?_
  refine q_aload_n C dX12_goDay_112 rfl ?_
  refine x_getR (ci := 12) (j := 36) C dX12_goDay_113 lkF_X12_74 rfl h (fun c16 h => ?_)
  refine x_nn h (fun r17 h => ?_)
  refine q_iload_n C dX12_goDay_116 rfl ?_
  refine x_iald C dX12_goDay_117 h (fun v18 h => ?_)
  refine q_aload_n C dX12_goDay_118 rfl ?_
  refine x_bipush (v := (35 : Int32)) C dX12_goDay_119 (by decide) ?_
  refine x_iald C dX12_goDay_121 h (fun v19 h => ?_)
  refine q_aload_n C dX12_goDay_122 rfl ?_
  refine q_iload_n C dX12_goDay_123 rfl ?_
  obtain ⟨hk, h⟩ := q_obE h
  obtain ⟨u20, e1, h⟩ := q_bind h
  refine x_callV0 C dX12_goDay_124 lkM_X12_299 mV_X12_comes ⟨_, rfl, rfl⟩ hk (c_X12_comes _ _ _ _ _ e1) rfl rfl (Nat.le_of_ble_eq_true rfl) (by decide) (by decide) ?_
  refine q_isub C dX12_goDay_127 ?_
  refine q_aload_n C dX12_goDay_128 rfl ?_
  refine x_bipush (v := (35 : Int32)) C dX12_goDay_129 (by decide) ?_
  refine x_iald C dX12_goDay_131 h (fun v21 h => ?_)
  obtain ⟨hk, h⟩ := q_obE h
  obtain ⟨⟨u22, M23⟩, e1, h⟩ := q_bind h
  refine x_callV C dX12_goDay_132 lkM_X12_347 mV_X12_joyOf ⟨_, rfl, rfl⟩ hk (c_X12_joyOf _ _ _ _ _ _ _ _ _ _ e1) rfl rfl (Nat.le_of_ble_eq_true rfl) (by decide) (by decide) ?_
  refine q_iadd C dX12_goDay_135 ?_
  refine q_istore (L' := [some (.ref l0), some (.ref l1), some (.int l2), some (.int l3), some (.int s0), some (.int (v14 + u22))]) C dX12_goDay_136 (by decide) rfl rfl ?_
  refine q_aload_n C dX12_goDay_138 rfl ?_
  refine x_iconst (v := (4 : Int32)) C dX12_goDay_139 (by decide) ?_
  refine q_iload_n C dX12_goDay_140 rfl ?_
  refine q_imul C dX12_goDay_141 ?_
  refine x_iconst (v := (2 : Int32)) C dX12_goDay_142 (by decide) ?_
  refine q_iadd C dX12_goDay_143 ?_
  refine x_bipush (v := (-99 : Int32)) C dX12_goDay_144 (by decide) ?_
  refine x_sipush (v := (999 : Int32)) C dX12_goDay_146 (by decide) ?_
  refine q_iload C dX12_goDay_149 rfl ?_
  refine q_min C dX12_goDay_151 wd_1608 wd_473 wd_15 wd_474 (by decide) (Nat.le_of_ble_eq_true rfl) (by decide) ?_
  refine q_max C dX12_goDay_154 wd_1599 wd_470 wd_15 wd_471 (by decide) (Nat.le_of_ble_eq_true rfl) (by decide) ?_
  refine x_iast C dX12_goDay_157 h (fun M24 h => ?_)
  refine q_aload_n C dX12_goDay_158 rfl ?_
  refine x_bipush (v := (33 : Int32)) C dX12_goDay_159 (by decide) ?_
  refine x_sipush (v := (999 : Int32)) C dX12_goDay_161 (by decide) ?_
  refine q_aload_n C dX12_goDay_164 rfl ?_
  refine x_bipush (v := (33 : Int32)) C dX12_goDay_165 (by decide) ?_
  refine x_iald C dX12_goDay_167 h (fun v25 h => ?_)
  refine q_aload_n C dX12_goDay_168 rfl ?_
  refine q_iload_n C dX12_goDay_169 rfl ?_
  obtain ⟨hk, h⟩ := q_obE h
  obtain ⟨u26, e1, h⟩ := q_bind h
  refine x_callV0 C dX12_goDay_170 lkM_X12_306 mV_X12_pays ⟨_, rfl, rfl⟩ hk (c_X12_pays _ _ _ _ _ e1) rfl rfl (Nat.le_of_ble_eq_true rfl) (by decide) (by decide) ?_
  refine q_iadd C dX12_goDay_173 ?_
  refine q_min C dX12_goDay_174 wd_1608 wd_473 wd_15 wd_474 (by decide) (Nat.le_of_ble_eq_true rfl) (by decide) ?_
  refine x_iast C dX12_goDay_177 h (fun M27 h => ?_)
  refine q_aload_n C dX12_goDay_178 rfl ?_
  refine x_iconst (v := (4 : Int32)) C dX12_goDay_179 (by decide) ?_
  refine q_iload_n C dX12_goDay_180 rfl ?_
  refine q_imul C dX12_goDay_181 ?_
  refine x_iconst (v := (2 : Int32)) C dX12_goDay_182 (by decide) ?_
  refine q_iadd C dX12_goDay_183 ?_
  refine x_iald C dX12_goDay_184 h (fun v28 h => ?_)
  refine x_bipush (v := (-10 : Int32)) C dX12_goDay_185 (by decide) ?_
  refine q_icmp_gt (tgt := 198) C dX12_goDay_187 (by decide) h (fun _ h => ?_) (fun _ h => ?_)
  · exact q_msk [true, true, true, true, false, false] (jW_X12_goDay_198_45 C l0 l1 l2 l3 M27 h kC kE0)
  · refine q_aload_n C dX12_goDay_190 rfl ?_
    refine x_iconst (v := (4 : Int32)) C dX12_goDay_191 (by decide) ?_
    refine q_iload_n C dX12_goDay_192 rfl ?_
    refine q_imul C dX12_goDay_193 ?_
    refine x_iconst (v := (3 : Int32)) C dX12_goDay_194 (by decide) ?_
    refine q_iadd C dX12_goDay_195 ?_
    refine x_iconst (v := (1 : Int32)) C dX12_goDay_196 (by decide) ?_
    refine x_iast C dX12_goDay_197 h (fun M29 h => ?_)
    exact q_msk [true, true, true, true, false, false] (jW_X12_goDay_198_45 C l0 l1 l2 l3 M29 h kC kE0)
noncomputable def J_X12_goDay_94_45 (l0 : Nat) (l1 : Nat) (l2 : Int32) (l3 : Int32) (M : q_Mem) : Option ((Int32 × q_Mem) ⊕ (q_Mem)) := J_X12_goDay_95_45 l0 l1 l2 l3 (0 : Int32) M
set_option maxRecDepth 100000 in
set_option maxHeartbeats 4000000 in
theorem jW_X12_goDay_94_45 {K : q_K} {Q : State → Prop} (C : q_C K yX12_goDay cX12_goDay 6 (Option.some Jvm.ClassFile.FieldType.int) 134 2 0) (l0 : Nat) (l1 : Nat) (l2 : Int32) (l3 : Int32) (M : q_Mem) {stp : (Int32 × q_Mem) ⊕ (q_Mem)} (h : J_X12_goDay_94_45 l0 l1 l2 l3 M = some stp) (kC : ∀ (l3 : Int32) (M : q_Mem), stp = .inl (l3, M) → q_W K 6 Q 0 0 M 45 [some (.ref l0), some (.ref l1), some (.int l2), some (.int l3), none, none] []) (kE0 : ∀ (M : q_Mem), stp = .inr M → q_W K 6 Q 0 0 M 204 [some (.ref l0), some (.ref l1), none, none, none, none] []) : q_W K 6 Q 0 0 M 94 [some (.ref l0), some (.ref l1), some (.int l2), some (.int l3), none, none] [] := by
  unfold J_X12_goDay_94_45 at h
  refine x_iconst (v := (0 : Int32)) C dX12_goDay_94 (by decide) ?_
  exact q_msk [true, true, true, true, false, false] (jW_X12_goDay_95_45 C l0 l1 l2 l3 (0 : Int32) M h kC kE0)
noncomputable def B_X12_goDay_45 (l0 : Nat) (l1 : Nat) (l2 : Int32) (l3 : Int32) (M : q_Mem) : Option ((Int32 × q_Mem) ⊕ (q_Mem)) := (q_gI M l0 12 27 (fun v11 => (if l3 < v11 then ((F_X12_has l2 l3 M).bind (fun u12 => (if u12 = 0 then J_X12_goDay_198_45 l0 l1 l2 l3 M else (q_gI M l0 12 37 (fun v13 => (if v13 = (-1 : Int32) then J_X12_goDay_94_45 l0 l1 l2 l3 M else (q_gI M l0 12 37 (fun v30 => (q_ob M l0 12 ((F_X12_kindOf l0 v30 M).bind (fun u31 => (q_lI M 0 l1 (((4 : Int32) * l3) + (1 : Int32)) (fun v32 => (if u31 = v32 then J_X12_goDay_95_45 l0 l1 l2 l3 (1 : Int32) M else J_X12_goDay_94_45 l0 l1 l2 l3 M)))))))))))))) else some (.inr M))))
set_option maxRecDepth 100000 in
set_option maxHeartbeats 4000000 in
theorem bW_X12_goDay_45 {K : q_K} {Q : State → Prop} (C : q_C K yX12_goDay cX12_goDay 6 (Option.some Jvm.ClassFile.FieldType.int) 134 2 0) (l0 : Nat) (l1 : Nat) (l2 : Int32) (l3 : Int32) (M : q_Mem) {stp : (Int32 × q_Mem) ⊕ (q_Mem)} (h : B_X12_goDay_45 l0 l1 l2 l3 M = some stp) (kC : ∀ (l3 : Int32) (M : q_Mem), stp = .inl (l3, M) → q_W K 6 Q 0 0 M 45 [some (.ref l0), some (.ref l1), some (.int l2), some (.int l3), none, none] []) (kE0 : ∀ (M : q_Mem), stp = .inr M → q_W K 6 Q 0 0 M 204 [some (.ref l0), some (.ref l1), none, none, none, none] []) : q_W K 6 Q 0 0 M 45 [some (.ref l0), some (.ref l1), some (.int l2), some (.int l3), none, none] [] := by
  unfold B_X12_goDay_45 at h
  refine q_iload_n C dX12_goDay_45 rfl ?_
  refine q_aload_n C dX12_goDay_46 rfl ?_
  refine x_getI (ci := 12) (j := 27) C dX12_goDay_47 lkF_X12_287 rfl h (fun v11 h => ?_)
  refine q_icmp_ge (tgt := 204) C dX12_goDay_50 (by decide) h (fun _ h => ?_) (fun _ h => ?_)
  · refine q_iload_n C dX12_goDay_53 rfl ?_
    refine q_iload_n C dX12_goDay_54 rfl ?_
    obtain ⟨u12, e1, h⟩ := q_bind h
    refine x_callS0 C dX12_goDay_55 lkM_X12_225 mS_X12_has (c_X12_has _ _ _ _ _ e1) rfl rfl (Nat.le_of_ble_eq_true rfl) (by decide) (by decide) ?_
    refine q_if_ne (tgt := 64) C dX12_goDay_58 (by decide) h (fun _ h => ?_) (fun _ h => ?_)
    · refine q_goto (tgt := 198) C dX12_goDay_61 (by decide) ?_
      exact q_msk [true, true, true, true, false, false] (jW_X12_goDay_198_45 C l0 l1 l2 l3 M h kC kE0)
    · refine q_aload_n C dX12_goDay_64 rfl ?_
      refine x_getI (ci := 12) (j := 37) C dX12_goDay_65 lkF_X12_313 rfl h (fun v13 h => ?_)
      refine x_iconst (v := (-1 : Int32)) C dX12_goDay_68 (by decide) ?_
      refine q_icmp_eq (tgt := 94) C dX12_goDay_69 (by decide) h (fun _ h => ?_) (fun _ h => ?_)
      · exact q_msk [true, true, true, true, false, false] (jW_X12_goDay_94_45 C l0 l1 l2 l3 M h kC kE0)
      · refine q_aload_n C dX12_goDay_72 rfl ?_
        refine q_aload_n C dX12_goDay_73 rfl ?_
        refine x_getI (ci := 12) (j := 37) C dX12_goDay_74 lkF_X12_313 rfl h (fun v30 h => ?_)
        obtain ⟨hk, h⟩ := q_obE h
        obtain ⟨u31, e1, h⟩ := q_bind h
        refine x_callV0 C dX12_goDay_77 lkM_X12_344 mV_X12_kindOf ⟨_, rfl, rfl⟩ hk (c_X12_kindOf _ _ _ _ _ e1) rfl rfl (Nat.le_of_ble_eq_true rfl) (by decide) (by decide) ?_
        refine q_aload_n C dX12_goDay_80 rfl ?_
        refine x_iconst (v := (4 : Int32)) C dX12_goDay_81 (by decide) ?_
        refine q_iload_n C dX12_goDay_82 rfl ?_
        refine q_imul C dX12_goDay_83 ?_
        refine x_iconst (v := (1 : Int32)) C dX12_goDay_84 (by decide) ?_
        refine q_iadd C dX12_goDay_85 ?_
        refine x_iald C dX12_goDay_86 h (fun v32 h => ?_)
        refine q_icmp_ne (tgt := 94) C dX12_goDay_87 (by decide) h (fun _ h => ?_) (fun _ h => ?_)
        · refine x_iconst (v := (1 : Int32)) C dX12_goDay_90 (by decide) ?_
          refine q_goto (tgt := 95) C dX12_goDay_91 (by decide) ?_
          exact q_msk [true, true, true, true, false, false] (jW_X12_goDay_95_45 C l0 l1 l2 l3 (1 : Int32) M h kC kE0)
        · exact q_msk [true, true, true, true, false, false] (jW_X12_goDay_94_45 C l0 l1 l2 l3 M h kC kE0)
  · exact q_msk [true, true, false, false, false, false] (kE0 _ (Option.some.inj h).symm)
set_option maxRecDepth 100000 in
set_option maxHeartbeats 4000000 in
theorem lW_X12_goDay_45 {K : q_K} {Q : State → Prop} (C : q_C K yX12_goDay cX12_goDay 6 (Option.some Jvm.ClassFile.FieldType.int) 134 2 0) (l0 : Nat) (l1 : Nat) (l2 : Int32) (n : Nat) : ∀ (l3 : Int32) (M : q_Mem) (e : (q_Mem)), q_lp (fun s => B_X12_goDay_45 l0 l1 l2 s.1 s.2) n (l3, M) = some e → (∀ (M : q_Mem), e = M → q_W K 6 Q 0 0 M 204 [some (.ref l0), some (.ref l1), none, none, none, none] []) → q_W K 6 Q 0 0 M 45 [some (.ref l0), some (.ref l1), some (.int l2), some (.int l3), none, none] [] := by
  induction n with
  | zero => intro l3 M e h; cases h
  | succ n ih =>
    intro l3 M e h kE0
    obtain ⟨stp, e1, e2⟩ := q_bind h
    refine bW_X12_goDay_45 C l0 l1 l2 l3 M e1 (fun a0 a1 hs => ?_) (fun b0 hs => ?_)
    · subst hs; exact ih _ _ _ e2 kE0
    · subst hs; exact kE0 _ (Option.some.inj e2).symm
noncomputable def B_X12_goDay_228 (l0 : Nat) (l1 : Nat) (l3 : Int32) (M : q_Mem) : Option ((Int32 × q_Mem) ⊕ (q_Mem)) := (if (177 : Int32) < l3 then some (.inr M) else (q_lI M 0 l1 (((36 : Int32) + l3) + (3 : Int32)) (fun v39 => (q_tI M l1 ((36 : Int32) + l3) v39 (fun M40 => some (.inl ((l3 + (1 : Int32)), M40)))))))
set_option maxRecDepth 100000 in
set_option maxHeartbeats 4000000 in
theorem bW_X12_goDay_228 {K : q_K} {Q : State → Prop} (C : q_C K yX12_goDay cX12_goDay 6 (Option.some Jvm.ClassFile.FieldType.int) 134 2 0) (l0 : Nat) (l1 : Nat) (l3 : Int32) (M : q_Mem) {stp : (Int32 × q_Mem) ⊕ (q_Mem)} (h : B_X12_goDay_228 l0 l1 l3 M = some stp) (kC : ∀ (l3 : Int32) (M : q_Mem), stp = .inl (l3, M) → q_W K 6 Q 0 0 M 228 [some (.ref l0), some (.ref l1), none, some (.int l3), none, none] []) (kE0 : ∀ (M : q_Mem), stp = .inr M → q_W K 6 Q 0 0 M 255 [some (.ref l0), some (.ref l1), none, none, none, none] []) : q_W K 6 Q 0 0 M 228 [some (.ref l0), some (.ref l1), none, some (.int l3), none, none] [] := by
  unfold B_X12_goDay_228 at h
  refine q_iload_n C dX12_goDay_228 rfl ?_
  refine x_sipush (v := (177 : Int32)) C dX12_goDay_229 (by decide) ?_
  refine q_icmp_gt (tgt := 255) C dX12_goDay_232 (by decide) h (fun _ h => ?_) (fun _ h => ?_)
  · exact q_msk [true, true, false, false, false, false] (kE0 _ (Option.some.inj h).symm)
  · refine q_aload_n C dX12_goDay_235 rfl ?_
    refine x_bipush (v := (36 : Int32)) C dX12_goDay_236 (by decide) ?_
    refine q_iload_n C dX12_goDay_238 rfl ?_
    refine q_iadd C dX12_goDay_239 ?_
    refine q_aload_n C dX12_goDay_240 rfl ?_
    refine x_bipush (v := (36 : Int32)) C dX12_goDay_241 (by decide) ?_
    refine q_iload_n C dX12_goDay_243 rfl ?_
    refine q_iadd C dX12_goDay_244 ?_
    refine x_iconst (v := (3 : Int32)) C dX12_goDay_245 (by decide) ?_
    refine q_iadd C dX12_goDay_246 ?_
    refine x_iald C dX12_goDay_247 h (fun v39 h => ?_)
    refine x_iast C dX12_goDay_248 h (fun M40 h => ?_)
    refine x_iinc (w := (1 : Int32)) (L' := [some (.ref l0), some (.ref l1), none, some (.int (l3 + (1 : Int32))), none, none]) C dX12_goDay_249 rfl (by decide) (by decide) rfl rfl ?_
    refine q_goto (tgt := 228) C dX12_goDay_252 (by decide) ?_
    exact q_msk [true, true, false, true, false, false] (kC _ _ (Option.some.inj h).symm)
set_option maxRecDepth 100000 in
set_option maxHeartbeats 4000000 in
theorem lW_X12_goDay_228 {K : q_K} {Q : State → Prop} (C : q_C K yX12_goDay cX12_goDay 6 (Option.some Jvm.ClassFile.FieldType.int) 134 2 0) (l0 : Nat) (l1 : Nat) (n : Nat) : ∀ (l3 : Int32) (M : q_Mem) (e : (q_Mem)), q_lp (fun s => B_X12_goDay_228 l0 l1 s.1 s.2) n (l3, M) = some e → (∀ (M : q_Mem), e = M → q_W K 6 Q 0 0 M 255 [some (.ref l0), some (.ref l1), none, none, none, none] []) → q_W K 6 Q 0 0 M 228 [some (.ref l0), some (.ref l1), none, some (.int l3), none, none] [] := by
  induction n with
  | zero => intro l3 M e h; cases h
  | succ n ih =>
    intro l3 M e h kE0
    obtain ⟨stp, e1, e2⟩ := q_bind h
    refine bW_X12_goDay_228 C l0 l1 l3 M e1 (fun a0 a1 hs => ?_) (fun b0 hs => ?_)
    · subst hs; exact ih _ _ _ e2 kE0
    · subst hs; exact kE0 _ (Option.some.inj e2).symm
noncomputable def J_X12_goDay_263 (l0 : Nat) (l1 : Nat) (M : q_Mem) : Option (Int32 × q_Mem) := (q_lI M 0 l1 (36 : Int32) (fun v45 => (q_gI M l0 12 37 (fun v46 => (q_tI M l1 ((37 : Int32) + ((3 : Int32) * v45)) v46 (fun M47 => (q_ob M47 l0 12 ((F_X12_fedBits l0 M47).bind (fun u48 => (q_tI M47 l1 (((37 : Int32) + ((3 : Int32) * v45)) + (1 : Int32)) u48 (fun M49 => (q_ob M49 l0 12 ((F_X12_joys l0 l1 M49).bind (fun u50 => (q_tI M49 l1 (((37 : Int32) + ((3 : Int32) * v45)) + (2 : Int32)) u50 (fun M51 => (q_lI M51 0 l1 (36 : Int32) (fun v52 => (q_tI M51 l1 (36 : Int32) (v52 + (1 : Int32)) (fun M53 => (q_ob M53 l0 12 ((F_X12_fedBits l0 M53).bind (fun u54 => some (u54, M53))))))))))))))))))))))))
set_option maxRecDepth 100000 in
set_option maxHeartbeats 4000000 in
theorem jW_X12_goDay_263 {K : q_K} (C : q_C K yX12_goDay cX12_goDay 6 (Option.some Jvm.ClassFile.FieldType.int) 134 2 0) (l0 : Nat) (l1 : Nat) (M : q_Mem) {r : Int32} {M' : q_Mem} (h : J_X12_goDay_263 l0 l1 M = some (r, M')) : q_W K 6 (q_Q K (some (.int r)) M' 2 0) 0 0 M 263 [some (.ref l0), some (.ref l1), none, none, none, none] [] := by
  unfold J_X12_goDay_263 at h
  refine x_bipush (v := (37 : Int32)) C dX12_goDay_263 (by decide) ?_
  refine x_iconst (v := (3 : Int32)) C dX12_goDay_265 (by decide) ?_
  refine q_aload_n C dX12_goDay_266 rfl ?_
  refine x_bipush (v := (36 : Int32)) C dX12_goDay_267 (by decide) ?_
  refine x_iald C dX12_goDay_269 h (fun v45 h => ?_)
  refine q_imul C dX12_goDay_270 ?_
  refine q_iadd C dX12_goDay_271 ?_
  refine q_istore_n (L' := [some (.ref l0), some (.ref l1), none, some (.int ((37 : Int32) + ((3 : Int32) * v45))), none, none]) C dX12_goDay_272 (by decide) rfl rfl ?_
  refine q_aload_n C dX12_goDay_273 rfl ?_
  refine q_iload_n C dX12_goDay_274 rfl ?_
  refine q_aload_n C dX12_goDay_275 rfl ?_
  refine x_getI (ci := 12) (j := 37) C dX12_goDay_276 lkF_X12_313 rfl h (fun v46 h => ?_)
  refine x_iast C dX12_goDay_279 h (fun M47 h => ?_)
  refine q_aload_n C dX12_goDay_280 rfl ?_
  refine q_iload_n C dX12_goDay_281 rfl ?_
  refine x_iconst (v := (1 : Int32)) C dX12_goDay_282 (by decide) ?_
  refine q_iadd C dX12_goDay_283 ?_
  refine q_aload_n C dX12_goDay_284 rfl ?_
  obtain ⟨hk, h⟩ := q_obE h
  obtain ⟨u48, e1, h⟩ := q_bind h
  refine x_callV0 C dX12_goDay_285 lkM_X12_351 mV_X12_fedBits ⟨_, rfl, rfl⟩ hk (c_X12_fedBits _ _ _ _ e1) rfl rfl (Nat.le_of_ble_eq_true rfl) (by decide) (by decide) ?_
  refine x_iast C dX12_goDay_288 h (fun M49 h => ?_)
  refine q_aload_n C dX12_goDay_289 rfl ?_
  refine q_iload_n C dX12_goDay_290 rfl ?_
  refine x_iconst (v := (2 : Int32)) C dX12_goDay_291 (by decide) ?_
  refine q_iadd C dX12_goDay_292 ?_
  refine q_aload_n C dX12_goDay_293 rfl ?_
  refine q_aload_n C dX12_goDay_294 rfl ?_
  obtain ⟨hk, h⟩ := q_obE h
  obtain ⟨u50, e1, h⟩ := q_bind h
  refine x_callV0 C dX12_goDay_295 lkM_X12_354 mV_X12_joys ⟨_, rfl, rfl⟩ hk (c_X12_joys _ _ _ _ _ e1) rfl rfl (Nat.le_of_ble_eq_true rfl) (by decide) (by decide) ?_
  refine x_iast C dX12_goDay_298 h (fun M51 h => ?_)
  refine q_aload_n C dX12_goDay_299 rfl ?_
  refine x_bipush (v := (36 : Int32)) C dX12_goDay_300 (by decide) ?_
  refine q_dup2 C dX12_goDay_302 rfl rfl ?_
  refine x_iald C dX12_goDay_303 h (fun v52 h => ?_)
  refine x_iconst (v := (1 : Int32)) C dX12_goDay_304 (by decide) ?_
  refine q_iadd C dX12_goDay_305 ?_
  refine x_iast C dX12_goDay_306 h (fun M53 h => ?_)
  refine q_aload_n C dX12_goDay_307 rfl ?_
  obtain ⟨hk, h⟩ := q_obE h
  obtain ⟨u54, e1, h⟩ := q_bind h
  refine x_callV0 C dX12_goDay_308 lkM_X12_351 mV_X12_fedBits ⟨_, rfl, rfl⟩ hk (c_X12_fedBits _ _ _ _ e1) rfl rfl (Nat.le_of_ble_eq_true rfl) (by decide) (by decide) ?_
  exact q_iret C dX12_goDay_311 rfl (by decide) (by decide) (Option.some.inj h)
noncomputable def F_X12_goDay (l0 : Nat) (l1 : Nat) (M : q_Mem) : Option (Int32 × q_Mem) := (q_ob M l0 12 ((F_X12_thereBits l0 l1 M).bind (fun u1 => (q_ob M l0 12 ((F_X12_goTable l0 l1 M).bind (fun x => match x with | (_, M3) => (q_lI M3 0 l1 (33 : Int32) (fun v4 => (q_gR M3 l0 12 20 (fun c5 => q_nn c5 (fun r6 => (q_ob M3 l0 12 ((F_X12_cooks l0 l1 M3).bind (fun u7 => (q_lI M3 0 r6 (((3 : Int32) * u7) + (1 : Int32)) (fun v8 => ((F_J6_bitCount_0f7a4 u1 M3).bind (fun u9 => (q_tI M3 l1 (33 : Int32) (q_mx (0 : Int32) (v4 - (v8 * u9))) (fun M10 => (q_lp (fun s => B_X12_goDay_45 l0 l1 u1 s.1 s.2) q_fu ((0 : Int32), M10)).bind (fun e33 => match e33 with | M34 => (q_tI M34 l1 (34 : Int32) (0 : Int32) (fun M35 => (q_lI M35 0 l1 (35 : Int32) (fun v36 => (q_tI M35 l1 (35 : Int32) (v36 + (1 : Int32)) (fun M37 => (q_lI M37 0 l1 (36 : Int32) (fun v38 => (if v38 = (60 : Int32) then (q_lp (fun s => B_X12_goDay_228 l0 l1 s.1 s.2) q_fu ((1 : Int32), M37)).bind (fun e41 => match e41 with | M42 => (q_lI M42 0 l1 (36 : Int32) (fun v43 => (q_tI M42 l1 (36 : Int32) (v43 - (1 : Int32)) (fun M44 => J_X12_goDay_263 l0 l1 M44))))) else J_X12_goDay_263 l0 l1 M37))))))))))))))))))))))))))))))
set_option maxRecDepth 100000 in
set_option maxHeartbeats 4000000 in
theorem c_X12_goDay (l : Launch) (G : q_G) (l0 : Nat) (l1 : Nat) (M : q_Mem) {r : Int32} {M' : q_Mem} (h : F_X12_goDay l0 l1 M = some (r, M')) : q_Met l G yX12_goDay cX12_goDay 6 (Option.some Jvm.ClassFile.FieldType.int) 134 2 0 [.ref l0, .ref l1] M (some (.int r)) M' := by
  unfold F_X12_goDay at h
  refine q_enter [some (.ref l0), some (.ref l1), none, none, none, none] (by decide) (Nat.le_of_ble_eq_true rfl) rfl (fun K C => ?_)
  refine q_aload_n C dX12_goDay_0 rfl ?_
  refine q_aload_n C dX12_goDay_1 rfl ?_
  obtain ⟨hk, h⟩ := q_obE h
  obtain ⟨u1, e1, h⟩ := q_bind h
  refine x_callV0 C dX12_goDay_2 lkM_X12_326 mV_X12_thereBits ⟨_, rfl, rfl⟩ hk (c_X12_thereBits _ _ _ _ _ e1) rfl rfl (Nat.le_of_ble_eq_true rfl) (by decide) (by decide) ?_
  refine q_istore_n (L' := [some (.ref l0), some (.ref l1), some (.int u1), none, none, none]) C dX12_goDay_5 (by decide) rfl rfl ?_
  refine q_aload_n C dX12_goDay_6 rfl ?_
  refine q_aload_n C dX12_goDay_7 rfl ?_
  obtain ⟨hk, h⟩ := q_obE h
  obtain ⟨⟨_, M3⟩, e1, h⟩ := q_bind h
  refine x_callVv0 C dX12_goDay_8 lkM_X12_341 mV_X12_goTable ⟨_, rfl, rfl⟩ hk (c_X12_goTable _ _ _ _ _ e1) rfl rfl (Nat.le_of_ble_eq_true rfl) (by decide) (by decide) ?_
  refine q_aload_n C dX12_goDay_11 rfl ?_
  refine x_bipush (v := (33 : Int32)) C dX12_goDay_12 (by decide) ?_
  refine x_iconst (v := (0 : Int32)) C dX12_goDay_14 (by decide) ?_
  refine q_aload_n C dX12_goDay_15 rfl ?_
  refine x_bipush (v := (33 : Int32)) C dX12_goDay_16 (by decide) ?_
  refine x_iald C dX12_goDay_18 h (fun v4 h => ?_)
  refine q_aload_n C dX12_goDay_19 rfl ?_
  refine x_getR (ci := 12) (j := 20) C dX12_goDay_20 lkF_X12_43 rfl h (fun c5 h => ?_)
  refine x_nn h (fun r6 h => ?_)
  refine x_iconst (v := (3 : Int32)) C dX12_goDay_23 (by decide) ?_
  refine q_aload_n C dX12_goDay_24 rfl ?_
  refine q_aload_n C dX12_goDay_25 rfl ?_
  obtain ⟨hk, h⟩ := q_obE h
  obtain ⟨u7, e1, h⟩ := q_bind h
  refine x_callV0 C dX12_goDay_26 lkM_X12_322 mV_X12_cooks ⟨_, rfl, rfl⟩ hk (c_X12_cooks _ _ _ _ _ e1) rfl rfl (Nat.le_of_ble_eq_true rfl) (by decide) (by decide) ?_
  refine q_imul C dX12_goDay_29 ?_
  refine x_iconst (v := (1 : Int32)) C dX12_goDay_30 (by decide) ?_
  refine q_iadd C dX12_goDay_31 ?_
  refine x_iald C dX12_goDay_32 h (fun v8 h => ?_)
  refine q_iload_n C dX12_goDay_33 rfl ?_
  obtain ⟨u9, e1, h⟩ := q_bind h
  refine x_callS0 C dX12_goDay_34 lkM_X12_329 mS_J6_bitCount_0f7a4 (c_J6_bitCount_0f7a4 _ _ _ _ e1) rfl rfl (Nat.le_of_ble_eq_true rfl) (by decide) (by decide) ?_
  refine q_imul C dX12_goDay_37 ?_
  refine q_isub C dX12_goDay_38 ?_
  refine q_max C dX12_goDay_39 wd_1599 wd_470 wd_15 wd_471 (by decide) (Nat.le_of_ble_eq_true rfl) (by decide) ?_
  refine x_iast C dX12_goDay_42 h (fun M10 h => ?_)
  refine x_iconst (v := (0 : Int32)) C dX12_goDay_43 (by decide) ?_
  refine q_istore_n (L' := [some (.ref l0), some (.ref l1), some (.int u1), some (.int (0 : Int32)), none, none]) C dX12_goDay_44 (by decide) rfl rfl ?_
  obtain ⟨e33, he, h⟩ := q_bind h
  refine q_msk [true, true, true, true, false, false] (lW_X12_goDay_45 C l0 l1 u1 q_fu _ _ _ he (fun M34 hs => ?_))
  · have hs := hs.symm
    subst hs
    refine q_aload_n C dX12_goDay_204 rfl ?_
    refine x_bipush (v := (34 : Int32)) C dX12_goDay_205 (by decide) ?_
    refine x_iconst (v := (0 : Int32)) C dX12_goDay_207 (by decide) ?_
    refine x_iast C dX12_goDay_208 h (fun M35 h => ?_)
    refine q_aload_n C dX12_goDay_209 rfl ?_
    refine x_bipush (v := (35 : Int32)) C dX12_goDay_210 (by decide) ?_
    refine q_dup2 C dX12_goDay_212 rfl rfl ?_
    refine x_iald C dX12_goDay_213 h (fun v36 h => ?_)
    refine x_iconst (v := (1 : Int32)) C dX12_goDay_214 (by decide) ?_
    refine q_iadd C dX12_goDay_215 ?_
    refine x_iast C dX12_goDay_216 h (fun M37 h => ?_)
    refine q_aload_n C dX12_goDay_217 rfl ?_
    refine x_bipush (v := (36 : Int32)) C dX12_goDay_218 (by decide) ?_
    refine x_iald C dX12_goDay_220 h (fun v38 h => ?_)
    refine x_bipush (v := (60 : Int32)) C dX12_goDay_221 (by decide) ?_
    refine q_icmp_ne (tgt := 263) C dX12_goDay_223 (by decide) h (fun _ h => ?_) (fun _ h => ?_)
    · refine x_iconst (v := (1 : Int32)) C dX12_goDay_226 (by decide) ?_
      refine q_istore_n (L' := [some (.ref l0), some (.ref l1), none, some (.int (1 : Int32)), none, none]) C dX12_goDay_227 (by decide) rfl rfl ?_
      obtain ⟨e41, he, h⟩ := q_bind h
      refine q_msk [true, true, false, true, false, false] (lW_X12_goDay_228 C l0 l1 q_fu _ _ _ he (fun M42 hs => ?_))
      · have hs := hs.symm
        subst hs
        refine q_aload_n C dX12_goDay_255 rfl ?_
        refine x_bipush (v := (36 : Int32)) C dX12_goDay_256 (by decide) ?_
        refine q_dup2 C dX12_goDay_258 rfl rfl ?_
        refine x_iald C dX12_goDay_259 h (fun v43 h => ?_)
        refine x_iconst (v := (1 : Int32)) C dX12_goDay_260 (by decide) ?_
        refine q_isub C dX12_goDay_261 ?_
        refine x_iast C dX12_goDay_262 h (fun M44 h => ?_)
        exact q_msk [true, true, false, false, false, false] (jW_X12_goDay_263 C l0 l1 M44 h)
    · exact q_msk [true, true, false, false, false, false] (jW_X12_goDay_263 C l0 l1 M37 h)
noncomputable def F_X12_day (l0 : Nat) (M : q_Mem) : Option (Int32 × q_Mem) := (q_pI M l0 12 0 (0 : Int32) (fun M1 => (q_gI M1 l0 12 27 (fun v2 => (if v2 = 0 then some ((-1 : Int32), M1) else (q_gR M1 l0 12 32 (fun c3 => q_nn c3 (fun r4 => (q_lI M1 0 r4 (35 : Int32) (fun v5 => (if v5 = (999 : Int32) then some ((-1 : Int32), M1) else (q_ob M1 l0 12 ((F_X12_remember l0 M1).bind (fun x => match x with | (_, M7) => (q_gR M7 l0 12 32 (fun c8 => q_nn c8 (fun r9 => (q_ob M7 l0 12 ((F_X12_goDay l0 r9 M7).bind (fun x => match x with | (u10, M11) => ((F_J6_bitCount_0f7a4 u10 M11).bind (fun u12 => some (u12, M11)))))))))))))))))))))))
set_option maxRecDepth 100000 in
set_option maxHeartbeats 4000000 in
theorem c_X12_day (l : Launch) (G : q_G) (l0 : Nat) (M : q_Mem) {r : Int32} {M' : q_Mem} (h : F_X12_day l0 M = some (r, M')) : q_Met l G yX12_day cX12_day 1 (Option.some Jvm.ClassFile.FieldType.int) 135 2 0 [.ref l0] M (some (.int r)) M' := by
  unfold F_X12_day at h
  refine q_enter [some (.ref l0)] (by decide) (Nat.le_of_ble_eq_true rfl) rfl (fun K C => ?_)
  refine q_aload_n C dX12_day_0 rfl ?_
  refine x_iconst (v := (0 : Int32)) C dX12_day_1 (by decide) ?_
  refine x_putI (ci := 12) (j := 0) C dX12_day_2 lkF_X12_92 (fun r hr => by cases hr; rfl) rfl h (fun M1 h => ?_)
  refine q_aload_n C dX12_day_5 rfl ?_
  refine x_getI (ci := 12) (j := 27) C dX12_day_6 lkF_X12_287 rfl h (fun v2 h => ?_)
  refine q_if_eq (tgt := 25) C dX12_day_9 (by decide) h (fun _ h => ?_) (fun _ h => ?_)
  · refine x_iconst (v := (-1 : Int32)) C dX12_day_25 (by decide) ?_
    exact q_iret C dX12_day_26 rfl (by decide) (by decide) (Option.some.inj h)
  · refine q_aload_n C dX12_day_12 rfl ?_
    refine x_getR (ci := 12) (j := 32) C dX12_day_13 lkF_X12_61 rfl h (fun c3 h => ?_)
    refine x_nn h (fun r4 h => ?_)
    refine x_bipush (v := (35 : Int32)) C dX12_day_16 (by decide) ?_
    refine x_iald C dX12_day_18 h (fun v5 h => ?_)
    refine x_sipush (v := (999 : Int32)) C dX12_day_19 (by decide) ?_
    refine q_icmp_ne (tgt := 27) C dX12_day_22 (by decide) h (fun _ h => ?_) (fun _ h => ?_)
    · refine x_iconst (v := (-1 : Int32)) C dX12_day_25 (by decide) ?_
      exact q_iret C dX12_day_26 rfl (by decide) (by decide) (Option.some.inj h)
    · refine q_aload_n C dX12_day_27 rfl ?_
      obtain ⟨hk, h⟩ := q_obE h
      obtain ⟨⟨_, M7⟩, e1, h⟩ := q_bind h
      refine x_callVv0 C dX12_day_28 lkM_X12_367 mV_X12_remember ⟨_, rfl, rfl⟩ hk (c_X12_remember _ _ _ _ e1) rfl rfl (Nat.le_of_ble_eq_true rfl) (by decide) (by decide) ?_
      refine q_aload_n C dX12_day_31 rfl ?_
      refine q_aload_n C dX12_day_32 rfl ?_
      refine x_getR (ci := 12) (j := 32) C dX12_day_33 lkF_X12_61 rfl h (fun c8 h => ?_)
      refine x_nn h (fun r9 h => ?_)
      obtain ⟨hk, h⟩ := q_obE h
      obtain ⟨⟨u10, M11⟩, e1, h⟩ := q_bind h
      refine x_callV C dX12_day_36 lkM_X12_370 mV_X12_goDay ⟨_, rfl, rfl⟩ hk (c_X12_goDay _ _ _ _ _ e1) rfl rfl (Nat.le_of_ble_eq_true rfl) (by decide) (by decide) ?_
      obtain ⟨u12, e1, h⟩ := q_bind h
      refine x_callS0 C dX12_day_39 lkM_X12_329 mS_J6_bitCount_0f7a4 (c_J6_bitCount_0f7a4 _ _ _ _ e1) rfl rfl (Nat.le_of_ble_eq_true rfl) (by decide) (by decide) ?_
      exact q_iret C dX12_day_42 rfl (by decide) (by decide) (Option.some.inj h)
noncomputable def F_X12_canChoose (l0 : Nat) (l1 : Nat) (l2 : Int32) (M : q_Mem) : Option (Int32) := (q_ob M l0 12 ((F_X12_isDish l0 l2 M).bind (fun u1 => (if u1 = 0 then q_rq (0 : Int32) else (q_lI M 0 l1 (34 : Int32) (fun v2 => (if v2 = (l2 + (1 : Int32)) then q_rq (0 : Int32) else q_rq (1 : Int32))))))))
set_option maxRecDepth 100000 in
set_option maxHeartbeats 4000000 in
theorem c_X12_canChoose (l : Launch) (G : q_G) (l0 : Nat) (l1 : Nat) (l2 : Int32) (M : q_Mem) {r : Int32} (h : F_X12_canChoose l0 l1 l2 M = some r) : q_Met l G yX12_canChoose cX12_canChoose 3 (Option.some Jvm.ClassFile.FieldType.boolean) 2 0 0 [.ref l0, .ref l1, .int l2] M (some (.int r)) M := by
  unfold F_X12_canChoose at h
  refine q_enter [some (.ref l0), some (.ref l1), some (.int l2)] (by decide) (Nat.le_of_ble_eq_true rfl) rfl (fun K C => ?_)
  refine q_aload_n C dX12_canChoose_0 rfl ?_
  refine q_iload_n C dX12_canChoose_1 rfl ?_
  obtain ⟨hk, h⟩ := q_obE h
  obtain ⟨u1, e1, h⟩ := q_bind h
  refine x_callV0 C dX12_canChoose_2 lkM_X12_357 mV_X12_isDish ⟨_, rfl, rfl⟩ hk (c_X12_isDish _ _ _ _ _ e1) rfl rfl (Nat.le_of_ble_eq_true rfl) (by decide) (by decide) ?_
  refine q_if_eq (tgt := 22) C dX12_canChoose_5 (by decide) h (fun _ h => ?_) (fun _ h => ?_)
  · refine x_iconst (v := (0 : Int32)) C dX12_canChoose_22 (by decide) ?_
    exact q_zret (res := (r, M)) C dX12_canChoose_23 rfl (by decide) (by decide) (q_rqE h).1 (congrArg (fun z => (z, M)) (q_rqE h).2)
  · refine q_aload_n C dX12_canChoose_8 rfl ?_
    refine x_bipush (v := (34 : Int32)) C dX12_canChoose_9 (by decide) ?_
    refine x_iald C dX12_canChoose_11 h (fun v2 h => ?_)
    refine q_iload_n C dX12_canChoose_12 rfl ?_
    refine x_iconst (v := (1 : Int32)) C dX12_canChoose_13 (by decide) ?_
    refine q_iadd C dX12_canChoose_14 ?_
    refine q_icmp_eq (tgt := 22) C dX12_canChoose_15 (by decide) h (fun _ h => ?_) (fun _ h => ?_)
    · refine x_iconst (v := (0 : Int32)) C dX12_canChoose_22 (by decide) ?_
      exact q_zret (res := (r, M)) C dX12_canChoose_23 rfl (by decide) (by decide) (q_rqE h).1 (congrArg (fun z => (z, M)) (q_rqE h).2)
    · refine x_iconst (v := (1 : Int32)) C dX12_canChoose_18 (by decide) ?_
      refine q_goto (tgt := 23) C dX12_canChoose_19 (by decide) ?_
      exact q_zret (res := (r, M)) C dX12_canChoose_23 rfl (by decide) (by decide) (q_rqE h).1 (congrArg (fun z => (z, M)) (q_rqE h).2)
noncomputable def F_X12_choose (l0 : Nat) (l1 : Int32) (M : q_Mem) : Option (Int32 × q_Mem) := (q_pI M l0 12 0 (0 : Int32) (fun M1 => (q_gR M1 l0 12 32 (fun c2 => q_nn c2 (fun r3 => (q_ob M1 l0 12 ((F_X12_canChoose l0 r3 l1 M1).bind (fun u4 => (if u4 = 0 then some ((-2 : Int32), M1) else (q_ob M1 l0 12 ((F_X12_remember l0 M1).bind (fun x => match x with | (_, M6) => (q_gR M6 l0 12 32 (fun c7 => q_nn c7 (fun r8 => (q_lI M6 0 r8 (34 : Int32) (fun v9 => (q_gR M6 l0 12 32 (fun c10 => q_nn c10 (fun r11 => (q_tI M6 r11 (34 : Int32) (l1 + (1 : Int32)) (fun M12 => some ((v9 - (1 : Int32)), M12)))))))))))))))))))))))
set_option maxRecDepth 100000 in
set_option maxHeartbeats 4000000 in
theorem c_X12_choose (l : Launch) (G : q_G) (l0 : Nat) (l1 : Int32) (M : q_Mem) {r : Int32} {M' : q_Mem} (h : F_X12_choose l0 l1 M = some (r, M')) : q_Met l G yX12_choose cX12_choose 3 (Option.some Jvm.ClassFile.FieldType.int) 3 0 0 [.ref l0, .int l1] M (some (.int r)) M' := by
  unfold F_X12_choose at h
  refine q_enter [some (.ref l0), some (.int l1), none] (by decide) (Nat.le_of_ble_eq_true rfl) rfl (fun K C => ?_)
  refine q_aload_n C dX12_choose_0 rfl ?_
  refine x_iconst (v := (0 : Int32)) C dX12_choose_1 (by decide) ?_
  refine x_putI (ci := 12) (j := 0) C dX12_choose_2 lkF_X12_92 (fun r hr => by cases hr; rfl) rfl h (fun M1 h => ?_)
  refine q_aload_n C dX12_choose_5 rfl ?_
  refine q_aload_n C dX12_choose_6 rfl ?_
  refine x_getR (ci := 12) (j := 32) C dX12_choose_7 lkF_X12_61 rfl h (fun c2 h => ?_)
  refine x_nn h (fun r3 h => ?_)
  refine q_iload_n C dX12_choose_10 rfl ?_
  obtain ⟨hk, h⟩ := q_obE h
  obtain ⟨u4, e1, h⟩ := q_bind h
  refine x_callV0 C dX12_choose_11 lkM_X12_373 mV_X12_canChoose ⟨_, rfl, rfl⟩ hk (c_X12_canChoose _ _ _ _ _ _ e1) rfl rfl (Nat.le_of_ble_eq_true rfl) (by decide) (by decide) ?_
  refine q_if_ne (tgt := 20) C dX12_choose_14 (by decide) h (fun _ h => ?_) (fun _ h => ?_)
  · refine x_bipush (v := (-2 : Int32)) C dX12_choose_17 (by decide) ?_
    exact q_iret C dX12_choose_19 rfl (by decide) (by decide) (Option.some.inj h)
  · refine q_aload_n C dX12_choose_20 rfl ?_
    obtain ⟨hk, h⟩ := q_obE h
    obtain ⟨⟨_, M6⟩, e1, h⟩ := q_bind h
    refine x_callVv0 C dX12_choose_21 lkM_X12_367 mV_X12_remember ⟨_, rfl, rfl⟩ hk (c_X12_remember _ _ _ _ e1) rfl rfl (Nat.le_of_ble_eq_true rfl) (by decide) (by decide) ?_
    refine q_aload_n C dX12_choose_24 rfl ?_
    refine x_getR (ci := 12) (j := 32) C dX12_choose_25 lkF_X12_61 rfl h (fun c7 h => ?_)
    refine x_nn h (fun r8 h => ?_)
    refine x_bipush (v := (34 : Int32)) C dX12_choose_28 (by decide) ?_
    refine x_iald C dX12_choose_30 h (fun v9 h => ?_)
    refine x_iconst (v := (1 : Int32)) C dX12_choose_31 (by decide) ?_
    refine q_isub C dX12_choose_32 ?_
    refine q_istore_n (L' := [some (.ref l0), some (.int l1), some (.int (v9 - (1 : Int32)))]) C dX12_choose_33 (by decide) rfl rfl ?_
    refine q_aload_n C dX12_choose_34 rfl ?_
    refine x_getR (ci := 12) (j := 32) C dX12_choose_35 lkF_X12_61 rfl h (fun c10 h => ?_)
    refine x_nn h (fun r11 h => ?_)
    refine x_bipush (v := (34 : Int32)) C dX12_choose_38 (by decide) ?_
    refine q_iload_n C dX12_choose_40 rfl ?_
    refine x_iconst (v := (1 : Int32)) C dX12_choose_41 (by decide) ?_
    refine q_iadd C dX12_choose_42 ?_
    refine x_iast C dX12_choose_43 h (fun M12 h => ?_)
    refine q_iload_n C dX12_choose_44 rfl ?_
    exact q_iret C dX12_choose_45 rfl (by decide) (by decide) (Option.some.inj h)
noncomputable def F_X12_canBeIll (l0 : Nat) (M : q_Mem) : Option (Int32) := (q_lI M 0 l0 (32 : Int32) (fun v1 => (if v1 < (3 : Int32) then q_rq (1 : Int32) else q_rq (0 : Int32))))
set_option maxRecDepth 100000 in
set_option maxHeartbeats 4000000 in
theorem c_X12_canBeIll (l : Launch) (G : q_G) (l0 : Nat) (M : q_Mem) {r : Int32} (h : F_X12_canBeIll l0 M = some r) : q_Met l G yX12_canBeIll cX12_canBeIll 1 (Option.some Jvm.ClassFile.FieldType.boolean) 1 0 0 [.ref l0] M (some (.int r)) M := by
  unfold F_X12_canBeIll at h
  refine q_enter [some (.ref l0)] (by decide) (Nat.le_of_ble_eq_true rfl) rfl (fun K C => ?_)
  refine q_aload_n C dX12_canBeIll_0 rfl ?_
  refine x_bipush (v := (32 : Int32)) C dX12_canBeIll_1 (by decide) ?_
  refine x_iald C dX12_canBeIll_3 h (fun v1 h => ?_)
  refine x_iconst (v := (3 : Int32)) C dX12_canBeIll_4 (by decide) ?_
  refine q_icmp_ge (tgt := 12) C dX12_canBeIll_5 (by decide) h (fun _ h => ?_) (fun _ h => ?_)
  · refine x_iconst (v := (1 : Int32)) C dX12_canBeIll_8 (by decide) ?_
    refine q_goto (tgt := 13) C dX12_canBeIll_9 (by decide) ?_
    exact q_zret (res := (r, M)) C dX12_canBeIll_13 rfl (by decide) (by decide) (q_rqE h).1 (congrArg (fun z => (z, M)) (q_rqE h).2)
  · refine x_iconst (v := (0 : Int32)) C dX12_canBeIll_12 (by decide) ?_
    exact q_zret (res := (r, M)) C dX12_canBeIll_13 rfl (by decide) (by decide) (q_rqE h).1 (congrArg (fun z => (z, M)) (q_rqE h).2)
noncomputable def F_X12_ill (l0 : Nat) (M : q_Mem) : Option (Int32 × q_Mem) := (q_pI M l0 12 0 (0 : Int32) (fun M1 => (q_gI M1 l0 12 27 (fun v2 => (if v2 = 0 then some ((-1 : Int32), M1) else (q_gR M1 l0 12 32 (fun c3 => q_nn c3 (fun r4 => ((F_X12_canBeIll r4 M1).bind (fun u5 => (if u5 = 0 then some ((-1 : Int32), M1) else (q_ob M1 l0 12 ((F_X12_remember l0 M1).bind (fun x => match x with | (_, M7) => (q_gR M7 l0 12 32 (fun c8 => q_nn c8 (fun r9 => (q_lI M7 0 r9 (32 : Int32) (fun v10 => (q_tI M7 r9 (32 : Int32) (v10 + (1 : Int32)) (fun M11 => (q_gR M11 l0 12 32 (fun c12 => q_nn c12 (fun r13 => (q_lI M11 0 r13 (32 : Int32) (fun v14 => some (v14, M11)))))))))))))))))))))))))))
set_option maxRecDepth 100000 in
set_option maxHeartbeats 4000000 in
theorem c_X12_ill (l : Launch) (G : q_G) (l0 : Nat) (M : q_Mem) {r : Int32} {M' : q_Mem} (h : F_X12_ill l0 M = some (r, M')) : q_Met l G yX12_ill cX12_ill 1 (Option.some Jvm.ClassFile.FieldType.int) 2 0 0 [.ref l0] M (some (.int r)) M' := by
  unfold F_X12_ill at h
  refine q_enter [some (.ref l0)] (by decide) (Nat.le_of_ble_eq_true rfl) rfl (fun K C => ?_)
  refine q_aload_n C dX12_ill_0 rfl ?_
  refine x_iconst (v := (0 : Int32)) C dX12_ill_1 (by decide) ?_
  refine x_putI (ci := 12) (j := 0) C dX12_ill_2 lkF_X12_92 (fun r hr => by cases hr; rfl) rfl h (fun M1 h => ?_)
  refine q_aload_n C dX12_ill_5 rfl ?_
  refine x_getI (ci := 12) (j := 27) C dX12_ill_6 lkF_X12_287 rfl h (fun v2 h => ?_)
  refine q_if_eq (tgt := 22) C dX12_ill_9 (by decide) h (fun _ h => ?_) (fun _ h => ?_)
  · refine x_iconst (v := (-1 : Int32)) C dX12_ill_22 (by decide) ?_
    exact q_iret C dX12_ill_23 rfl (by decide) (by decide) (Option.some.inj h)
  · refine q_aload_n C dX12_ill_12 rfl ?_
    refine x_getR (ci := 12) (j := 32) C dX12_ill_13 lkF_X12_61 rfl h (fun c3 h => ?_)
    refine x_nn h (fun r4 h => ?_)
    obtain ⟨u5, e1, h⟩ := q_bind h
    refine x_callS0 C dX12_ill_16 lkM_X12_376 mS_X12_canBeIll (c_X12_canBeIll _ _ _ _ e1) rfl rfl (Nat.le_of_ble_eq_true rfl) (by decide) (by decide) ?_
    refine q_if_ne (tgt := 24) C dX12_ill_19 (by decide) h (fun _ h => ?_) (fun _ h => ?_)
    · refine x_iconst (v := (-1 : Int32)) C dX12_ill_22 (by decide) ?_
      exact q_iret C dX12_ill_23 rfl (by decide) (by decide) (Option.some.inj h)
    · refine q_aload_n C dX12_ill_24 rfl ?_
      obtain ⟨hk, h⟩ := q_obE h
      obtain ⟨⟨_, M7⟩, e1, h⟩ := q_bind h
      refine x_callVv0 C dX12_ill_25 lkM_X12_367 mV_X12_remember ⟨_, rfl, rfl⟩ hk (c_X12_remember _ _ _ _ e1) rfl rfl (Nat.le_of_ble_eq_true rfl) (by decide) (by decide) ?_
      refine q_aload_n C dX12_ill_28 rfl ?_
      refine x_getR (ci := 12) (j := 32) C dX12_ill_29 lkF_X12_61 rfl h (fun c8 h => ?_)
      refine x_nn h (fun r9 h => ?_)
      refine x_bipush (v := (32 : Int32)) C dX12_ill_32 (by decide) ?_
      refine q_dup2 C dX12_ill_34 rfl rfl ?_
      refine x_iald C dX12_ill_35 h (fun v10 h => ?_)
      refine x_iconst (v := (1 : Int32)) C dX12_ill_36 (by decide) ?_
      refine q_iadd C dX12_ill_37 ?_
      refine x_iast C dX12_ill_38 h (fun M11 h => ?_)
      refine q_aload_n C dX12_ill_39 rfl ?_
      refine x_getR (ci := 12) (j := 32) C dX12_ill_40 lkF_X12_61 rfl h (fun c12 h => ?_)
      refine x_nn h (fun r13 h => ?_)
      refine x_bipush (v := (32 : Int32)) C dX12_ill_43 (by decide) ?_
      refine x_iald C dX12_ill_45 h (fun v14 h => ?_)
      exact q_iret C dX12_ill_46 rfl (by decide) (by decide) (Option.some.inj h)
noncomputable def F_X12_canMakeUp (l0 : Nat) (M : q_Mem) : Option (Int32) := (q_lI M 0 l0 (32 : Int32) (fun v1 => (if 0 < v1 then (q_lI M 0 l0 (33 : Int32) (fun v2 => (if v2 < (5 : Int32) then q_rq (0 : Int32) else q_rq (1 : Int32)))) else q_rq (0 : Int32))))
set_option maxRecDepth 100000 in
set_option maxHeartbeats 4000000 in
theorem c_X12_canMakeUp (l : Launch) (G : q_G) (l0 : Nat) (M : q_Mem) {r : Int32} (h : F_X12_canMakeUp l0 M = some r) : q_Met l G yX12_canMakeUp cX12_canMakeUp 1 (Option.some Jvm.ClassFile.FieldType.boolean) 1 0 0 [.ref l0] M (some (.int r)) M := by
  unfold F_X12_canMakeUp at h
  refine q_enter [some (.ref l0)] (by decide) (Nat.le_of_ble_eq_true rfl) rfl (fun K C => ?_)
  refine q_aload_n C dX12_canMakeUp_0 rfl ?_
  refine x_bipush (v := (32 : Int32)) C dX12_canMakeUp_1 (by decide) ?_
  refine x_iald C dX12_canMakeUp_3 h (fun v1 h => ?_)
  refine q_if_le (tgt := 19) C dX12_canMakeUp_4 (by decide) h (fun _ h => ?_) (fun _ h => ?_)
  · refine q_aload_n C dX12_canMakeUp_7 rfl ?_
    refine x_bipush (v := (33 : Int32)) C dX12_canMakeUp_8 (by decide) ?_
    refine x_iald C dX12_canMakeUp_10 h (fun v2 h => ?_)
    refine x_iconst (v := (5 : Int32)) C dX12_canMakeUp_11 (by decide) ?_
    refine q_icmp_lt (tgt := 19) C dX12_canMakeUp_12 (by decide) h (fun _ h => ?_) (fun _ h => ?_)
    · refine x_iconst (v := (0 : Int32)) C dX12_canMakeUp_19 (by decide) ?_
      exact q_zret (res := (r, M)) C dX12_canMakeUp_20 rfl (by decide) (by decide) (q_rqE h).1 (congrArg (fun z => (z, M)) (q_rqE h).2)
    · refine x_iconst (v := (1 : Int32)) C dX12_canMakeUp_15 (by decide) ?_
      refine q_goto (tgt := 20) C dX12_canMakeUp_16 (by decide) ?_
      exact q_zret (res := (r, M)) C dX12_canMakeUp_20 rfl (by decide) (by decide) (q_rqE h).1 (congrArg (fun z => (z, M)) (q_rqE h).2)
  · refine x_iconst (v := (0 : Int32)) C dX12_canMakeUp_19 (by decide) ?_
    exact q_zret (res := (r, M)) C dX12_canMakeUp_20 rfl (by decide) (by decide) (q_rqE h).1 (congrArg (fun z => (z, M)) (q_rqE h).2)
noncomputable def F_X12_makesUp (l0 : Nat) (M : q_Mem) : Option (Unit × q_Mem) := (q_lI M 0 l0 (32 : Int32) (fun v1 => (q_tI M l0 (32 : Int32) (v1 - (1 : Int32)) (fun M2 => (q_lI M2 0 l0 (33 : Int32) (fun v3 => (q_tI M2 l0 (33 : Int32) (v3 - (5 : Int32)) (fun M4 => some ((), M4)))))))))
set_option maxRecDepth 100000 in
set_option maxHeartbeats 4000000 in
theorem c_X12_makesUp (l : Launch) (G : q_G) (l0 : Nat) (M : q_Mem) {r : Unit} {M' : q_Mem} (h : F_X12_makesUp l0 M = some (r, M')) : q_Met l G yX12_makesUp cX12_makesUp 1 (Option.none : Option Jvm.ClassFile.FieldType) 1 0 0 [.ref l0] M none M' := by
  unfold F_X12_makesUp at h
  refine q_enter [some (.ref l0)] (by decide) (Nat.le_of_ble_eq_true rfl) rfl (fun K C => ?_)
  refine q_aload_n C dX12_makesUp_0 rfl ?_
  refine x_bipush (v := (32 : Int32)) C dX12_makesUp_1 (by decide) ?_
  refine q_dup2 C dX12_makesUp_3 rfl rfl ?_
  refine x_iald C dX12_makesUp_4 h (fun v1 h => ?_)
  refine x_iconst (v := (1 : Int32)) C dX12_makesUp_5 (by decide) ?_
  refine q_isub C dX12_makesUp_6 ?_
  refine x_iast C dX12_makesUp_7 h (fun M2 h => ?_)
  refine q_aload_n C dX12_makesUp_8 rfl ?_
  refine x_bipush (v := (33 : Int32)) C dX12_makesUp_9 (by decide) ?_
  refine q_dup2 C dX12_makesUp_11 rfl rfl ?_
  refine x_iald C dX12_makesUp_12 h (fun v3 h => ?_)
  refine x_iconst (v := (5 : Int32)) C dX12_makesUp_13 (by decide) ?_
  refine q_isub C dX12_makesUp_14 ?_
  refine x_iast C dX12_makesUp_15 h (fun M4 h => ?_)
  exact q_vret C dX12_makesUp_16 rfl (by decide) (by decide) (Option.some.inj h)
noncomputable def F_X12_makeUp (l0 : Nat) (M : q_Mem) : Option (Int32 × q_Mem) := (q_pI M l0 12 0 (0 : Int32) (fun M1 => (q_gI M1 l0 12 27 (fun v2 => (if v2 = 0 then some ((-1 : Int32), M1) else (q_gR M1 l0 12 32 (fun c3 => q_nn c3 (fun r4 => ((F_X12_canMakeUp r4 M1).bind (fun u5 => (if u5 = 0 then some ((-1 : Int32), M1) else (q_ob M1 l0 12 ((F_X12_remember l0 M1).bind (fun x => match x with | (_, M7) => (q_gR M7 l0 12 32 (fun c8 => q_nn c8 (fun r9 => ((F_X12_makesUp r9 M7).bind (fun x => match x with | (_, M11) => (q_gR M11 l0 12 32 (fun c12 => q_nn c12 (fun r13 => (q_lI M11 0 r13 (32 : Int32) (fun v14 => some (v14, M11)))))))))))))))))))))))))
set_option maxRecDepth 100000 in
set_option maxHeartbeats 4000000 in
theorem c_X12_makeUp (l : Launch) (G : q_G) (l0 : Nat) (M : q_Mem) {r : Int32} {M' : q_Mem} (h : F_X12_makeUp l0 M = some (r, M')) : q_Met l G yX12_makeUp cX12_makeUp 1 (Option.some Jvm.ClassFile.FieldType.int) 2 0 0 [.ref l0] M (some (.int r)) M' := by
  unfold F_X12_makeUp at h
  refine q_enter [some (.ref l0)] (by decide) (Nat.le_of_ble_eq_true rfl) rfl (fun K C => ?_)
  refine q_aload_n C dX12_makeUp_0 rfl ?_
  refine x_iconst (v := (0 : Int32)) C dX12_makeUp_1 (by decide) ?_
  refine x_putI (ci := 12) (j := 0) C dX12_makeUp_2 lkF_X12_92 (fun r hr => by cases hr; rfl) rfl h (fun M1 h => ?_)
  refine q_aload_n C dX12_makeUp_5 rfl ?_
  refine x_getI (ci := 12) (j := 27) C dX12_makeUp_6 lkF_X12_287 rfl h (fun v2 h => ?_)
  refine q_if_eq (tgt := 22) C dX12_makeUp_9 (by decide) h (fun _ h => ?_) (fun _ h => ?_)
  · refine x_iconst (v := (-1 : Int32)) C dX12_makeUp_22 (by decide) ?_
    exact q_iret C dX12_makeUp_23 rfl (by decide) (by decide) (Option.some.inj h)
  · refine q_aload_n C dX12_makeUp_12 rfl ?_
    refine x_getR (ci := 12) (j := 32) C dX12_makeUp_13 lkF_X12_61 rfl h (fun c3 h => ?_)
    refine x_nn h (fun r4 h => ?_)
    obtain ⟨u5, e1, h⟩ := q_bind h
    refine x_callS0 C dX12_makeUp_16 lkM_X12_380 mS_X12_canMakeUp (c_X12_canMakeUp _ _ _ _ e1) rfl rfl (Nat.le_of_ble_eq_true rfl) (by decide) (by decide) ?_
    refine q_if_ne (tgt := 24) C dX12_makeUp_19 (by decide) h (fun _ h => ?_) (fun _ h => ?_)
    · refine x_iconst (v := (-1 : Int32)) C dX12_makeUp_22 (by decide) ?_
      exact q_iret C dX12_makeUp_23 rfl (by decide) (by decide) (Option.some.inj h)
    · refine q_aload_n C dX12_makeUp_24 rfl ?_
      obtain ⟨hk, h⟩ := q_obE h
      obtain ⟨⟨_, M7⟩, e1, h⟩ := q_bind h
      refine x_callVv0 C dX12_makeUp_25 lkM_X12_367 mV_X12_remember ⟨_, rfl, rfl⟩ hk (c_X12_remember _ _ _ _ e1) rfl rfl (Nat.le_of_ble_eq_true rfl) (by decide) (by decide) ?_
      refine q_aload_n C dX12_makeUp_28 rfl ?_
      refine x_getR (ci := 12) (j := 32) C dX12_makeUp_29 lkF_X12_61 rfl h (fun c8 h => ?_)
      refine x_nn h (fun r9 h => ?_)
      obtain ⟨⟨_, M11⟩, e1, h⟩ := q_bind h
      refine x_callSv0 C dX12_makeUp_32 lkM_X12_383 mS_X12_makesUp (c_X12_makesUp _ _ _ _ e1) rfl rfl (Nat.le_of_ble_eq_true rfl) (by decide) (by decide) ?_
      refine q_aload_n C dX12_makeUp_35 rfl ?_
      refine x_getR (ci := 12) (j := 32) C dX12_makeUp_36 lkF_X12_61 rfl h (fun c12 h => ?_)
      refine x_nn h (fun r13 h => ?_)
      refine x_bipush (v := (32 : Int32)) C dX12_makeUp_39 (by decide) ?_
      refine x_iald C dX12_makeUp_41 h (fun v14 h => ?_)
      exact q_iret C dX12_makeUp_42 rfl (by decide) (by decide) (Option.some.inj h)
noncomputable def F_X12_canStay (l0 : Nat) (l1 : Nat) (l2 : Int32) (l3 : Int32) (M : q_Mem) : Option (Int32) := (q_ob M l0 12 ((F_X12_isGuest l0 l2 M).bind (fun u1 => (if u1 = 0 then q_rq (0 : Int32) else (q_lI M 0 l1 (((4 : Int32) * l2) + (3 : Int32)) (fun v2 => (if v2 = 0 then ((F_X12_isIn l3.toInt64 (1 : Int64) (9 : Int64) M).bind (fun u3 => (if u3 = 0 then q_rq (0 : Int32) else (q_lI M 0 l1 (((4 : Int32) * l2) + (0 : Int32)) (fun v4 => (if (99 : Int32) < (v4 + l3) then q_rq (0 : Int32) else q_rq (1 : Int32))))))) else q_rq (0 : Int32))))))))
set_option maxRecDepth 100000 in
set_option maxHeartbeats 4000000 in
theorem c_X12_canStay (l : Launch) (G : q_G) (l0 : Nat) (l1 : Nat) (l2 : Int32) (l3 : Int32) (M : q_Mem) {r : Int32} (h : F_X12_canStay l0 l1 l2 l3 M = some r) : q_Met l G yX12_canStay cX12_canStay 4 (Option.some Jvm.ClassFile.FieldType.boolean) 2 0 0 [.ref l0, .ref l1, .int l2, .int l3] M (some (.int r)) M := by
  unfold F_X12_canStay at h
  refine q_enter [some (.ref l0), some (.ref l1), some (.int l2), some (.int l3)] (by decide) (Nat.le_of_ble_eq_true rfl) rfl (fun K C => ?_)
  refine q_aload_n C dX12_canStay_0 rfl ?_
  refine q_iload_n C dX12_canStay_1 rfl ?_
  obtain ⟨hk, h⟩ := q_obE h
  obtain ⟨u1, e1, h⟩ := q_bind h
  refine x_callV0 C dX12_canStay_2 lkM_X12_360 mV_X12_isGuest ⟨_, rfl, rfl⟩ hk (c_X12_isGuest _ _ _ _ _ e1) rfl rfl (Nat.le_of_ble_eq_true rfl) (by decide) (by decide) ?_
  refine q_if_eq (tgt := 48) C dX12_canStay_5 (by decide) h (fun _ h => ?_) (fun _ h => ?_)
  · refine x_iconst (v := (0 : Int32)) C dX12_canStay_48 (by decide) ?_
    exact q_zret (res := (r, M)) C dX12_canStay_49 rfl (by decide) (by decide) (q_rqE h).1 (congrArg (fun z => (z, M)) (q_rqE h).2)
  · refine q_aload_n C dX12_canStay_8 rfl ?_
    refine x_iconst (v := (4 : Int32)) C dX12_canStay_9 (by decide) ?_
    refine q_iload_n C dX12_canStay_10 rfl ?_
    refine q_imul C dX12_canStay_11 ?_
    refine x_iconst (v := (3 : Int32)) C dX12_canStay_12 (by decide) ?_
    refine q_iadd C dX12_canStay_13 ?_
    refine x_iald C dX12_canStay_14 h (fun v2 h => ?_)
    refine q_if_ne (tgt := 48) C dX12_canStay_15 (by decide) h (fun _ h => ?_) (fun _ h => ?_)
    · refine q_iload_n C dX12_canStay_18 rfl ?_
      refine q_i2l C dX12_canStay_19 ?_
      refine x_lconst (v := (1 : Int64)) C dX12_canStay_20 (by decide) ?_
      refine q_ldc2 (v := (9 : Int64)) C dX12_canStay_21 wd_1565 ?_
      obtain ⟨u3, e1, h⟩ := q_bind h
      refine x_callS0 C dX12_canStay_24 lkM_X12_213 mS_X12_isIn (c_X12_isIn _ _ _ _ _ _ e1) rfl rfl (Nat.le_of_ble_eq_true rfl) (by decide) (by decide) ?_
      refine q_if_eq (tgt := 48) C dX12_canStay_27 (by decide) h (fun _ h => ?_) (fun _ h => ?_)
      · refine x_iconst (v := (0 : Int32)) C dX12_canStay_48 (by decide) ?_
        exact q_zret (res := (r, M)) C dX12_canStay_49 rfl (by decide) (by decide) (q_rqE h).1 (congrArg (fun z => (z, M)) (q_rqE h).2)
      · refine q_aload_n C dX12_canStay_30 rfl ?_
        refine x_iconst (v := (4 : Int32)) C dX12_canStay_31 (by decide) ?_
        refine q_iload_n C dX12_canStay_32 rfl ?_
        refine q_imul C dX12_canStay_33 ?_
        refine x_iconst (v := (0 : Int32)) C dX12_canStay_34 (by decide) ?_
        refine q_iadd C dX12_canStay_35 ?_
        refine x_iald C dX12_canStay_36 h (fun v4 h => ?_)
        refine q_iload_n C dX12_canStay_37 rfl ?_
        refine q_iadd C dX12_canStay_38 ?_
        refine x_bipush (v := (99 : Int32)) C dX12_canStay_39 (by decide) ?_
        refine q_icmp_gt (tgt := 48) C dX12_canStay_41 (by decide) h (fun _ h => ?_) (fun _ h => ?_)
        · refine x_iconst (v := (0 : Int32)) C dX12_canStay_48 (by decide) ?_
          exact q_zret (res := (r, M)) C dX12_canStay_49 rfl (by decide) (by decide) (q_rqE h).1 (congrArg (fun z => (z, M)) (q_rqE h).2)
        · refine x_iconst (v := (1 : Int32)) C dX12_canStay_44 (by decide) ?_
          refine q_goto (tgt := 49) C dX12_canStay_45 (by decide) ?_
          exact q_zret (res := (r, M)) C dX12_canStay_49 rfl (by decide) (by decide) (q_rqE h).1 (congrArg (fun z => (z, M)) (q_rqE h).2)
    · refine x_iconst (v := (0 : Int32)) C dX12_canStay_48 (by decide) ?_
      exact q_zret (res := (r, M)) C dX12_canStay_49 rfl (by decide) (by decide) (q_rqE h).1 (congrArg (fun z => (z, M)) (q_rqE h).2)
noncomputable def F_X12_stay (l0 : Nat) (l1 : Int32) (l2 : Int32) (M : q_Mem) : Option (Int32 × q_Mem) := (q_pI M l0 12 0 (0 : Int32) (fun M1 => (q_gR M1 l0 12 32 (fun c2 => q_nn c2 (fun r3 => (q_ob M1 l0 12 ((F_X12_canStay l0 r3 l1 l2 M1).bind (fun u4 => (if u4 = 0 then some ((-1 : Int32), M1) else (q_ob M1 l0 12 ((F_X12_remember l0 M1).bind (fun x => match x with | (_, M6) => (q_gR M6 l0 12 32 (fun c7 => q_nn c7 (fun r8 => (q_lI M6 0 r8 (((4 : Int32) * l1) + (0 : Int32)) (fun v9 => (q_tI M6 r8 (((4 : Int32) * l1) + (0 : Int32)) (v9 + l2) (fun M10 => (q_gR M10 l0 12 32 (fun c11 => q_nn c11 (fun r12 => (q_lI M10 0 r12 (((4 : Int32) * l1) + (0 : Int32)) (fun v13 => some (v13, M10)))))))))))))))))))))))))
set_option maxRecDepth 100000 in
set_option maxHeartbeats 4000000 in
theorem c_X12_stay (l : Launch) (G : q_G) (l0 : Nat) (l1 : Int32) (l2 : Int32) (M : q_Mem) {r : Int32} {M' : q_Mem} (h : F_X12_stay l0 l1 l2 M = some (r, M')) : q_Met l G yX12_stay cX12_stay 3 (Option.some Jvm.ClassFile.FieldType.int) 3 0 0 [.ref l0, .int l1, .int l2] M (some (.int r)) M' := by
  unfold F_X12_stay at h
  refine q_enter [some (.ref l0), some (.int l1), some (.int l2)] (by decide) (Nat.le_of_ble_eq_true rfl) rfl (fun K C => ?_)
  refine q_aload_n C dX12_stay_0 rfl ?_
  refine x_iconst (v := (0 : Int32)) C dX12_stay_1 (by decide) ?_
  refine x_putI (ci := 12) (j := 0) C dX12_stay_2 lkF_X12_92 (fun r hr => by cases hr; rfl) rfl h (fun M1 h => ?_)
  refine q_aload_n C dX12_stay_5 rfl ?_
  refine q_aload_n C dX12_stay_6 rfl ?_
  refine x_getR (ci := 12) (j := 32) C dX12_stay_7 lkF_X12_61 rfl h (fun c2 h => ?_)
  refine x_nn h (fun r3 h => ?_)
  refine q_iload_n C dX12_stay_10 rfl ?_
  refine q_iload_n C dX12_stay_11 rfl ?_
  obtain ⟨hk, h⟩ := q_obE h
  obtain ⟨u4, e1, h⟩ := q_bind h
  refine x_callV0 C dX12_stay_12 lkM_X12_386 mV_X12_canStay ⟨_, rfl, rfl⟩ hk (c_X12_canStay _ _ _ _ _ _ _ e1) rfl rfl (Nat.le_of_ble_eq_true rfl) (by decide) (by decide) ?_
  refine q_if_ne (tgt := 20) C dX12_stay_15 (by decide) h (fun _ h => ?_) (fun _ h => ?_)
  · refine x_iconst (v := (-1 : Int32)) C dX12_stay_18 (by decide) ?_
    exact q_iret C dX12_stay_19 rfl (by decide) (by decide) (Option.some.inj h)
  · refine q_aload_n C dX12_stay_20 rfl ?_
    obtain ⟨hk, h⟩ := q_obE h
    obtain ⟨⟨_, M6⟩, e1, h⟩ := q_bind h
    refine x_callVv0 C dX12_stay_21 lkM_X12_367 mV_X12_remember ⟨_, rfl, rfl⟩ hk (c_X12_remember _ _ _ _ e1) rfl rfl (Nat.le_of_ble_eq_true rfl) (by decide) (by decide) ?_
    refine q_aload_n C dX12_stay_24 rfl ?_
    refine x_getR (ci := 12) (j := 32) C dX12_stay_25 lkF_X12_61 rfl h (fun c7 h => ?_)
    refine x_nn h (fun r8 h => ?_)
    refine x_iconst (v := (4 : Int32)) C dX12_stay_28 (by decide) ?_
    refine q_iload_n C dX12_stay_29 rfl ?_
    refine q_imul C dX12_stay_30 ?_
    refine x_iconst (v := (0 : Int32)) C dX12_stay_31 (by decide) ?_
    refine q_iadd C dX12_stay_32 ?_
    refine q_dup2 C dX12_stay_33 rfl rfl ?_
    refine x_iald C dX12_stay_34 h (fun v9 h => ?_)
    refine q_iload_n C dX12_stay_35 rfl ?_
    refine q_iadd C dX12_stay_36 ?_
    refine x_iast C dX12_stay_37 h (fun M10 h => ?_)
    refine q_aload_n C dX12_stay_38 rfl ?_
    refine x_getR (ci := 12) (j := 32) C dX12_stay_39 lkF_X12_61 rfl h (fun c11 h => ?_)
    refine x_nn h (fun r12 h => ?_)
    refine x_iconst (v := (4 : Int32)) C dX12_stay_42 (by decide) ?_
    refine q_iload_n C dX12_stay_43 rfl ?_
    refine q_imul C dX12_stay_44 ?_
    refine x_iconst (v := (0 : Int32)) C dX12_stay_45 (by decide) ?_
    refine q_iadd C dX12_stay_46 ?_
    refine x_iald C dX12_stay_47 h (fun v13 h => ?_)
    exact q_iret C dX12_stay_48 rfl (by decide) (by decide) (Option.some.inj h)
noncomputable def F_X12_sign (l0 : Nat) (l1 : Int32) (l2 : Int32) (M : q_Mem) : Option (Int32 × q_Mem) := (q_pI M l0 12 0 (0 : Int32) (fun M1 => (q_ob M1 l0 12 ((F_X12_isGuest l0 l1 M1).bind (fun u2 => (if u2 = 0 then some ((-1 : Int32), M1) else ((F_X12_isIn l2.toInt64 (0 : Int64) (3 : Int64) M1).bind (fun u3 => (if u3 = 0 then some ((-1 : Int32), M1) else (q_gR M1 l0 12 32 (fun c4 => q_nn c4 (fun r5 => (q_lI M1 0 r5 (((4 : Int32) * l1) + (1 : Int32)) (fun v6 => (if v6 = l2 then some ((-1 : Int32), M1) else (q_ob M1 l0 12 ((F_X12_remember l0 M1).bind (fun x => match x with | (_, M8) => (q_gR M8 l0 12 32 (fun c9 => q_nn c9 (fun r10 => (q_lI M8 0 r10 (((4 : Int32) * l1) + (1 : Int32)) (fun v11 => (q_gR M8 l0 12 32 (fun c12 => q_nn c12 (fun r13 => (q_tI M8 r13 (((4 : Int32) * l1) + (1 : Int32)) l2 (fun M14 => some (v11, M14)))))))))))))))))))))))))))))
set_option maxRecDepth 100000 in
set_option maxHeartbeats 4000000 in
theorem c_X12_sign (l : Launch) (G : q_G) (l0 : Nat) (l1 : Int32) (l2 : Int32) (M : q_Mem) {r : Int32} {M' : q_Mem} (h : F_X12_sign l0 l1 l2 M = some (r, M')) : q_Met l G yX12_sign cX12_sign 4 (Option.some Jvm.ClassFile.FieldType.int) 2 0 0 [.ref l0, .int l1, .int l2] M (some (.int r)) M' := by
  unfold F_X12_sign at h
  refine q_enter [some (.ref l0), some (.int l1), some (.int l2), none] (by decide) (Nat.le_of_ble_eq_true rfl) rfl (fun K C => ?_)
  refine q_aload_n C dX12_sign_0 rfl ?_
  refine x_iconst (v := (0 : Int32)) C dX12_sign_1 (by decide) ?_
  refine x_putI (ci := 12) (j := 0) C dX12_sign_2 lkF_X12_92 (fun r hr => by cases hr; rfl) rfl h (fun M1 h => ?_)
  refine q_aload_n C dX12_sign_5 rfl ?_
  refine q_iload_n C dX12_sign_6 rfl ?_
  obtain ⟨hk, h⟩ := q_obE h
  obtain ⟨u2, e1, h⟩ := q_bind h
  refine x_callV0 C dX12_sign_7 lkM_X12_360 mV_X12_isGuest ⟨_, rfl, rfl⟩ hk (c_X12_isGuest _ _ _ _ _ e1) rfl rfl (Nat.le_of_ble_eq_true rfl) (by decide) (by decide) ?_
  refine q_if_eq (tgt := 39) C dX12_sign_10 (by decide) h (fun _ h => ?_) (fun _ h => ?_)
  · refine x_iconst (v := (-1 : Int32)) C dX12_sign_39 (by decide) ?_
    exact q_iret C dX12_sign_40 rfl (by decide) (by decide) (Option.some.inj h)
  · refine q_iload_n C dX12_sign_13 rfl ?_
    refine q_i2l C dX12_sign_14 ?_
    refine x_lconst (v := (0 : Int64)) C dX12_sign_15 (by decide) ?_
    refine q_ldc2 (v := (3 : Int64)) C dX12_sign_16 wd_1654 ?_
    obtain ⟨u3, e1, h⟩ := q_bind h
    refine x_callS0 C dX12_sign_19 lkM_X12_213 mS_X12_isIn (c_X12_isIn _ _ _ _ _ _ e1) rfl rfl (Nat.le_of_ble_eq_true rfl) (by decide) (by decide) ?_
    refine q_if_eq (tgt := 39) C dX12_sign_22 (by decide) h (fun _ h => ?_) (fun _ h => ?_)
    · refine x_iconst (v := (-1 : Int32)) C dX12_sign_39 (by decide) ?_
      exact q_iret C dX12_sign_40 rfl (by decide) (by decide) (Option.some.inj h)
    · refine q_aload_n C dX12_sign_25 rfl ?_
      refine x_getR (ci := 12) (j := 32) C dX12_sign_26 lkF_X12_61 rfl h (fun c4 h => ?_)
      refine x_nn h (fun r5 h => ?_)
      refine x_iconst (v := (4 : Int32)) C dX12_sign_29 (by decide) ?_
      refine q_iload_n C dX12_sign_30 rfl ?_
      refine q_imul C dX12_sign_31 ?_
      refine x_iconst (v := (1 : Int32)) C dX12_sign_32 (by decide) ?_
      refine q_iadd C dX12_sign_33 ?_
      refine x_iald C dX12_sign_34 h (fun v6 h => ?_)
      refine q_iload_n C dX12_sign_35 rfl ?_
      refine q_icmp_ne (tgt := 41) C dX12_sign_36 (by decide) h (fun _ h => ?_) (fun _ h => ?_)
      · refine x_iconst (v := (-1 : Int32)) C dX12_sign_39 (by decide) ?_
        exact q_iret C dX12_sign_40 rfl (by decide) (by decide) (Option.some.inj h)
      · refine q_aload_n C dX12_sign_41 rfl ?_
        obtain ⟨hk, h⟩ := q_obE h
        obtain ⟨⟨_, M8⟩, e1, h⟩ := q_bind h
        refine x_callVv0 C dX12_sign_42 lkM_X12_367 mV_X12_remember ⟨_, rfl, rfl⟩ hk (c_X12_remember _ _ _ _ e1) rfl rfl (Nat.le_of_ble_eq_true rfl) (by decide) (by decide) ?_
        refine q_aload_n C dX12_sign_45 rfl ?_
        refine x_getR (ci := 12) (j := 32) C dX12_sign_46 lkF_X12_61 rfl h (fun c9 h => ?_)
        refine x_nn h (fun r10 h => ?_)
        refine x_iconst (v := (4 : Int32)) C dX12_sign_49 (by decide) ?_
        refine q_iload_n C dX12_sign_50 rfl ?_
        refine q_imul C dX12_sign_51 ?_
        refine x_iconst (v := (1 : Int32)) C dX12_sign_52 (by decide) ?_
        refine q_iadd C dX12_sign_53 ?_
        refine x_iald C dX12_sign_54 h (fun v11 h => ?_)
        refine q_istore_n (L' := [some (.ref l0), some (.int l1), some (.int l2), some (.int v11)]) C dX12_sign_55 (by decide) rfl rfl ?_
        refine q_aload_n C dX12_sign_56 rfl ?_
        refine x_getR (ci := 12) (j := 32) C dX12_sign_57 lkF_X12_61 rfl h (fun c12 h => ?_)
        refine x_nn h (fun r13 h => ?_)
        refine x_iconst (v := (4 : Int32)) C dX12_sign_60 (by decide) ?_
        refine q_iload_n C dX12_sign_61 rfl ?_
        refine q_imul C dX12_sign_62 ?_
        refine x_iconst (v := (1 : Int32)) C dX12_sign_63 (by decide) ?_
        refine q_iadd C dX12_sign_64 ?_
        refine q_iload_n C dX12_sign_65 rfl ?_
        refine x_iast C dX12_sign_66 h (fun M14 h => ?_)
        refine q_iload_n C dX12_sign_67 rfl ?_
        exact q_iret C dX12_sign_68 rfl (by decide) (by decide) (Option.some.inj h)
noncomputable def F_X12_draw (l0 : Nat) (l1 : Int32) (M : q_Mem) : Option (Int32 × q_Mem) := (q_gL M l0 12 43 (fun v1 => (q_pL M l0 12 43 ((v1 * (6364136223846793005 : Int64)) + (1442695040888963407 : Int64)) (fun M2 => (q_gL M2 l0 12 43 (fun v3 => (q_rml ((v3.toUInt64 >>> ((33 : Int32).toInt64.toUInt64 &&& Int64.toUInt64 63)).toInt64) l1.toInt64 (fun v4 => some (v4.toInt32, M2)))))))))
set_option maxRecDepth 100000 in
set_option maxHeartbeats 4000000 in
theorem c_X12_draw (l : Launch) (G : q_G) (l0 : Nat) (l1 : Int32) (M : q_Mem) {r : Int32} {M' : q_Mem} (h : F_X12_draw l0 l1 M = some (r, M')) : q_Met l G yX12_draw cX12_draw 2 (Option.some Jvm.ClassFile.FieldType.int) 1 0 0 [.ref l0, .int l1] M (some (.int r)) M' := by
  unfold F_X12_draw at h
  refine q_enter [some (.ref l0), some (.int l1)] (by decide) (Nat.le_of_ble_eq_true rfl) rfl (fun K C => ?_)
  refine q_aload_n C dX12_draw_0 rfl ?_
  refine q_aload_n C dX12_draw_1 rfl ?_
  refine x_getL (ci := 12) (j := 43) C dX12_draw_2 lkF_X12_392 rfl h (fun v1 h => ?_)
  refine q_ldc2 (v := (6364136223846793005 : Int64)) C dX12_draw_5 wd_1664 ?_
  refine q_lmul C dX12_draw_8 ?_
  refine q_ldc2 (v := (1442695040888963407 : Int64)) C dX12_draw_9 wd_1665 ?_
  refine q_ladd C dX12_draw_12 ?_
  refine x_putL (ci := 12) (j := 43) C dX12_draw_13 lkF_X12_392 (fun r hr => by cases hr; rfl) rfl h (fun M2 h => ?_)
  refine q_aload_n C dX12_draw_16 rfl ?_
  refine x_getL (ci := 12) (j := 43) C dX12_draw_17 lkF_X12_392 rfl h (fun v3 h => ?_)
  refine x_bipush (v := (33 : Int32)) C dX12_draw_20 (by decide) ?_
  refine q_lushr C dX12_draw_22 ?_
  refine q_iload_n C dX12_draw_23 rfl ?_
  refine q_i2l C dX12_draw_24 ?_
  refine q_lrem C dX12_draw_25 h (fun v4 h => ?_)
  refine q_l2i C dX12_draw_26 ?_
  exact q_iret C dX12_draw_27 rfl (by decide) (by decide) (Option.some.inj h)
noncomputable def J_X12_years_160_49 (l0 : Nat) (l1 : Int32) (l4 : Int32) (M : q_Mem) : Option ((Int32 × q_Mem) ⊕ (q_Mem)) := (q_gR M l0 12 32 (fun c24 => q_nn c24 (fun r25 => (q_ob M l0 12 ((F_X12_goDay l0 r25 M).bind (fun x => match x with | (u26, M27) => some (.inl ((l4 + (1 : Int32)), M27))))))))
set_option maxRecDepth 100000 in
set_option maxHeartbeats 4000000 in
theorem jW_X12_years_160_49 {K : q_K} {Q : State → Prop} (C : q_C K yX12_years cX12_years 6 (Option.some Jvm.ClassFile.FieldType.int) 135 2 0) (l0 : Nat) (l1 : Int32) (l4 : Int32) (M : q_Mem) {stp : (Int32 × q_Mem) ⊕ (q_Mem)} (h : J_X12_years_160_49 l0 l1 l4 M = some stp) (kC : ∀ (l4 : Int32) (M : q_Mem), stp = .inl (l4, M) → q_W K 6 Q 0 0 M 49 [some (.ref l0), some (.int l1), none, none, some (.int l4), none] []) (kE0 : ∀ (M : q_Mem), stp = .inr M → q_W K 6 Q 0 0 M 176 [some (.ref l0), none, none, none, none, none] []) : q_W K 6 Q 0 0 M 160 [some (.ref l0), some (.int l1), none, none, some (.int l4), none] [] := by
  unfold J_X12_years_160_49 at h
  refine q_aload_n C dX12_years_160 rfl ?_
  refine q_aload_n C dX12_years_161 rfl ?_
  refine x_getR (ci := 12) (j := 32) C dX12_years_162 lkF_X12_61 rfl h (fun c24 h => ?_)
  refine x_nn h (fun r25 h => ?_)
  obtain ⟨hk, h⟩ := q_obE h
  obtain ⟨⟨u26, M27⟩, e1, h⟩ := q_bind h
  refine x_callV C dX12_years_165 lkM_X12_370 mV_X12_goDay ⟨_, rfl, rfl⟩ hk (c_X12_goDay _ _ _ _ _ e1) rfl rfl (Nat.le_of_ble_eq_true rfl) (by decide) (by decide) ?_
  refine q_istore (L' := [some (.ref l0), some (.int l1), none, none, some (.int l4), some (.int u26)]) C dX12_years_168 (by decide) rfl rfl ?_
  refine x_iinc (w := (1 : Int32)) (L' := [some (.ref l0), some (.int l1), none, none, some (.int (l4 + (1 : Int32))), some (.int u26)]) C dX12_years_170 rfl (by decide) (by decide) rfl rfl ?_
  refine q_goto (tgt := 49) C dX12_years_173 (by decide) ?_
  exact q_msk [true, true, false, false, true, false] (kC _ _ (Option.some.inj h).symm)
noncomputable def J_X12_years_93_49 (l0 : Nat) (l1 : Int32) (l4 : Int32) (M : q_Mem) : Option ((Int32 × q_Mem) ⊕ (q_Mem)) := (q_gR M l0 12 32 (fun c16 => q_nn c16 (fun r17 => (q_gI M l0 12 26 (fun v18 => (q_ob M l0 12 ((F_X12_draw l0 v18 M).bind (fun x => match x with | (u19, M20) => (q_tI M20 r17 (34 : Int32) ((1 : Int32) + u19) (fun M21 => (q_ob M21 l0 12 ((F_X12_draw l0 (10 : Int32) M21).bind (fun x => match x with | (u22, M23) => (if u22 < (8 : Int32) then J_X12_years_160_49 l0 l1 l4 M23 else (q_gI M23 l0 12 27 (fun v28 => (q_ob M23 l0 12 ((F_X12_draw l0 v28 M23).bind (fun x => match x with | (u29, M30) => (q_gR M30 l0 12 32 (fun c31 => q_nn c31 (fun r32 => (q_ob M30 l0 12 ((F_X12_canStay l0 r32 u29 (2 : Int32) M30).bind (fun u33 => (if u33 = 0 then J_X12_years_160_49 l0 l1 l4 M30 else (q_gR M30 l0 12 32 (fun c34 => q_nn c34 (fun r35 => (q_lI M30 0 r35 (((4 : Int32) * u29) + (0 : Int32)) (fun v36 => (q_tI M30 r35 (((4 : Int32) * u29) + (0 : Int32)) (v36 + (2 : Int32)) (fun M37 => J_X12_years_160_49 l0 l1 l4 M37)))))))))))))))))))))))))))))))))
set_option maxRecDepth 100000 in
set_option maxHeartbeats 4000000 in
theorem jW_X12_years_93_49 {K : q_K} {Q : State → Prop} (C : q_C K yX12_years cX12_years 6 (Option.some Jvm.ClassFile.FieldType.int) 135 2 0) (l0 : Nat) (l1 : Int32) (l4 : Int32) (M : q_Mem) {stp : (Int32 × q_Mem) ⊕ (q_Mem)} (h : J_X12_years_93_49 l0 l1 l4 M = some stp) (kC : ∀ (l4 : Int32) (M : q_Mem), stp = .inl (l4, M) → q_W K 6 Q 0 0 M 49 [some (.ref l0), some (.int l1), none, none, some (.int l4), none] []) (kE0 : ∀ (M : q_Mem), stp = .inr M → q_W K 6 Q 0 0 M 176 [some (.ref l0), none, none, none, none, none] []) : q_W K 6 Q 0 0 M 93 [some (.ref l0), some (.int l1), none, none, some (.int l4), none] [] := by
  unfold J_X12_years_93_49 at h
  refine q_aload_n C dX12_years_93 rfl ?_
  refine x_getR (ci := 12) (j := 32) C dX12_years_94 lkF_X12_61 rfl h (fun c16 h => ?_)
  refine x_nn h (fun r17 h => ?_)
  refine x_bipush (v := (34 : Int32)) C dX12_years_97 (by decide) ?_
  refine x_iconst (v := (1 : Int32)) C dX12_years_99 (by decide) ?_
  refine q_aload_n C dX12_years_100 rfl ?_
  refine q_aload_n C dX12_years_101 rfl ?_
  refine x_getI (ci := 12) (j := 26) C dX12_years_102 lkF_X12_284 rfl h (fun v18 h => ?_)
  obtain ⟨hk, h⟩ := q_obE h
  obtain ⟨⟨u19, M20⟩, e1, h⟩ := q_bind h
  refine x_callV0 C dX12_years_105 lkM_X12_402 mV_X12_draw ⟨_, rfl, rfl⟩ hk (c_X12_draw _ _ _ _ _ e1) rfl rfl (Nat.le_of_ble_eq_true rfl) (by decide) (by decide) ?_
  refine q_iadd C dX12_years_108 ?_
  refine x_iast C dX12_years_109 h (fun M21 h => ?_)
  refine q_aload_n C dX12_years_110 rfl ?_
  refine x_bipush (v := (10 : Int32)) C dX12_years_111 (by decide) ?_
  obtain ⟨hk, h⟩ := q_obE h
  obtain ⟨⟨u22, M23⟩, e1, h⟩ := q_bind h
  refine x_callV0 C dX12_years_113 lkM_X12_402 mV_X12_draw ⟨_, rfl, rfl⟩ hk (c_X12_draw _ _ _ _ _ e1) rfl rfl (Nat.le_of_ble_eq_true rfl) (by decide) (by decide) ?_
  refine x_bipush (v := (8 : Int32)) C dX12_years_116 (by decide) ?_
  refine q_icmp_lt (tgt := 160) C dX12_years_118 (by decide) h (fun _ h => ?_) (fun _ h => ?_)
  · exact q_msk [true, true, false, false, true, false] (jW_X12_years_160_49 C l0 l1 l4 M23 h kC kE0)
  · refine q_aload_n C dX12_years_121 rfl ?_
    refine q_aload_n C dX12_years_122 rfl ?_
    refine x_getI (ci := 12) (j := 27) C dX12_years_123 lkF_X12_287 rfl h (fun v28 h => ?_)
    obtain ⟨hk, h⟩ := q_obE h
    obtain ⟨⟨u29, M30⟩, e1, h⟩ := q_bind h
    refine x_callV0 C dX12_years_126 lkM_X12_402 mV_X12_draw ⟨_, rfl, rfl⟩ hk (c_X12_draw _ _ _ _ _ e1) rfl rfl (Nat.le_of_ble_eq_true rfl) (by decide) (by decide) ?_
    refine q_istore (L' := [some (.ref l0), some (.int l1), none, none, some (.int l4), some (.int u29)]) C dX12_years_129 (by decide) rfl rfl ?_
    refine q_aload_n C dX12_years_131 rfl ?_
    refine q_aload_n C dX12_years_132 rfl ?_
    refine x_getR (ci := 12) (j := 32) C dX12_years_133 lkF_X12_61 rfl h (fun c31 h => ?_)
    refine x_nn h (fun r32 h => ?_)
    refine q_iload C dX12_years_136 rfl ?_
    refine x_iconst (v := (2 : Int32)) C dX12_years_138 (by decide) ?_
    obtain ⟨hk, h⟩ := q_obE h
    obtain ⟨u33, e1, h⟩ := q_bind h
    refine x_callV0 C dX12_years_139 lkM_X12_386 mV_X12_canStay ⟨_, rfl, rfl⟩ hk (c_X12_canStay _ _ _ _ _ _ _ e1) rfl rfl (Nat.le_of_ble_eq_true rfl) (by decide) (by decide) ?_
    refine q_if_eq (tgt := 160) C dX12_years_142 (by decide) h (fun _ h => ?_) (fun _ h => ?_)
    · exact q_msk [true, true, false, false, true, false] (jW_X12_years_160_49 C l0 l1 l4 M30 h kC kE0)
    · refine q_aload_n C dX12_years_145 rfl ?_
      refine x_getR (ci := 12) (j := 32) C dX12_years_146 lkF_X12_61 rfl h (fun c34 h => ?_)
      refine x_nn h (fun r35 h => ?_)
      refine x_iconst (v := (4 : Int32)) C dX12_years_149 (by decide) ?_
      refine q_iload C dX12_years_150 rfl ?_
      refine q_imul C dX12_years_152 ?_
      refine x_iconst (v := (0 : Int32)) C dX12_years_153 (by decide) ?_
      refine q_iadd C dX12_years_154 ?_
      refine q_dup2 C dX12_years_155 rfl rfl ?_
      refine x_iald C dX12_years_156 h (fun v36 h => ?_)
      refine x_iconst (v := (2 : Int32)) C dX12_years_157 (by decide) ?_
      refine q_iadd C dX12_years_158 ?_
      refine x_iast C dX12_years_159 h (fun M37 h => ?_)
      exact q_msk [true, true, false, false, true, false] (jW_X12_years_160_49 C l0 l1 l4 M37 h kC kE0)
noncomputable def B_X12_years_49 (l0 : Nat) (l1 : Int32) (l4 : Int32) (M : q_Mem) : Option ((Int32 × q_Mem) ⊕ (q_Mem)) := (if l4 < l1 then (q_ob M l0 12 ((F_X12_remember l0 M).bind (fun x => match x with | (_, M9) => (q_ob M9 l0 12 ((F_X12_draw l0 (10 : Int32) M9).bind (fun x => match x with | (u10, M11) => (q_gI M11 l0 12 35 (fun v12 => (if u10 < v12 then (q_gR M11 l0 12 32 (fun c13 => q_nn c13 (fun r14 => ((F_X12_canBeIll r14 M11).bind (fun u15 => (if u15 = 0 then J_X12_years_93_49 l0 l1 l4 M11 else (q_gR M11 l0 12 32 (fun c38 => q_nn c38 (fun r39 => (q_lI M11 0 r39 (32 : Int32) (fun v40 => (q_tI M11 r39 (32 : Int32) (v40 + (1 : Int32)) (fun M41 => J_X12_years_93_49 l0 l1 l4 M41))))))))))))) else J_X12_years_93_49 l0 l1 l4 M11))))))))) else some (.inr M))
set_option maxRecDepth 100000 in
set_option maxHeartbeats 4000000 in
theorem bW_X12_years_49 {K : q_K} {Q : State → Prop} (C : q_C K yX12_years cX12_years 6 (Option.some Jvm.ClassFile.FieldType.int) 135 2 0) (l0 : Nat) (l1 : Int32) (l4 : Int32) (M : q_Mem) {stp : (Int32 × q_Mem) ⊕ (q_Mem)} (h : B_X12_years_49 l0 l1 l4 M = some stp) (kC : ∀ (l4 : Int32) (M : q_Mem), stp = .inl (l4, M) → q_W K 6 Q 0 0 M 49 [some (.ref l0), some (.int l1), none, none, some (.int l4), none] []) (kE0 : ∀ (M : q_Mem), stp = .inr M → q_W K 6 Q 0 0 M 176 [some (.ref l0), none, none, none, none, none] []) : q_W K 6 Q 0 0 M 49 [some (.ref l0), some (.int l1), none, none, some (.int l4), none] [] := by
  unfold B_X12_years_49 at h
  refine q_iload C dX12_years_49 rfl ?_
  refine q_iload_n C dX12_years_51 rfl ?_
  refine q_icmp_ge (tgt := 176) C dX12_years_52 (by decide) h (fun _ h => ?_) (fun _ h => ?_)
  · refine q_aload_n C dX12_years_55 rfl ?_
    obtain ⟨hk, h⟩ := q_obE h
    obtain ⟨⟨_, M9⟩, e1, h⟩ := q_bind h
    refine x_callVv0 C dX12_years_56 lkM_X12_367 mV_X12_remember ⟨_, rfl, rfl⟩ hk (c_X12_remember _ _ _ _ e1) rfl rfl (Nat.le_of_ble_eq_true rfl) (by decide) (by decide) ?_
    refine q_aload_n C dX12_years_59 rfl ?_
    refine x_bipush (v := (10 : Int32)) C dX12_years_60 (by decide) ?_
    obtain ⟨hk, h⟩ := q_obE h
    obtain ⟨⟨u10, M11⟩, e1, h⟩ := q_bind h
    refine x_callV0 C dX12_years_62 lkM_X12_402 mV_X12_draw ⟨_, rfl, rfl⟩ hk (c_X12_draw _ _ _ _ _ e1) rfl rfl (Nat.le_of_ble_eq_true rfl) (by decide) (by decide) ?_
    refine q_aload_n C dX12_years_65 rfl ?_
    refine x_getI (ci := 12) (j := 35) C dX12_years_66 lkF_X12_71 rfl h (fun v12 h => ?_)
    refine q_icmp_ge (tgt := 93) C dX12_years_69 (by decide) h (fun _ h => ?_) (fun _ h => ?_)
    · refine q_aload_n C dX12_years_72 rfl ?_
      refine x_getR (ci := 12) (j := 32) C dX12_years_73 lkF_X12_61 rfl h (fun c13 h => ?_)
      refine x_nn h (fun r14 h => ?_)
      obtain ⟨u15, e1, h⟩ := q_bind h
      refine x_callS0 C dX12_years_76 lkM_X12_376 mS_X12_canBeIll (c_X12_canBeIll _ _ _ _ e1) rfl rfl (Nat.le_of_ble_eq_true rfl) (by decide) (by decide) ?_
      refine q_if_eq (tgt := 93) C dX12_years_79 (by decide) h (fun _ h => ?_) (fun _ h => ?_)
      · exact q_msk [true, true, false, false, true, false] (jW_X12_years_93_49 C l0 l1 l4 M11 h kC kE0)
      · refine q_aload_n C dX12_years_82 rfl ?_
        refine x_getR (ci := 12) (j := 32) C dX12_years_83 lkF_X12_61 rfl h (fun c38 h => ?_)
        refine x_nn h (fun r39 h => ?_)
        refine x_bipush (v := (32 : Int32)) C dX12_years_86 (by decide) ?_
        refine q_dup2 C dX12_years_88 rfl rfl ?_
        refine x_iald C dX12_years_89 h (fun v40 h => ?_)
        refine x_iconst (v := (1 : Int32)) C dX12_years_90 (by decide) ?_
        refine q_iadd C dX12_years_91 ?_
        refine x_iast C dX12_years_92 h (fun M41 h => ?_)
        exact q_msk [true, true, false, false, true, false] (jW_X12_years_93_49 C l0 l1 l4 M41 h kC kE0)
    · exact q_msk [true, true, false, false, true, false] (jW_X12_years_93_49 C l0 l1 l4 M11 h kC kE0)
  · exact q_msk [true, false, false, false, false, false] (kE0 _ (Option.some.inj h).symm)
set_option maxRecDepth 100000 in
set_option maxHeartbeats 4000000 in
theorem lW_X12_years_49 {K : q_K} {Q : State → Prop} (C : q_C K yX12_years cX12_years 6 (Option.some Jvm.ClassFile.FieldType.int) 135 2 0) (l0 : Nat) (l1 : Int32) (n : Nat) : ∀ (l4 : Int32) (M : q_Mem) (e : (q_Mem)), q_lp (fun s => B_X12_years_49 l0 l1 s.1 s.2) n (l4, M) = some e → (∀ (M : q_Mem), e = M → q_W K 6 Q 0 0 M 176 [some (.ref l0), none, none, none, none, none] []) → q_W K 6 Q 0 0 M 49 [some (.ref l0), some (.int l1), none, none, some (.int l4), none] [] := by
  induction n with
  | zero => intro l4 M e h; cases h
  | succ n ih =>
    intro l4 M e h kE0
    obtain ⟨stp, e1, e2⟩ := q_bind h
    refine bW_X12_years_49 C l0 l1 l4 M e1 (fun a0 a1 hs => ?_) (fun b0 hs => ?_)
    · subst hs; exact ih _ _ _ e2 kE0
    · subst hs; exact kE0 _ (Option.some.inj e2).symm
noncomputable def F_X12_years (l0 : Nat) (l1 : Int32) (l2 : Int64) (M : q_Mem) : Option (Int32 × q_Mem) := (q_pI M l0 12 0 (0 : Int32) (fun M1 => (q_gI M1 l0 12 27 (fun v2 => (if v2 = 0 then some ((-1 : Int32), M1) else ((F_X12_isIn l1.toInt64 (1 : Int64) (30 : Int64) M1).bind (fun u3 => (if u3 = 0 then some ((-1 : Int32), M1) else (q_gR M1 l0 12 32 (fun c4 => q_nn c4 (fun r5 => (q_lI M1 0 r5 (35 : Int32) (fun v6 => (if (999 : Int32) < (v6 + l1) then some ((-1 : Int32), M1) else (q_pL M1 l0 12 43 l2 (fun M7 => (q_lp (fun s => B_X12_years_49 l0 l1 s.1 s.2) q_fu ((0 : Int32), M7)).bind (fun e42 => match e42 with | M43 => (q_gR M43 l0 12 32 (fun c44 => q_nn c44 (fun r45 => (q_lI M43 0 r45 (35 : Int32) (fun v46 => some (v46, M43)))))))))))))))))))))))
set_option maxRecDepth 100000 in
set_option maxHeartbeats 4000000 in
theorem c_X12_years (l : Launch) (G : q_G) (l0 : Nat) (l1 : Int32) (l2 : Int64) (M : q_Mem) {r : Int32} {M' : q_Mem} (h : F_X12_years l0 l1 l2 M = some (r, M')) : q_Met l G yX12_years cX12_years 6 (Option.some Jvm.ClassFile.FieldType.int) 135 2 0 [.ref l0, .int l1, .long l2] M (some (.int r)) M' := by
  unfold F_X12_years at h
  refine q_enter [some (.ref l0), some (.int l1), some (.long l2), none, none, none] (by decide) (Nat.le_of_ble_eq_true rfl) rfl (fun K C => ?_)
  refine q_aload_n C dX12_years_0 rfl ?_
  refine x_iconst (v := (0 : Int32)) C dX12_years_1 (by decide) ?_
  refine x_putI (ci := 12) (j := 0) C dX12_years_2 lkF_X12_92 (fun r hr => by cases hr; rfl) rfl h (fun M1 h => ?_)
  refine q_aload_n C dX12_years_5 rfl ?_
  refine x_getI (ci := 12) (j := 27) C dX12_years_6 lkF_X12_287 rfl h (fun v2 h => ?_)
  refine q_if_eq (tgt := 39) C dX12_years_9 (by decide) h (fun _ h => ?_) (fun _ h => ?_)
  · refine x_iconst (v := (-1 : Int32)) C dX12_years_39 (by decide) ?_
    exact q_iret C dX12_years_40 rfl (by decide) (by decide) (Option.some.inj h)
  · refine q_iload_n C dX12_years_12 rfl ?_
    refine q_i2l C dX12_years_13 ?_
    refine x_lconst (v := (1 : Int64)) C dX12_years_14 (by decide) ?_
    refine q_ldc2 (v := (30 : Int64)) C dX12_years_15 wd_1659 ?_
    obtain ⟨u3, e1, h⟩ := q_bind h
    refine x_callS0 C dX12_years_18 lkM_X12_213 mS_X12_isIn (c_X12_isIn _ _ _ _ _ _ e1) rfl rfl (Nat.le_of_ble_eq_true rfl) (by decide) (by decide) ?_
    refine q_if_eq (tgt := 39) C dX12_years_21 (by decide) h (fun _ h => ?_) (fun _ h => ?_)
    · refine x_iconst (v := (-1 : Int32)) C dX12_years_39 (by decide) ?_
      exact q_iret C dX12_years_40 rfl (by decide) (by decide) (Option.some.inj h)
    · refine q_aload_n C dX12_years_24 rfl ?_
      refine x_getR (ci := 12) (j := 32) C dX12_years_25 lkF_X12_61 rfl h (fun c4 h => ?_)
      refine x_nn h (fun r5 h => ?_)
      refine x_bipush (v := (35 : Int32)) C dX12_years_28 (by decide) ?_
      refine x_iald C dX12_years_30 h (fun v6 h => ?_)
      refine q_iload_n C dX12_years_31 rfl ?_
      refine q_iadd C dX12_years_32 ?_
      refine x_sipush (v := (999 : Int32)) C dX12_years_33 (by decide) ?_
      refine q_icmp_le (tgt := 41) C dX12_years_36 (by decide) h (fun _ h => ?_) (fun _ h => ?_)
      · refine x_iconst (v := (-1 : Int32)) C dX12_years_39 (by decide) ?_
        exact q_iret C dX12_years_40 rfl (by decide) (by decide) (Option.some.inj h)
      · refine q_aload_n C dX12_years_41 rfl ?_
        refine q_lload_n C dX12_years_42 rfl ?_
        refine x_putL (ci := 12) (j := 43) C dX12_years_43 lkF_X12_392 (fun r hr => by cases hr; rfl) rfl h (fun M7 h => ?_)
        refine x_iconst (v := (0 : Int32)) C dX12_years_46 (by decide) ?_
        refine q_istore (L' := [some (.ref l0), some (.int l1), some (.long l2), none, some (.int (0 : Int32)), none]) C dX12_years_47 (by decide) rfl rfl ?_
        obtain ⟨e42, he, h⟩ := q_bind h
        refine q_msk [true, true, false, false, true, false] (lW_X12_years_49 C l0 l1 q_fu _ _ _ he (fun M43 hs => ?_))
        · have hs := hs.symm
          subst hs
          refine q_aload_n C dX12_years_176 rfl ?_
          refine x_getR (ci := 12) (j := 32) C dX12_years_177 lkF_X12_61 rfl h (fun c44 h => ?_)
          refine x_nn h (fun r45 h => ?_)
          refine x_bipush (v := (35 : Int32)) C dX12_years_180 (by decide) ?_
          refine x_iald C dX12_years_182 h (fun v46 h => ?_)
          exact q_iret C dX12_years_183 rfl (by decide) (by decide) (Option.some.inj h)
noncomputable def B_X12_undo_26 (l0 : Nat) (l1 : Int32) (M : q_Mem) : Option ((Int32 × q_Mem) ⊕ (q_Mem)) := (if l1 < (217 : Int32) then (q_gR M l0 12 32 (fun c5 => q_nn c5 (fun r6 => (q_gR M l0 12 41 (fun c7 => q_nn c7 (fun r8 => (q_gI M l0 12 42 (fun v9 => (q_lI M 0 r8 (((217 : Int32) * v9) + l1) (fun v10 => (q_tI M r6 l1 v10 (fun M11 => some (.inl ((l1 + (1 : Int32)), M11)))))))))))))) else some (.inr M))
set_option maxRecDepth 100000 in
set_option maxHeartbeats 4000000 in
theorem bW_X12_undo_26 {K : q_K} {Q : State → Prop} (C : q_C K yX12_undo cX12_undo 2 (Option.some Jvm.ClassFile.FieldType.int) 1 0 0) (l0 : Nat) (l1 : Int32) (M : q_Mem) {stp : (Int32 × q_Mem) ⊕ (q_Mem)} (h : B_X12_undo_26 l0 l1 M = some stp) (kC : ∀ (l1 : Int32) (M : q_Mem), stp = .inl (l1, M) → q_W K 2 Q 0 0 M 26 [some (.ref l0), some (.int l1)] []) (kE0 : ∀ (M : q_Mem), stp = .inr M → q_W K 2 Q 0 0 M 60 [some (.ref l0), none] []) : q_W K 2 Q 0 0 M 26 [some (.ref l0), some (.int l1)] [] := by
  unfold B_X12_undo_26 at h
  refine q_iload_n C dX12_undo_26 rfl ?_
  refine x_sipush (v := (217 : Int32)) C dX12_undo_27 (by decide) ?_
  refine q_icmp_ge (tgt := 60) C dX12_undo_30 (by decide) h (fun _ h => ?_) (fun _ h => ?_)
  · refine q_aload_n C dX12_undo_33 rfl ?_
    refine x_getR (ci := 12) (j := 32) C dX12_undo_34 lkF_X12_61 rfl h (fun c5 h => ?_)
    refine x_nn h (fun r6 h => ?_)
    refine q_iload_n C dX12_undo_37 rfl ?_
    refine q_aload_n C dX12_undo_38 rfl ?_
    refine x_getR (ci := 12) (j := 41) C dX12_undo_39 lkF_X12_77 rfl h (fun c7 h => ?_)
    refine x_nn h (fun r8 h => ?_)
    refine x_sipush (v := (217 : Int32)) C dX12_undo_42 (by decide) ?_
    refine q_aload_n C dX12_undo_45 rfl ?_
    refine x_getI (ci := 12) (j := 42) C dX12_undo_46 lkF_X12_293 rfl h (fun v9 h => ?_)
    refine q_imul C dX12_undo_49 ?_
    refine q_iload_n C dX12_undo_50 rfl ?_
    refine q_iadd C dX12_undo_51 ?_
    refine x_iald C dX12_undo_52 h (fun v10 h => ?_)
    refine x_iast C dX12_undo_53 h (fun M11 h => ?_)
    refine x_iinc (w := (1 : Int32)) (L' := [some (.ref l0), some (.int (l1 + (1 : Int32)))]) C dX12_undo_54 rfl (by decide) (by decide) rfl rfl ?_
    refine q_goto (tgt := 26) C dX12_undo_57 (by decide) ?_
    exact q_msk [true, true] (kC _ _ (Option.some.inj h).symm)
  · exact q_msk [true, false] (kE0 _ (Option.some.inj h).symm)
set_option maxRecDepth 100000 in
set_option maxHeartbeats 4000000 in
theorem lW_X12_undo_26 {K : q_K} {Q : State → Prop} (C : q_C K yX12_undo cX12_undo 2 (Option.some Jvm.ClassFile.FieldType.int) 1 0 0) (l0 : Nat) (n : Nat) : ∀ (l1 : Int32) (M : q_Mem) (e : (q_Mem)), q_lp (fun s => B_X12_undo_26 l0 s.1 s.2) n (l1, M) = some e → (∀ (M : q_Mem), e = M → q_W K 2 Q 0 0 M 60 [some (.ref l0), none] []) → q_W K 2 Q 0 0 M 26 [some (.ref l0), some (.int l1)] [] := by
  induction n with
  | zero => intro l1 M e h; cases h
  | succ n ih =>
    intro l1 M e h kE0
    obtain ⟨stp, e1, e2⟩ := q_bind h
    refine bW_X12_undo_26 C l0 l1 M e1 (fun a0 a1 hs => ?_) (fun b0 hs => ?_)
    · subst hs; exact ih _ _ _ e2 kE0
    · subst hs; exact kE0 _ (Option.some.inj e2).symm
noncomputable def F_X12_undo (l0 : Nat) (M : q_Mem) : Option (Int32 × q_Mem) := (q_pI M l0 12 0 (0 : Int32) (fun M1 => (q_gI M1 l0 12 42 (fun v2 => (if v2 = 0 then some ((-1 : Int32), M1) else (q_gI M1 l0 12 42 (fun v3 => (q_pI M1 l0 12 42 (v3 - (1 : Int32)) (fun M4 => (q_lp (fun s => B_X12_undo_26 l0 s.1 s.2) q_fu ((0 : Int32), M4)).bind (fun e12 => match e12 with | M13 => (q_gI M13 l0 12 42 (fun v14 => some (v14, M13)))))))))))))
set_option maxRecDepth 100000 in
set_option maxHeartbeats 4000000 in
theorem c_X12_undo (l : Launch) (G : q_G) (l0 : Nat) (M : q_Mem) {r : Int32} {M' : q_Mem} (h : F_X12_undo l0 M = some (r, M')) : q_Met l G yX12_undo cX12_undo 2 (Option.some Jvm.ClassFile.FieldType.int) 1 0 0 [.ref l0] M (some (.int r)) M' := by
  unfold F_X12_undo at h
  refine q_enter [some (.ref l0), none] (by decide) (Nat.le_of_ble_eq_true rfl) rfl (fun K C => ?_)
  refine q_aload_n C dX12_undo_0 rfl ?_
  refine x_iconst (v := (0 : Int32)) C dX12_undo_1 (by decide) ?_
  refine x_putI (ci := 12) (j := 0) C dX12_undo_2 lkF_X12_92 (fun r hr => by cases hr; rfl) rfl h (fun M1 h => ?_)
  refine q_aload_n C dX12_undo_5 rfl ?_
  refine x_getI (ci := 12) (j := 42) C dX12_undo_6 lkF_X12_293 rfl h (fun v2 h => ?_)
  refine q_if_ne (tgt := 14) C dX12_undo_9 (by decide) h (fun _ h => ?_) (fun _ h => ?_)
  · refine x_iconst (v := (-1 : Int32)) C dX12_undo_12 (by decide) ?_
    exact q_iret C dX12_undo_13 rfl (by decide) (by decide) (Option.some.inj h)
  · refine q_aload_n C dX12_undo_14 rfl ?_
    refine q_dup C dX12_undo_15 rfl ?_
    refine x_getI (ci := 12) (j := 42) C dX12_undo_16 lkF_X12_293 rfl h (fun v3 h => ?_)
    refine x_iconst (v := (1 : Int32)) C dX12_undo_19 (by decide) ?_
    refine q_isub C dX12_undo_20 ?_
    refine x_putI (ci := 12) (j := 42) C dX12_undo_21 lkF_X12_293 (fun r hr => by cases hr; rfl) rfl h (fun M4 h => ?_)
    refine x_iconst (v := (0 : Int32)) C dX12_undo_24 (by decide) ?_
    refine q_istore_n (L' := [some (.ref l0), some (.int (0 : Int32))]) C dX12_undo_25 (by decide) rfl rfl ?_
    obtain ⟨e12, he, h⟩ := q_bind h
    refine q_msk [true, true] (lW_X12_undo_26 C l0 q_fu _ _ _ he (fun M13 hs => ?_))
    · have hs := hs.symm
      subst hs
      refine q_aload_n C dX12_undo_60 rfl ?_
      refine x_getI (ci := 12) (j := 42) C dX12_undo_61 lkF_X12_293 rfl h (fun v14 h => ?_)
      exact q_iret C dX12_undo_64 rfl (by decide) (by decide) (Option.some.inj h)
noncomputable def F_X12_log (l0 : Nat) (l1 : Int32) (l2 : Int32) (M : q_Mem) : Option (Int32 × q_Mem) := (q_pI M l0 12 0 (0 : Int32) (fun M1 => (q_gR M1 l0 12 32 (fun c2 => q_nn c2 (fun r3 => (q_lI M1 0 r3 (36 : Int32) (fun v4 => ((F_X12_isIn l1.toInt64 (0 : Int64) ((v4 - (1 : Int32)).toInt64) M1).bind (fun u5 => (if u5 = 0 then some ((-1000000 : Int32), M1) else ((F_X12_isIn l2.toInt64 (0 : Int64) (2 : Int64) M1).bind (fun u6 => (if u6 = 0 then some ((-1000000 : Int32), M1) else (q_gR M1 l0 12 32 (fun c7 => q_nn c7 (fun r8 => (q_gR M1 l0 12 32 (fun c9 => q_nn c9 (fun r10 => (q_lI M1 0 r10 (36 : Int32) (fun v11 => (q_lI M1 0 r8 (((37 : Int32) + ((3 : Int32) * ((v11 - (1 : Int32)) - l1))) + l2) (fun v12 => some (v12, M1))))))))))))))))))))))))
set_option maxRecDepth 100000 in
set_option maxHeartbeats 4000000 in
theorem c_X12_log (l : Launch) (G : q_G) (l0 : Nat) (l1 : Int32) (l2 : Int32) (M : q_Mem) {r : Int32} {M' : q_Mem} (h : F_X12_log l0 l1 l2 M = some (r, M')) : q_Met l G yX12_log cX12_log 3 (Option.some Jvm.ClassFile.FieldType.int) 2 0 0 [.ref l0, .int l1, .int l2] M (some (.int r)) M' := by
  unfold F_X12_log at h
  refine q_enter [some (.ref l0), some (.int l1), some (.int l2)] (by decide) (Nat.le_of_ble_eq_true rfl) rfl (fun K C => ?_)
  refine q_aload_n C dX12_log_0 rfl ?_
  refine x_iconst (v := (0 : Int32)) C dX12_log_1 (by decide) ?_
  refine x_putI (ci := 12) (j := 0) C dX12_log_2 lkF_X12_92 (fun r hr => by cases hr; rfl) rfl h (fun M1 h => ?_)
  refine q_iload_n C dX12_log_5 rfl ?_
  refine q_i2l C dX12_log_6 ?_
  refine x_lconst (v := (0 : Int64)) C dX12_log_7 (by decide) ?_
  refine q_aload_n C dX12_log_8 rfl ?_
  refine x_getR (ci := 12) (j := 32) C dX12_log_9 lkF_X12_61 rfl h (fun c2 h => ?_)
  refine x_nn h (fun r3 h => ?_)
  refine x_bipush (v := (36 : Int32)) C dX12_log_12 (by decide) ?_
  refine x_iald C dX12_log_14 h (fun v4 h => ?_)
  refine x_iconst (v := (1 : Int32)) C dX12_log_15 (by decide) ?_
  refine q_isub C dX12_log_16 ?_
  refine q_i2l C dX12_log_17 ?_
  obtain ⟨u5, e1, h⟩ := q_bind h
  refine x_callS0 C dX12_log_18 lkM_X12_213 mS_X12_isIn (c_X12_isIn _ _ _ _ _ _ e1) rfl rfl (Nat.le_of_ble_eq_true rfl) (by decide) (by decide) ?_
  refine q_if_eq (tgt := 62) C dX12_log_21 (by decide) h (fun _ h => ?_) (fun _ h => ?_)
  · refine q_ldcw (v := (-1000000 : Int32)) C dX12_log_62 wd_1674 ?_
    exact q_iret C dX12_log_65 rfl (by decide) (by decide) (Option.some.inj h)
  · refine q_iload_n C dX12_log_24 rfl ?_
    refine q_i2l C dX12_log_25 ?_
    refine x_lconst (v := (0 : Int64)) C dX12_log_26 (by decide) ?_
    refine q_ldc2 (v := (2 : Int64)) C dX12_log_27 wd_1373 ?_
    obtain ⟨u6, e1, h⟩ := q_bind h
    refine x_callS0 C dX12_log_30 lkM_X12_213 mS_X12_isIn (c_X12_isIn _ _ _ _ _ _ e1) rfl rfl (Nat.le_of_ble_eq_true rfl) (by decide) (by decide) ?_
    refine q_if_eq (tgt := 62) C dX12_log_33 (by decide) h (fun _ h => ?_) (fun _ h => ?_)
    · refine q_ldcw (v := (-1000000 : Int32)) C dX12_log_62 wd_1674 ?_
      exact q_iret C dX12_log_65 rfl (by decide) (by decide) (Option.some.inj h)
    · refine q_aload_n C dX12_log_36 rfl ?_
      refine x_getR (ci := 12) (j := 32) C dX12_log_37 lkF_X12_61 rfl h (fun c7 h => ?_)
      refine x_nn h (fun r8 h => ?_)
      refine x_bipush (v := (37 : Int32)) C dX12_log_40 (by decide) ?_
      refine x_iconst (v := (3 : Int32)) C dX12_log_42 (by decide) ?_
      refine q_aload_n C dX12_log_43 rfl ?_
      refine x_getR (ci := 12) (j := 32) C dX12_log_44 lkF_X12_61 rfl h (fun c9 h => ?_)
      refine x_nn h (fun r10 h => ?_)
      refine x_bipush (v := (36 : Int32)) C dX12_log_47 (by decide) ?_
      refine x_iald C dX12_log_49 h (fun v11 h => ?_)
      refine x_iconst (v := (1 : Int32)) C dX12_log_50 (by decide) ?_
      refine q_isub C dX12_log_51 ?_
      refine q_iload_n C dX12_log_52 rfl ?_
      refine q_isub C dX12_log_53 ?_
      refine q_imul C dX12_log_54 ?_
      refine q_iadd C dX12_log_55 ?_
      refine q_iload_n C dX12_log_56 rfl ?_
      refine q_iadd C dX12_log_57 ?_
      refine x_iald C dX12_log_58 h (fun v12 h => ?_)
      refine q_goto (tgt := 65) C dX12_log_59 (by decide) ?_
      exact q_iret C dX12_log_65 rfl (by decide) (by decide) (Option.some.inj h)
noncomputable def F_X12_isWeek (l0 : Nat) (l1 : Int32) (M : q_Mem) : Option (Int32) := (if l1 < 0 then q_rq (0 : Int32) else (q_gI M l0 12 30 (fun v1 => (if l1 < v1 then q_rq (1 : Int32) else q_rq (0 : Int32)))))
set_option maxRecDepth 100000 in
set_option maxHeartbeats 4000000 in
theorem c_X12_isWeek (l : Launch) (G : q_G) (l0 : Nat) (l1 : Int32) (M : q_Mem) {r : Int32} (h : F_X12_isWeek l0 l1 M = some r) : q_Met l G yX12_isWeek cX12_isWeek 2 (Option.some Jvm.ClassFile.FieldType.boolean) 1 0 0 [.ref l0, .int l1] M (some (.int r)) M := by
  unfold F_X12_isWeek at h
  refine q_enter [some (.ref l0), some (.int l1)] (by decide) (Nat.le_of_ble_eq_true rfl) rfl (fun K C => ?_)
  refine q_iload_n C dX12_isWeek_0 rfl ?_
  refine q_if_lt (tgt := 16) C dX12_isWeek_1 (by decide) h (fun _ h => ?_) (fun _ h => ?_)
  · refine x_iconst (v := (0 : Int32)) C dX12_isWeek_16 (by decide) ?_
    exact q_zret (res := (r, M)) C dX12_isWeek_17 rfl (by decide) (by decide) (q_rqE h).1 (congrArg (fun z => (z, M)) (q_rqE h).2)
  · refine q_iload_n C dX12_isWeek_4 rfl ?_
    refine q_aload_n C dX12_isWeek_5 rfl ?_
    refine x_getI (ci := 12) (j := 30) C dX12_isWeek_6 lkF_X12_279 rfl h (fun v1 h => ?_)
    refine q_icmp_ge (tgt := 16) C dX12_isWeek_9 (by decide) h (fun _ h => ?_) (fun _ h => ?_)
    · refine x_iconst (v := (1 : Int32)) C dX12_isWeek_12 (by decide) ?_
      refine q_goto (tgt := 17) C dX12_isWeek_13 (by decide) ?_
      exact q_zret (res := (r, M)) C dX12_isWeek_17 rfl (by decide) (by decide) (q_rqE h).1 (congrArg (fun z => (z, M)) (q_rqE h).2)
    · refine x_iconst (v := (0 : Int32)) C dX12_isWeek_16 (by decide) ?_
      exact q_zret (res := (r, M)) C dX12_isWeek_17 rfl (by decide) (by decide) (q_rqE h).1 (congrArg (fun z => (z, M)) (q_rqE h).2)
noncomputable def F_X12_step (l0 : Nat) (l1 : Int32) (l2 : Int32) (l3 : Int32) (M : q_Mem) : Option (Int32 × q_Mem) := (q_pI M l0 12 0 (0 : Int32) (fun M1 => (q_ob M1 l0 12 ((F_X12_isWeek l0 l1 M1).bind (fun u2 => (if u2 = 0 then some ((-1000000 : Int32), M1) else (q_gR M1 l0 12 25 (fun c3 => q_nn c3 (fun r4 => (q_lI M1 0 r4 l1 (fun v5 => ((F_X12_isIn l2.toInt64 (0 : Int64) ((v5 - (1 : Int32)).toInt64) M1).bind (fun u6 => (if u6 = 0 then some ((-1000000 : Int32), M1) else ((F_X12_isIn l3.toInt64 (0 : Int64) (2 : Int64) M1).bind (fun u7 => (if u7 = 0 then some ((-1000000 : Int32), M1) else (q_gR M1 l0 12 24 (fun c8 => q_nn c8 (fun r9 => (q_lI M1 0 r9 (((3 : Int32) * (((16 : Int32) * l1) + l2)) + l3) (fun v10 => some (v10, M1)))))))))))))))))))))))
set_option maxRecDepth 100000 in
set_option maxHeartbeats 4000000 in
theorem c_X12_step (l : Launch) (G : q_G) (l0 : Nat) (l1 : Int32) (l2 : Int32) (l3 : Int32) (M : q_Mem) {r : Int32} {M' : q_Mem} (h : F_X12_step l0 l1 l2 l3 M = some (r, M')) : q_Met l G yX12_step cX12_step 4 (Option.some Jvm.ClassFile.FieldType.int) 2 0 0 [.ref l0, .int l1, .int l2, .int l3] M (some (.int r)) M' := by
  unfold F_X12_step at h
  refine q_enter [some (.ref l0), some (.int l1), some (.int l2), some (.int l3)] (by decide) (Nat.le_of_ble_eq_true rfl) rfl (fun K C => ?_)
  refine q_aload_n C dX12_step_0 rfl ?_
  refine x_iconst (v := (0 : Int32)) C dX12_step_1 (by decide) ?_
  refine x_putI (ci := 12) (j := 0) C dX12_step_2 lkF_X12_92 (fun r hr => by cases hr; rfl) rfl h (fun M1 h => ?_)
  refine q_aload_n C dX12_step_5 rfl ?_
  refine q_iload_n C dX12_step_6 rfl ?_
  obtain ⟨hk, h⟩ := q_obE h
  obtain ⟨u2, e1, h⟩ := q_bind h
  refine x_callV0 C dX12_step_7 lkM_X12_406 mV_X12_isWeek ⟨_, rfl, rfl⟩ hk (c_X12_isWeek _ _ _ _ _ e1) rfl rfl (Nat.le_of_ble_eq_true rfl) (by decide) (by decide) ?_
  refine q_if_eq (tgt := 61) C dX12_step_10 (by decide) h (fun _ h => ?_) (fun _ h => ?_)
  · refine q_ldcw (v := (-1000000 : Int32)) C dX12_step_61 wd_1674 ?_
    exact q_iret C dX12_step_64 rfl (by decide) (by decide) (Option.some.inj h)
  · refine q_iload_n C dX12_step_13 rfl ?_
    refine q_i2l C dX12_step_14 ?_
    refine x_lconst (v := (0 : Int64)) C dX12_step_15 (by decide) ?_
    refine q_aload_n C dX12_step_16 rfl ?_
    refine x_getR (ci := 12) (j := 25) C dX12_step_17 lkF_X12_58 rfl h (fun c3 h => ?_)
    refine x_nn h (fun r4 h => ?_)
    refine q_iload_n C dX12_step_20 rfl ?_
    refine x_iald C dX12_step_21 h (fun v5 h => ?_)
    refine x_iconst (v := (1 : Int32)) C dX12_step_22 (by decide) ?_
    refine q_isub C dX12_step_23 ?_
    refine q_i2l C dX12_step_24 ?_
    obtain ⟨u6, e1, h⟩ := q_bind h
    refine x_callS0 C dX12_step_25 lkM_X12_213 mS_X12_isIn (c_X12_isIn _ _ _ _ _ _ e1) rfl rfl (Nat.le_of_ble_eq_true rfl) (by decide) (by decide) ?_
    refine q_if_eq (tgt := 61) C dX12_step_28 (by decide) h (fun _ h => ?_) (fun _ h => ?_)
    · refine q_ldcw (v := (-1000000 : Int32)) C dX12_step_61 wd_1674 ?_
      exact q_iret C dX12_step_64 rfl (by decide) (by decide) (Option.some.inj h)
    · refine q_iload_n C dX12_step_31 rfl ?_
      refine q_i2l C dX12_step_32 ?_
      refine x_lconst (v := (0 : Int64)) C dX12_step_33 (by decide) ?_
      refine q_ldc2 (v := (2 : Int64)) C dX12_step_34 wd_1373 ?_
      obtain ⟨u7, e1, h⟩ := q_bind h
      refine x_callS0 C dX12_step_37 lkM_X12_213 mS_X12_isIn (c_X12_isIn _ _ _ _ _ _ e1) rfl rfl (Nat.le_of_ble_eq_true rfl) (by decide) (by decide) ?_
      refine q_if_eq (tgt := 61) C dX12_step_40 (by decide) h (fun _ h => ?_) (fun _ h => ?_)
      · refine q_ldcw (v := (-1000000 : Int32)) C dX12_step_61 wd_1674 ?_
        exact q_iret C dX12_step_64 rfl (by decide) (by decide) (Option.some.inj h)
      · refine q_aload_n C dX12_step_43 rfl ?_
        refine x_getR (ci := 12) (j := 24) C dX12_step_44 lkF_X12_55 rfl h (fun c8 h => ?_)
        refine x_nn h (fun r9 h => ?_)
        refine x_iconst (v := (3 : Int32)) C dX12_step_47 (by decide) ?_
        refine x_bipush (v := (16 : Int32)) C dX12_step_48 (by decide) ?_
        refine q_iload_n C dX12_step_50 rfl ?_
        refine q_imul C dX12_step_51 ?_
        refine q_iload_n C dX12_step_52 rfl ?_
        refine q_iadd C dX12_step_53 ?_
        refine q_imul C dX12_step_54 ?_
        refine q_iload_n C dX12_step_55 rfl ?_
        refine q_iadd C dX12_step_56 ?_
        refine x_iald C dX12_step_57 h (fun v10 h => ?_)
        refine q_goto (tgt := 64) C dX12_step_58 (by decide) ?_
        exact q_iret C dX12_step_64 rfl (by decide) (by decide) (Option.some.inj h)
noncomputable def B_X12_copy_2 (l0 : Nat) (l1 : Nat) (l2 : Int32) (M : q_Mem) : Option ((Int32 × q_Mem) ⊕ (q_Mem)) := (if l2 < (36 : Int32) then (q_lI M 0 l0 l2 (fun v1 => (q_tI M l1 l2 v1 (fun M2 => some (.inl ((l2 + (1 : Int32)), M2)))))) else some (.inr M))
set_option maxRecDepth 100000 in
set_option maxHeartbeats 4000000 in
theorem bW_X12_copy_2 {K : q_K} {Q : State → Prop} (C : q_C K yX12_copy cX12_copy 3 (Option.none : Option Jvm.ClassFile.FieldType) 1 0 0) (l0 : Nat) (l1 : Nat) (l2 : Int32) (M : q_Mem) {stp : (Int32 × q_Mem) ⊕ (q_Mem)} (h : B_X12_copy_2 l0 l1 l2 M = some stp) (kC : ∀ (l2 : Int32) (M : q_Mem), stp = .inl (l2, M) → q_W K 3 Q 0 0 M 2 [some (.ref l0), some (.ref l1), some (.int l2)] []) (kE0 : ∀ (M : q_Mem), stp = .inr M → q_W K 3 Q 0 0 M 20 [none, some (.ref l1), none] []) : q_W K 3 Q 0 0 M 2 [some (.ref l0), some (.ref l1), some (.int l2)] [] := by
  unfold B_X12_copy_2 at h
  refine q_iload_n C dX12_copy_2 rfl ?_
  refine x_bipush (v := (36 : Int32)) C dX12_copy_3 (by decide) ?_
  refine q_icmp_ge (tgt := 20) C dX12_copy_5 (by decide) h (fun _ h => ?_) (fun _ h => ?_)
  · refine q_aload_n C dX12_copy_8 rfl ?_
    refine q_iload_n C dX12_copy_9 rfl ?_
    refine q_aload_n C dX12_copy_10 rfl ?_
    refine q_iload_n C dX12_copy_11 rfl ?_
    refine x_iald C dX12_copy_12 h (fun v1 h => ?_)
    refine x_iast C dX12_copy_13 h (fun M2 h => ?_)
    refine x_iinc (w := (1 : Int32)) (L' := [some (.ref l0), some (.ref l1), some (.int (l2 + (1 : Int32)))]) C dX12_copy_14 rfl (by decide) (by decide) rfl rfl ?_
    refine q_goto (tgt := 2) C dX12_copy_17 (by decide) ?_
    exact q_msk [true, true, true] (kC _ _ (Option.some.inj h).symm)
  · exact q_msk [false, true, false] (kE0 _ (Option.some.inj h).symm)
set_option maxRecDepth 100000 in
set_option maxHeartbeats 4000000 in
theorem lW_X12_copy_2 {K : q_K} {Q : State → Prop} (C : q_C K yX12_copy cX12_copy 3 (Option.none : Option Jvm.ClassFile.FieldType) 1 0 0) (l0 : Nat) (l1 : Nat) (n : Nat) : ∀ (l2 : Int32) (M : q_Mem) (e : (q_Mem)), q_lp (fun s => B_X12_copy_2 l0 l1 s.1 s.2) n (l2, M) = some e → (∀ (M : q_Mem), e = M → q_W K 3 Q 0 0 M 20 [none, some (.ref l1), none] []) → q_W K 3 Q 0 0 M 2 [some (.ref l0), some (.ref l1), some (.int l2)] [] := by
  induction n with
  | zero => intro l2 M e h; cases h
  | succ n ih =>
    intro l2 M e h kE0
    obtain ⟨stp, e1, e2⟩ := q_bind h
    refine bW_X12_copy_2 C l0 l1 l2 M e1 (fun a0 a1 hs => ?_) (fun b0 hs => ?_)
    · subst hs; exact ih _ _ _ e2 kE0
    · subst hs; exact kE0 _ (Option.some.inj e2).symm
noncomputable def F_X12_copy (l0 : Nat) (l1 : Nat) (M : q_Mem) : Option (Unit × q_Mem) := (q_lp (fun s => B_X12_copy_2 l0 l1 s.1 s.2) q_fu ((0 : Int32), M)).bind (fun e3 => match e3 with | M4 => (q_tI M4 l1 (36 : Int32) (0 : Int32) (fun M5 => some ((), M5))))
set_option maxRecDepth 100000 in
set_option maxHeartbeats 4000000 in
theorem c_X12_copy (l : Launch) (G : q_G) (l0 : Nat) (l1 : Nat) (M : q_Mem) {r : Unit} {M' : q_Mem} (h : F_X12_copy l0 l1 M = some (r, M')) : q_Met l G yX12_copy cX12_copy 3 (Option.none : Option Jvm.ClassFile.FieldType) 1 0 0 [.ref l0, .ref l1] M none M' := by
  unfold F_X12_copy at h
  refine q_enter [some (.ref l0), some (.ref l1), none] (by decide) (Nat.le_of_ble_eq_true rfl) rfl (fun K C => ?_)
  refine x_iconst (v := (0 : Int32)) C dX12_copy_0 (by decide) ?_
  refine q_istore_n (L' := [some (.ref l0), some (.ref l1), some (.int (0 : Int32))]) C dX12_copy_1 (by decide) rfl rfl ?_
  obtain ⟨e3, he, h⟩ := q_bind h
  refine q_msk [true, true, true] (lW_X12_copy_2 C l0 l1 q_fu _ _ _ he (fun M4 hs => ?_))
  · have hs := hs.symm
    subst hs
    refine q_aload_n C dX12_copy_20 rfl ?_
    refine x_bipush (v := (36 : Int32)) C dX12_copy_21 (by decide) ?_
    refine x_iconst (v := (0 : Int32)) C dX12_copy_23 (by decide) ?_
    refine x_iast C dX12_copy_24 h (fun M5 h => ?_)
    exact q_vret C dX12_copy_25 rfl (by decide) (by decide) (Option.some.inj h)
noncomputable def F_X12_canStep (l0 : Nat) (l1 : Nat) (l2 : Int32) (M : q_Mem) : Option (Int32) := (q_gR M l0 12 24 (fun c1 => q_nn c1 (fun r2 => (q_lI M 0 r2 l2 (fun v3 => (if v3 = (0 : Int32) then (q_lI M 0 l1 (35 : Int32) (fun v4 => (if v4 < (999 : Int32) then q_rq (1 : Int32) else q_rq (0 : Int32)))) else (if v3 = (1 : Int32) then (q_gR M l0 12 24 (fun c5 => q_nn c5 (fun r6 => (q_lI M 0 r6 (l2 + (1 : Int32)) (fun v7 => (q_ob M l0 12 ((F_X12_canChoose l0 l1 v7 M).bind (fun u8 => q_rq u8)))))))) else (if v3 = (2 : Int32) then ((F_X12_canBeIll l1 M).bind (fun u9 => q_rq u9)) else (if v3 = (3 : Int32) then ((F_X12_canMakeUp l1 M).bind (fun u10 => q_rq u10)) else (q_gR M l0 12 24 (fun c11 => q_nn c11 (fun r12 => (q_lI M 0 r12 (l2 + (1 : Int32)) (fun v13 => (q_gR M l0 12 24 (fun c14 => q_nn c14 (fun r15 => (q_lI M 0 r15 (l2 + (2 : Int32)) (fun v16 => (q_ob M l0 12 ((F_X12_canStay l0 l1 v13 v16 M).bind (fun u17 => q_rq u17))))))))))))))))))))))
set_option maxRecDepth 100000 in
set_option maxHeartbeats 4000000 in
theorem c_X12_canStep (l : Launch) (G : q_G) (l0 : Nat) (l1 : Nat) (l2 : Int32) (M : q_Mem) {r : Int32} (h : F_X12_canStep l0 l1 l2 M = some r) : q_Met l G yX12_canStep cX12_canStep 3 (Option.some Jvm.ClassFile.FieldType.boolean) 3 0 0 [.ref l0, .ref l1, .int l2] M (some (.int r)) M := by
  unfold F_X12_canStep at h
  refine q_enter [some (.ref l0), some (.ref l1), some (.int l2)] (by decide) (Nat.le_of_ble_eq_true rfl) rfl (fun K C => ?_)
  refine q_aload_n C dX12_canStep_0 rfl ?_
  refine x_getR (ci := 12) (j := 24) C dX12_canStep_1 lkF_X12_55 rfl h (fun c1 h => ?_)
  refine x_nn h (fun r2 h => ?_)
  refine q_iload_n C dX12_canStep_4 rfl ?_
  refine x_iald C dX12_canStep_5 h (fun v3 h => ?_)
  by_cases hs6_0 : v3 = (0 : Int32)
  · rw [if_pos hs6_0] at h
    refine q_tsIn (tgt := 36) C dX12_canStep_6 hs6_0 (by decide) (by decide) rfl (by decide) ?_
    refine q_aload_n C dX12_canStep_36 rfl ?_
    refine x_bipush (v := (35 : Int32)) C dX12_canStep_37 (by decide) ?_
    refine x_iald C dX12_canStep_39 h (fun v4 h => ?_)
    refine x_sipush (v := (999 : Int32)) C dX12_canStep_40 (by decide) ?_
    refine q_icmp_ge (tgt := 50) C dX12_canStep_43 (by decide) h (fun _ h => ?_) (fun _ h => ?_)
    · refine x_iconst (v := (1 : Int32)) C dX12_canStep_46 (by decide) ?_
      refine q_goto (tgt := 51) C dX12_canStep_47 (by decide) ?_
      exact q_zret (res := (r, M)) C dX12_canStep_51 rfl (by decide) (by decide) (q_rqE h).1 (congrArg (fun z => (z, M)) (q_rqE h).2)
    · refine x_iconst (v := (0 : Int32)) C dX12_canStep_50 (by decide) ?_
      exact q_zret (res := (r, M)) C dX12_canStep_51 rfl (by decide) (by decide) (q_rqE h).1 (congrArg (fun z => (z, M)) (q_rqE h).2)
  rw [if_neg hs6_0] at h
  by_cases hs6_1 : v3 = (1 : Int32)
  · rw [if_pos hs6_1] at h
    refine q_tsIn (tgt := 52) C dX12_canStep_6 hs6_1 (by decide) (by decide) rfl (by decide) ?_
    refine q_aload_n C dX12_canStep_52 rfl ?_
    refine q_aload_n C dX12_canStep_53 rfl ?_
    refine q_aload_n C dX12_canStep_54 rfl ?_
    refine x_getR (ci := 12) (j := 24) C dX12_canStep_55 lkF_X12_55 rfl h (fun c5 h => ?_)
    refine x_nn h (fun r6 h => ?_)
    refine q_iload_n C dX12_canStep_58 rfl ?_
    refine x_iconst (v := (1 : Int32)) C dX12_canStep_59 (by decide) ?_
    refine q_iadd C dX12_canStep_60 ?_
    refine x_iald C dX12_canStep_61 h (fun v7 h => ?_)
    obtain ⟨hk, h⟩ := q_obE h
    obtain ⟨u8, e1, h⟩ := q_bind h
    refine x_callV0 C dX12_canStep_62 lkM_X12_373 mV_X12_canChoose ⟨_, rfl, rfl⟩ hk (c_X12_canChoose _ _ _ _ _ _ e1) rfl rfl (Nat.le_of_ble_eq_true rfl) (by decide) (by decide) ?_
    exact q_zret (res := (r, M)) C dX12_canStep_65 rfl (by decide) (by decide) (q_rqE h).1 (congrArg (fun z => (z, M)) (q_rqE h).2)
  rw [if_neg hs6_1] at h
  by_cases hs6_2 : v3 = (2 : Int32)
  · rw [if_pos hs6_2] at h
    refine q_tsIn (tgt := 66) C dX12_canStep_6 hs6_2 (by decide) (by decide) rfl (by decide) ?_
    refine q_aload_n C dX12_canStep_66 rfl ?_
    obtain ⟨u9, e1, h⟩ := q_bind h
    refine x_callS0 C dX12_canStep_67 lkM_X12_376 mS_X12_canBeIll (c_X12_canBeIll _ _ _ _ e1) rfl rfl (Nat.le_of_ble_eq_true rfl) (by decide) (by decide) ?_
    exact q_zret (res := (r, M)) C dX12_canStep_70 rfl (by decide) (by decide) (q_rqE h).1 (congrArg (fun z => (z, M)) (q_rqE h).2)
  rw [if_neg hs6_2] at h
  by_cases hs6_3 : v3 = (3 : Int32)
  · rw [if_pos hs6_3] at h
    refine q_tsIn (tgt := 71) C dX12_canStep_6 hs6_3 (by decide) (by decide) rfl (by decide) ?_
    refine q_aload_n C dX12_canStep_71 rfl ?_
    obtain ⟨u10, e1, h⟩ := q_bind h
    refine x_callS0 C dX12_canStep_72 lkM_X12_380 mS_X12_canMakeUp (c_X12_canMakeUp _ _ _ _ e1) rfl rfl (Nat.le_of_ble_eq_true rfl) (by decide) (by decide) ?_
    exact q_zret (res := (r, M)) C dX12_canStep_75 rfl (by decide) (by decide) (q_rqE h).1 (congrArg (fun z => (z, M)) (q_rqE h).2)
  rw [if_neg hs6_3] at h
  have ho6 : (v3 : Int32).toInt < 0 ∨ 3 < (v3 : Int32).toInt := by
    have z0 := lv_neT (a := 0) hs6_0 (by decide)
    have z1 := lv_neT (a := 1) hs6_1 (by decide)
    have z2 := lv_neT (a := 2) hs6_2 (by decide)
    have z3 := lv_neT (a := 3) hs6_3 (by decide)
    omega
  refine q_tsOut (tgt := 76) C dX12_canStep_6 ho6 (by decide) ?_
  refine q_aload_n C dX12_canStep_76 rfl ?_
  refine q_aload_n C dX12_canStep_77 rfl ?_
  refine q_aload_n C dX12_canStep_78 rfl ?_
  refine x_getR (ci := 12) (j := 24) C dX12_canStep_79 lkF_X12_55 rfl h (fun c11 h => ?_)
  refine x_nn h (fun r12 h => ?_)
  refine q_iload_n C dX12_canStep_82 rfl ?_
  refine x_iconst (v := (1 : Int32)) C dX12_canStep_83 (by decide) ?_
  refine q_iadd C dX12_canStep_84 ?_
  refine x_iald C dX12_canStep_85 h (fun v13 h => ?_)
  refine q_aload_n C dX12_canStep_86 rfl ?_
  refine x_getR (ci := 12) (j := 24) C dX12_canStep_87 lkF_X12_55 rfl h (fun c14 h => ?_)
  refine x_nn h (fun r15 h => ?_)
  refine q_iload_n C dX12_canStep_90 rfl ?_
  refine x_iconst (v := (2 : Int32)) C dX12_canStep_91 (by decide) ?_
  refine q_iadd C dX12_canStep_92 ?_
  refine x_iald C dX12_canStep_93 h (fun v16 h => ?_)
  obtain ⟨hk, h⟩ := q_obE h
  obtain ⟨u17, e1, h⟩ := q_bind h
  refine x_callV0 C dX12_canStep_94 lkM_X12_386 mV_X12_canStay ⟨_, rfl, rfl⟩ hk (c_X12_canStay _ _ _ _ _ _ _ e1) rfl rfl (Nat.le_of_ble_eq_true rfl) (by decide) (by decide) ?_
  exact q_zret (res := (r, M)) C dX12_canStep_97 rfl (by decide) (by decide) (q_rqE h).1 (congrArg (fun z => (z, M)) (q_rqE h).2)
noncomputable def F_X12_goStep (l0 : Nat) (l1 : Nat) (l2 : Int32) (M : q_Mem) : Option (Unit × q_Mem) := (q_gR M l0 12 24 (fun c1 => q_nn c1 (fun r2 => (q_lI M 0 r2 l2 (fun v3 => (if v3 = (0 : Int32) then (q_ob M l0 12 ((F_X12_goDay l0 l1 M).bind (fun x => match x with | (u4, M5) => some ((), M5)))) else (if v3 = (1 : Int32) then (q_gR M l0 12 24 (fun c6 => q_nn c6 (fun r7 => (q_lI M 0 r7 (l2 + (1 : Int32)) (fun v8 => (q_tI M l1 (34 : Int32) ((1 : Int32) + v8) (fun M9 => some ((), M9)))))))) else (if v3 = (2 : Int32) then (q_lI M 0 l1 (32 : Int32) (fun v10 => (q_tI M l1 (32 : Int32) (v10 + (1 : Int32)) (fun M11 => some ((), M11))))) else (if v3 = (3 : Int32) then ((F_X12_makesUp l1 M).bind (fun x => match x with | (_, M13) => some ((), M13))) else (q_gR M l0 12 24 (fun c14 => q_nn c14 (fun r15 => (q_lI M 0 r15 (l2 + (1 : Int32)) (fun v16 => (q_lI M 0 l1 (((4 : Int32) * v16) + (0 : Int32)) (fun v17 => (q_gR M l0 12 24 (fun c18 => q_nn c18 (fun r19 => (q_lI M 0 r19 (l2 + (2 : Int32)) (fun v20 => (q_tI M l1 (((4 : Int32) * v16) + (0 : Int32)) (v17 + v20) (fun M21 => some ((), M21))))))))))))))))))))))))
set_option maxRecDepth 100000 in
set_option maxHeartbeats 4000000 in
theorem c_X12_goStep (l : Launch) (G : q_G) (l0 : Nat) (l1 : Nat) (l2 : Int32) (M : q_Mem) {r : Unit} {M' : q_Mem} (h : F_X12_goStep l0 l1 l2 M = some (r, M')) : q_Met l G yX12_goStep cX12_goStep 4 (Option.none : Option Jvm.ClassFile.FieldType) 135 2 0 [.ref l0, .ref l1, .int l2] M none M' := by
  unfold F_X12_goStep at h
  refine q_enter [some (.ref l0), some (.ref l1), some (.int l2), none] (by decide) (Nat.le_of_ble_eq_true rfl) rfl (fun K C => ?_)
  refine q_aload_n C dX12_goStep_0 rfl ?_
  refine x_getR (ci := 12) (j := 24) C dX12_goStep_1 lkF_X12_55 rfl h (fun c1 h => ?_)
  refine x_nn h (fun r2 h => ?_)
  refine q_iload_n C dX12_goStep_4 rfl ?_
  refine x_iald C dX12_goStep_5 h (fun v3 h => ?_)
  by_cases hs6_0 : v3 = (0 : Int32)
  · rw [if_pos hs6_0] at h
    refine q_tsIn (tgt := 36) C dX12_goStep_6 hs6_0 (by decide) (by decide) rfl (by decide) ?_
    refine q_aload_n C dX12_goStep_36 rfl ?_
    refine q_aload_n C dX12_goStep_37 rfl ?_
    obtain ⟨hk, h⟩ := q_obE h
    obtain ⟨⟨u4, M5⟩, e1, h⟩ := q_bind h
    refine x_callV C dX12_goStep_38 lkM_X12_370 mV_X12_goDay ⟨_, rfl, rfl⟩ hk (c_X12_goDay _ _ _ _ _ e1) rfl rfl (Nat.le_of_ble_eq_true rfl) (by decide) (by decide) ?_
    refine q_istore_n (L' := [some (.ref l0), some (.ref l1), some (.int l2), some (.int u4)]) C dX12_goStep_41 (by decide) rfl rfl ?_
    refine q_goto (tgt := 105) C dX12_goStep_42 (by decide) ?_
    exact q_vret C dX12_goStep_105 rfl (by decide) (by decide) (Option.some.inj h)
  rw [if_neg hs6_0] at h
  by_cases hs6_1 : v3 = (1 : Int32)
  · rw [if_pos hs6_1] at h
    refine q_tsIn (tgt := 45) C dX12_goStep_6 hs6_1 (by decide) (by decide) rfl (by decide) ?_
    refine q_aload_n C dX12_goStep_45 rfl ?_
    refine x_bipush (v := (34 : Int32)) C dX12_goStep_46 (by decide) ?_
    refine x_iconst (v := (1 : Int32)) C dX12_goStep_48 (by decide) ?_
    refine q_aload_n C dX12_goStep_49 rfl ?_
    refine x_getR (ci := 12) (j := 24) C dX12_goStep_50 lkF_X12_55 rfl h (fun c6 h => ?_)
    refine x_nn h (fun r7 h => ?_)
    refine q_iload_n C dX12_goStep_53 rfl ?_
    refine x_iconst (v := (1 : Int32)) C dX12_goStep_54 (by decide) ?_
    refine q_iadd C dX12_goStep_55 ?_
    refine x_iald C dX12_goStep_56 h (fun v8 h => ?_)
    refine q_iadd C dX12_goStep_57 ?_
    refine x_iast C dX12_goStep_58 h (fun M9 h => ?_)
    refine q_goto (tgt := 105) C dX12_goStep_59 (by decide) ?_
    exact q_vret C dX12_goStep_105 rfl (by decide) (by decide) (Option.some.inj h)
  rw [if_neg hs6_1] at h
  by_cases hs6_2 : v3 = (2 : Int32)
  · rw [if_pos hs6_2] at h
    refine q_tsIn (tgt := 62) C dX12_goStep_6 hs6_2 (by decide) (by decide) rfl (by decide) ?_
    refine q_aload_n C dX12_goStep_62 rfl ?_
    refine x_bipush (v := (32 : Int32)) C dX12_goStep_63 (by decide) ?_
    refine q_dup2 C dX12_goStep_65 rfl rfl ?_
    refine x_iald C dX12_goStep_66 h (fun v10 h => ?_)
    refine x_iconst (v := (1 : Int32)) C dX12_goStep_67 (by decide) ?_
    refine q_iadd C dX12_goStep_68 ?_
    refine x_iast C dX12_goStep_69 h (fun M11 h => ?_)
    refine q_goto (tgt := 105) C dX12_goStep_70 (by decide) ?_
    exact q_vret C dX12_goStep_105 rfl (by decide) (by decide) (Option.some.inj h)
  rw [if_neg hs6_2] at h
  by_cases hs6_3 : v3 = (3 : Int32)
  · rw [if_pos hs6_3] at h
    refine q_tsIn (tgt := 73) C dX12_goStep_6 hs6_3 (by decide) (by decide) rfl (by decide) ?_
    refine q_aload_n C dX12_goStep_73 rfl ?_
    obtain ⟨⟨_, M13⟩, e1, h⟩ := q_bind h
    refine x_callSv0 C dX12_goStep_74 lkM_X12_383 mS_X12_makesUp (c_X12_makesUp _ _ _ _ e1) rfl rfl (Nat.le_of_ble_eq_true rfl) (by decide) (by decide) ?_
    refine q_goto (tgt := 105) C dX12_goStep_77 (by decide) ?_
    exact q_vret C dX12_goStep_105 rfl (by decide) (by decide) (Option.some.inj h)
  rw [if_neg hs6_3] at h
  have ho6 : (v3 : Int32).toInt < 0 ∨ 3 < (v3 : Int32).toInt := by
    have z0 := lv_neT (a := 0) hs6_0 (by decide)
    have z1 := lv_neT (a := 1) hs6_1 (by decide)
    have z2 := lv_neT (a := 2) hs6_2 (by decide)
    have z3 := lv_neT (a := 3) hs6_3 (by decide)
    omega
  refine q_tsOut (tgt := 80) C dX12_goStep_6 ho6 (by decide) ?_
  refine q_aload_n C dX12_goStep_80 rfl ?_
  refine x_iconst (v := (4 : Int32)) C dX12_goStep_81 (by decide) ?_
  refine q_aload_n C dX12_goStep_82 rfl ?_
  refine x_getR (ci := 12) (j := 24) C dX12_goStep_83 lkF_X12_55 rfl h (fun c14 h => ?_)
  refine x_nn h (fun r15 h => ?_)
  refine q_iload_n C dX12_goStep_86 rfl ?_
  refine x_iconst (v := (1 : Int32)) C dX12_goStep_87 (by decide) ?_
  refine q_iadd C dX12_goStep_88 ?_
  refine x_iald C dX12_goStep_89 h (fun v16 h => ?_)
  refine q_imul C dX12_goStep_90 ?_
  refine x_iconst (v := (0 : Int32)) C dX12_goStep_91 (by decide) ?_
  refine q_iadd C dX12_goStep_92 ?_
  refine q_dup2 C dX12_goStep_93 rfl rfl ?_
  refine x_iald C dX12_goStep_94 h (fun v17 h => ?_)
  refine q_aload_n C dX12_goStep_95 rfl ?_
  refine x_getR (ci := 12) (j := 24) C dX12_goStep_96 lkF_X12_55 rfl h (fun c18 h => ?_)
  refine x_nn h (fun r19 h => ?_)
  refine q_iload_n C dX12_goStep_99 rfl ?_
  refine x_iconst (v := (2 : Int32)) C dX12_goStep_100 (by decide) ?_
  refine q_iadd C dX12_goStep_101 ?_
  refine x_iald C dX12_goStep_102 h (fun v20 h => ?_)
  refine q_iadd C dX12_goStep_103 ?_
  refine x_iast C dX12_goStep_104 h (fun M21 h => ?_)
  exact q_vret C dX12_goStep_105 rfl (by decide) (by decide) (Option.some.inj h)
noncomputable def B_X12_run_47 (l0 : Nat) (l1 : Int32) (l2 : Int32) (l3 : Int32) (M : q_Mem) : Option ((Int32 × q_Mem) ⊕ (Int32 × q_Mem)) := (q_gR M l0 12 25 (fun c11 => q_nn c11 (fun r12 => (q_lI M 0 r12 l1 (fun v13 => (if l3 < v13 then (q_gR M l0 12 33 (fun c14 => q_nn c14 (fun r15 => (q_ob M l0 12 ((F_X12_canStep l0 r15 ((3 : Int32) * (((16 : Int32) * l1) + l3)) M).bind (fun u16 => (if u16 = 0 then some (.inr (l3, M)) else (q_gR M l0 12 33 (fun c17 => q_nn c17 (fun r18 => (q_ob M l0 12 ((F_X12_goStep l0 r18 ((3 : Int32) * (((16 : Int32) * l1) + l3)) M).bind (fun x => match x with | (_, M20) => some (.inl ((l3 + (1 : Int32)), M20))))))))))))))) else some (.inr (l3, M))))))))
set_option maxRecDepth 100000 in
set_option maxHeartbeats 4000000 in
theorem bW_X12_run_47 {K : q_K} {Q : State → Prop} (C : q_C K yX12_run cX12_run 4 (Option.some Jvm.ClassFile.FieldType.int) 136 2 0) (l0 : Nat) (l1 : Int32) (l2 : Int32) (l3 : Int32) (M : q_Mem) {stp : (Int32 × q_Mem) ⊕ (Int32 × q_Mem)} (h : B_X12_run_47 l0 l1 l2 l3 M = some stp) (kC : ∀ (l3 : Int32) (M : q_Mem), stp = .inl (l3, M) → q_W K 4 Q 0 0 M 47 [some (.ref l0), some (.int l1), some (.int l2), some (.int l3)] []) (kE0 : ∀ (l3 : Int32) (M : q_Mem), stp = .inr (l3, M) → q_W K 4 Q 0 0 M 98 [some (.ref l0), some (.int l1), some (.int l2), some (.int l3)] []) : q_W K 4 Q 0 0 M 47 [some (.ref l0), some (.int l1), some (.int l2), some (.int l3)] [] := by
  unfold B_X12_run_47 at h
  refine q_iload_n C dX12_run_47 rfl ?_
  refine q_aload_n C dX12_run_48 rfl ?_
  refine x_getR (ci := 12) (j := 25) C dX12_run_49 lkF_X12_58 rfl h (fun c11 h => ?_)
  refine x_nn h (fun r12 h => ?_)
  refine q_iload_n C dX12_run_52 rfl ?_
  refine x_iald C dX12_run_53 h (fun v13 h => ?_)
  refine q_icmp_ge (tgt := 98) C dX12_run_54 (by decide) h (fun _ h => ?_) (fun _ h => ?_)
  · refine q_aload_n C dX12_run_57 rfl ?_
    refine q_aload_n C dX12_run_58 rfl ?_
    refine x_getR (ci := 12) (j := 33) C dX12_run_59 lkF_X12_64 rfl h (fun c14 h => ?_)
    refine x_nn h (fun r15 h => ?_)
    refine x_iconst (v := (3 : Int32)) C dX12_run_62 (by decide) ?_
    refine x_bipush (v := (16 : Int32)) C dX12_run_63 (by decide) ?_
    refine q_iload_n C dX12_run_65 rfl ?_
    refine q_imul C dX12_run_66 ?_
    refine q_iload_n C dX12_run_67 rfl ?_
    refine q_iadd C dX12_run_68 ?_
    refine q_imul C dX12_run_69 ?_
    obtain ⟨hk, h⟩ := q_obE h
    obtain ⟨u16, e1, h⟩ := q_bind h
    refine x_callV0 C dX12_run_70 lkM_X12_413 mV_X12_canStep ⟨_, rfl, rfl⟩ hk (c_X12_canStep _ _ _ _ _ _ e1) rfl rfl (Nat.le_of_ble_eq_true rfl) (by decide) (by decide) ?_
    refine q_if_eq (tgt := 98) C dX12_run_73 (by decide) h (fun _ h => ?_) (fun _ h => ?_)
    · exact q_msk [true, true, true, true] (kE0 _ _ (Option.some.inj h).symm)
    · refine q_aload_n C dX12_run_76 rfl ?_
      refine q_aload_n C dX12_run_77 rfl ?_
      refine x_getR (ci := 12) (j := 33) C dX12_run_78 lkF_X12_64 rfl h (fun c17 h => ?_)
      refine x_nn h (fun r18 h => ?_)
      refine x_iconst (v := (3 : Int32)) C dX12_run_81 (by decide) ?_
      refine x_bipush (v := (16 : Int32)) C dX12_run_82 (by decide) ?_
      refine q_iload_n C dX12_run_84 rfl ?_
      refine q_imul C dX12_run_85 ?_
      refine q_iload_n C dX12_run_86 rfl ?_
      refine q_iadd C dX12_run_87 ?_
      refine q_imul C dX12_run_88 ?_
      obtain ⟨hk, h⟩ := q_obE h
      obtain ⟨⟨_, M20⟩, e1, h⟩ := q_bind h
      refine x_callVv C dX12_run_89 lkM_X12_416 mV_X12_goStep ⟨_, rfl, rfl⟩ hk (c_X12_goStep _ _ _ _ _ _ e1) rfl rfl (Nat.le_of_ble_eq_true rfl) (by decide) (by decide) ?_
      refine x_iinc (w := (1 : Int32)) (L' := [some (.ref l0), some (.int l1), some (.int l2), some (.int (l3 + (1 : Int32)))]) C dX12_run_92 rfl (by decide) (by decide) rfl rfl ?_
      refine q_goto (tgt := 47) C dX12_run_95 (by decide) ?_
      exact q_msk [true, true, true, true] (kC _ _ (Option.some.inj h).symm)
  · exact q_msk [true, true, true, true] (kE0 _ _ (Option.some.inj h).symm)
set_option maxRecDepth 100000 in
set_option maxHeartbeats 4000000 in
theorem lW_X12_run_47 {K : q_K} {Q : State → Prop} (C : q_C K yX12_run cX12_run 4 (Option.some Jvm.ClassFile.FieldType.int) 136 2 0) (l0 : Nat) (l1 : Int32) (l2 : Int32) (n : Nat) : ∀ (l3 : Int32) (M : q_Mem) (e : (Int32 × q_Mem)), q_lp (fun s => B_X12_run_47 l0 l1 l2 s.1 s.2) n (l3, M) = some e → (∀ (l3 : Int32) (M : q_Mem), e = (l3, M) → q_W K 4 Q 0 0 M 98 [some (.ref l0), some (.int l1), some (.int l2), some (.int l3)] []) → q_W K 4 Q 0 0 M 47 [some (.ref l0), some (.int l1), some (.int l2), some (.int l3)] [] := by
  induction n with
  | zero => intro l3 M e h; cases h
  | succ n ih =>
    intro l3 M e h kE0
    obtain ⟨stp, e1, e2⟩ := q_bind h
    refine bW_X12_run_47 C l0 l1 l2 l3 M e1 (fun a0 a1 hs => ?_) (fun b0 b1 hs => ?_)
    · subst hs; exact ih _ _ _ e2 kE0
    · subst hs; exact kE0 _ _ (Option.some.inj e2).symm
noncomputable def F_X12_run (l0 : Nat) (l1 : Int32) (l2 : Int32) (M : q_Mem) : Option (Int32 × q_Mem) := (q_pI M l0 12 0 (0 : Int32) (fun M1 => (q_ob M1 l0 12 ((F_X12_isWeek l0 l1 M1).bind (fun u2 => (if u2 = 0 then some ((-1000000 : Int32), M1) else (q_gI M1 l0 12 27 (fun v3 => (if v3 = 0 then some ((-1000000 : Int32), M1) else ((F_X12_isIn l2.toInt64 (0 : Int64) (1 : Int64) M1).bind (fun u4 => (if u4 = 0 then some ((-1000000 : Int32), M1) else (q_gR M1 l0 12 32 (fun c5 => q_nn c5 (fun r6 => (q_gR M1 l0 12 33 (fun c7 => q_nn c7 (fun r8 => ((F_X12_copy r6 r8 M1).bind (fun x => match x with | (_, M10) => (q_lp (fun s => B_X12_run_47 l0 l1 l2 s.1 s.2) q_fu ((0 : Int32), M10)).bind (fun e21 => match e21 with | (w22, M23) => (if l2 = (1 : Int32) then (q_gR M23 l0 12 33 (fun c24 => q_nn c24 (fun r25 => (q_ob M23 l0 12 ((F_X12_joys l0 r25 M23).bind (fun u26 => (q_gR M23 l0 12 32 (fun c27 => q_nn c27 (fun r28 => (q_ob M23 l0 12 ((F_X12_joys l0 r28 M23).bind (fun u29 => some ((u26 - u29), M23))))))))))))) else (q_gR M23 l0 12 25 (fun c30 => q_nn c30 (fun r31 => (q_lI M23 0 r31 l1 (fun v32 => (if w22 = v32 then some ((-1 : Int32), M23) else some (w22, M23)))))))))))))))))))))))))))))
set_option maxRecDepth 100000 in
set_option maxHeartbeats 4000000 in
theorem c_X12_run (l : Launch) (G : q_G) (l0 : Nat) (l1 : Int32) (l2 : Int32) (M : q_Mem) {r : Int32} {M' : q_Mem} (h : F_X12_run l0 l1 l2 M = some (r, M')) : q_Met l G yX12_run cX12_run 4 (Option.some Jvm.ClassFile.FieldType.int) 136 2 0 [.ref l0, .int l1, .int l2] M (some (.int r)) M' := by
  unfold F_X12_run at h
  refine q_enter [some (.ref l0), some (.int l1), some (.int l2), none] (by decide) (Nat.le_of_ble_eq_true rfl) rfl (fun K C => ?_)
  refine q_aload_n C dX12_run_0 rfl ?_
  refine x_iconst (v := (0 : Int32)) C dX12_run_1 (by decide) ?_
  refine x_putI (ci := 12) (j := 0) C dX12_run_2 lkF_X12_92 (fun r hr => by cases hr; rfl) rfl h (fun M1 h => ?_)
  refine q_aload_n C dX12_run_5 rfl ?_
  refine q_iload_n C dX12_run_6 rfl ?_
  obtain ⟨hk, h⟩ := q_obE h
  obtain ⟨u2, e1, h⟩ := q_bind h
  refine x_callV0 C dX12_run_7 lkM_X12_406 mV_X12_isWeek ⟨_, rfl, rfl⟩ hk (c_X12_isWeek _ _ _ _ _ e1) rfl rfl (Nat.le_of_ble_eq_true rfl) (by decide) (by decide) ?_
  refine q_if_eq (tgt := 30) C dX12_run_10 (by decide) h (fun _ h => ?_) (fun _ h => ?_)
  · refine q_ldcw (v := (-1000000 : Int32)) C dX12_run_30 wd_1674 ?_
    exact q_iret C dX12_run_33 rfl (by decide) (by decide) (Option.some.inj h)
  · refine q_aload_n C dX12_run_13 rfl ?_
    refine x_getI (ci := 12) (j := 27) C dX12_run_14 lkF_X12_287 rfl h (fun v3 h => ?_)
    refine q_if_eq (tgt := 30) C dX12_run_17 (by decide) h (fun _ h => ?_) (fun _ h => ?_)
    · refine q_ldcw (v := (-1000000 : Int32)) C dX12_run_30 wd_1674 ?_
      exact q_iret C dX12_run_33 rfl (by decide) (by decide) (Option.some.inj h)
    · refine q_iload_n C dX12_run_20 rfl ?_
      refine q_i2l C dX12_run_21 ?_
      refine x_lconst (v := (0 : Int64)) C dX12_run_22 (by decide) ?_
      refine x_lconst (v := (1 : Int64)) C dX12_run_23 (by decide) ?_
      obtain ⟨u4, e1, h⟩ := q_bind h
      refine x_callS0 C dX12_run_24 lkM_X12_213 mS_X12_isIn (c_X12_isIn _ _ _ _ _ _ e1) rfl rfl (Nat.le_of_ble_eq_true rfl) (by decide) (by decide) ?_
      refine q_if_ne (tgt := 34) C dX12_run_27 (by decide) h (fun _ h => ?_) (fun _ h => ?_)
      · refine q_ldcw (v := (-1000000 : Int32)) C dX12_run_30 wd_1674 ?_
        exact q_iret C dX12_run_33 rfl (by decide) (by decide) (Option.some.inj h)
      · refine q_aload_n C dX12_run_34 rfl ?_
        refine x_getR (ci := 12) (j := 32) C dX12_run_35 lkF_X12_61 rfl h (fun c5 h => ?_)
        refine x_nn h (fun r6 h => ?_)
        refine q_aload_n C dX12_run_38 rfl ?_
        refine x_getR (ci := 12) (j := 33) C dX12_run_39 lkF_X12_64 rfl h (fun c7 h => ?_)
        refine x_nn h (fun r8 h => ?_)
        obtain ⟨⟨_, M10⟩, e1, h⟩ := q_bind h
        refine x_callSv0 C dX12_run_42 lkM_X12_409 mS_X12_copy (c_X12_copy _ _ _ _ _ e1) rfl rfl (Nat.le_of_ble_eq_true rfl) (by decide) (by decide) ?_
        refine x_iconst (v := (0 : Int32)) C dX12_run_45 (by decide) ?_
        refine q_istore_n (L' := [some (.ref l0), some (.int l1), some (.int l2), some (.int (0 : Int32))]) C dX12_run_46 (by decide) rfl rfl ?_
        obtain ⟨e21, he, h⟩ := q_bind h
        refine q_msk [true, true, true, true] (lW_X12_run_47 C l0 l1 l2 q_fu _ _ _ he (fun w22 M23 hs => ?_))
        · have hs := hs.symm
          subst hs
          refine q_iload_n C dX12_run_98 rfl ?_
          refine x_iconst (v := (1 : Int32)) C dX12_run_99 (by decide) ?_
          refine q_icmp_ne (tgt := 121) C dX12_run_100 (by decide) h (fun _ h => ?_) (fun _ h => ?_)
          · refine q_aload_n C dX12_run_103 rfl ?_
            refine q_aload_n C dX12_run_104 rfl ?_
            refine x_getR (ci := 12) (j := 33) C dX12_run_105 lkF_X12_64 rfl h (fun c24 h => ?_)
            refine x_nn h (fun r25 h => ?_)
            obtain ⟨hk, h⟩ := q_obE h
            obtain ⟨u26, e1, h⟩ := q_bind h
            refine x_callV0 C dX12_run_108 lkM_X12_354 mV_X12_joys ⟨_, rfl, rfl⟩ hk (c_X12_joys _ _ _ _ _ e1) rfl rfl (Nat.le_of_ble_eq_true rfl) (by decide) (by decide) ?_
            refine q_aload_n C dX12_run_111 rfl ?_
            refine q_aload_n C dX12_run_112 rfl ?_
            refine x_getR (ci := 12) (j := 32) C dX12_run_113 lkF_X12_61 rfl h (fun c27 h => ?_)
            refine x_nn h (fun r28 h => ?_)
            obtain ⟨hk, h⟩ := q_obE h
            obtain ⟨u29, e1, h⟩ := q_bind h
            refine x_callV0 C dX12_run_116 lkM_X12_354 mV_X12_joys ⟨_, rfl, rfl⟩ hk (c_X12_joys _ _ _ _ _ e1) rfl rfl (Nat.le_of_ble_eq_true rfl) (by decide) (by decide) ?_
            refine q_isub C dX12_run_119 ?_
            exact q_iret C dX12_run_120 rfl (by decide) (by decide) (Option.some.inj h)
          · refine q_iload_n C dX12_run_121 rfl ?_
            refine q_aload_n C dX12_run_122 rfl ?_
            refine x_getR (ci := 12) (j := 25) C dX12_run_123 lkF_X12_58 rfl h (fun c30 h => ?_)
            refine x_nn h (fun r31 h => ?_)
            refine q_iload_n C dX12_run_126 rfl ?_
            refine x_iald C dX12_run_127 h (fun v32 h => ?_)
            refine q_icmp_ne (tgt := 135) C dX12_run_128 (by decide) h (fun _ h => ?_) (fun _ h => ?_)
            · refine x_iconst (v := (-1 : Int32)) C dX12_run_131 (by decide) ?_
              refine q_goto (tgt := 136) C dX12_run_132 (by decide) ?_
              exact q_iret C dX12_run_136 rfl (by decide) (by decide) (Option.some.inj h)
            · refine q_iload_n C dX12_run_135 rfl ?_
              exact q_iret C dX12_run_136 rfl (by decide) (by decide) (Option.some.inj h)
noncomputable def B_X12_perform_24 (l0 : Nat) (l1 : Int32) (l2 : Int32) (M : q_Mem) : Option ((Int32 × q_Mem) ⊕ (Int32 × q_Mem)) := (q_gR M l0 12 25 (fun c4 => q_nn c4 (fun r5 => (q_lI M 0 r5 l1 (fun v6 => (if l2 < v6 then (q_gR M l0 12 32 (fun c7 => q_nn c7 (fun r8 => (q_ob M l0 12 ((F_X12_canStep l0 r8 ((3 : Int32) * (((16 : Int32) * l1) + l2)) M).bind (fun u9 => (if u9 = 0 then some (.inr (l2, M)) else (q_ob M l0 12 ((F_X12_remember l0 M).bind (fun x => match x with | (_, M11) => (q_gR M11 l0 12 32 (fun c12 => q_nn c12 (fun r13 => (q_ob M11 l0 12 ((F_X12_goStep l0 r13 ((3 : Int32) * (((16 : Int32) * l1) + l2)) M11).bind (fun x => match x with | (_, M15) => some (.inl ((l2 + (1 : Int32)), M15)))))))))))))))))) else some (.inr (l2, M))))))))
set_option maxRecDepth 100000 in
set_option maxHeartbeats 4000000 in
theorem bW_X12_perform_24 {K : q_K} {Q : State → Prop} (C : q_C K yX12_perform cX12_perform 3 (Option.some Jvm.ClassFile.FieldType.int) 136 2 0) (l0 : Nat) (l1 : Int32) (l2 : Int32) (M : q_Mem) {stp : (Int32 × q_Mem) ⊕ (Int32 × q_Mem)} (h : B_X12_perform_24 l0 l1 l2 M = some stp) (kC : ∀ (l2 : Int32) (M : q_Mem), stp = .inl (l2, M) → q_W K 3 Q 0 0 M 24 [some (.ref l0), some (.int l1), some (.int l2)] []) (kE0 : ∀ (l2 : Int32) (M : q_Mem), stp = .inr (l2, M) → q_W K 3 Q 0 0 M 79 [none, none, some (.int l2)] []) : q_W K 3 Q 0 0 M 24 [some (.ref l0), some (.int l1), some (.int l2)] [] := by
  unfold B_X12_perform_24 at h
  refine q_iload_n C dX12_perform_24 rfl ?_
  refine q_aload_n C dX12_perform_25 rfl ?_
  refine x_getR (ci := 12) (j := 25) C dX12_perform_26 lkF_X12_58 rfl h (fun c4 h => ?_)
  refine x_nn h (fun r5 h => ?_)
  refine q_iload_n C dX12_perform_29 rfl ?_
  refine x_iald C dX12_perform_30 h (fun v6 h => ?_)
  refine q_icmp_ge (tgt := 79) C dX12_perform_31 (by decide) h (fun _ h => ?_) (fun _ h => ?_)
  · refine q_aload_n C dX12_perform_34 rfl ?_
    refine q_aload_n C dX12_perform_35 rfl ?_
    refine x_getR (ci := 12) (j := 32) C dX12_perform_36 lkF_X12_61 rfl h (fun c7 h => ?_)
    refine x_nn h (fun r8 h => ?_)
    refine x_iconst (v := (3 : Int32)) C dX12_perform_39 (by decide) ?_
    refine x_bipush (v := (16 : Int32)) C dX12_perform_40 (by decide) ?_
    refine q_iload_n C dX12_perform_42 rfl ?_
    refine q_imul C dX12_perform_43 ?_
    refine q_iload_n C dX12_perform_44 rfl ?_
    refine q_iadd C dX12_perform_45 ?_
    refine q_imul C dX12_perform_46 ?_
    obtain ⟨hk, h⟩ := q_obE h
    obtain ⟨u9, e1, h⟩ := q_bind h
    refine x_callV0 C dX12_perform_47 lkM_X12_413 mV_X12_canStep ⟨_, rfl, rfl⟩ hk (c_X12_canStep _ _ _ _ _ _ e1) rfl rfl (Nat.le_of_ble_eq_true rfl) (by decide) (by decide) ?_
    refine q_if_eq (tgt := 79) C dX12_perform_50 (by decide) h (fun _ h => ?_) (fun _ h => ?_)
    · exact q_msk [false, false, true] (kE0 _ _ (Option.some.inj h).symm)
    · refine q_aload_n C dX12_perform_53 rfl ?_
      obtain ⟨hk, h⟩ := q_obE h
      obtain ⟨⟨_, M11⟩, e1, h⟩ := q_bind h
      refine x_callVv0 C dX12_perform_54 lkM_X12_367 mV_X12_remember ⟨_, rfl, rfl⟩ hk (c_X12_remember _ _ _ _ e1) rfl rfl (Nat.le_of_ble_eq_true rfl) (by decide) (by decide) ?_
      refine q_aload_n C dX12_perform_57 rfl ?_
      refine q_aload_n C dX12_perform_58 rfl ?_
      refine x_getR (ci := 12) (j := 32) C dX12_perform_59 lkF_X12_61 rfl h (fun c12 h => ?_)
      refine x_nn h (fun r13 h => ?_)
      refine x_iconst (v := (3 : Int32)) C dX12_perform_62 (by decide) ?_
      refine x_bipush (v := (16 : Int32)) C dX12_perform_63 (by decide) ?_
      refine q_iload_n C dX12_perform_65 rfl ?_
      refine q_imul C dX12_perform_66 ?_
      refine q_iload_n C dX12_perform_67 rfl ?_
      refine q_iadd C dX12_perform_68 ?_
      refine q_imul C dX12_perform_69 ?_
      obtain ⟨hk, h⟩ := q_obE h
      obtain ⟨⟨_, M15⟩, e1, h⟩ := q_bind h
      refine x_callVv C dX12_perform_70 lkM_X12_416 mV_X12_goStep ⟨_, rfl, rfl⟩ hk (c_X12_goStep _ _ _ _ _ _ e1) rfl rfl (Nat.le_of_ble_eq_true rfl) (by decide) (by decide) ?_
      refine x_iinc (w := (1 : Int32)) (L' := [some (.ref l0), some (.int l1), some (.int (l2 + (1 : Int32)))]) C dX12_perform_73 rfl (by decide) (by decide) rfl rfl ?_
      refine q_goto (tgt := 24) C dX12_perform_76 (by decide) ?_
      exact q_msk [true, true, true] (kC _ _ (Option.some.inj h).symm)
  · exact q_msk [false, false, true] (kE0 _ _ (Option.some.inj h).symm)
set_option maxRecDepth 100000 in
set_option maxHeartbeats 4000000 in
theorem lW_X12_perform_24 {K : q_K} {Q : State → Prop} (C : q_C K yX12_perform cX12_perform 3 (Option.some Jvm.ClassFile.FieldType.int) 136 2 0) (l0 : Nat) (l1 : Int32) (n : Nat) : ∀ (l2 : Int32) (M : q_Mem) (e : (Int32 × q_Mem)), q_lp (fun s => B_X12_perform_24 l0 l1 s.1 s.2) n (l2, M) = some e → (∀ (l2 : Int32) (M : q_Mem), e = (l2, M) → q_W K 3 Q 0 0 M 79 [none, none, some (.int l2)] []) → q_W K 3 Q 0 0 M 24 [some (.ref l0), some (.int l1), some (.int l2)] [] := by
  induction n with
  | zero => intro l2 M e h; cases h
  | succ n ih =>
    intro l2 M e h kE0
    obtain ⟨stp, e1, e2⟩ := q_bind h
    refine bW_X12_perform_24 C l0 l1 l2 M e1 (fun a0 a1 hs => ?_) (fun b0 b1 hs => ?_)
    · subst hs; exact ih _ _ _ e2 kE0
    · subst hs; exact kE0 _ _ (Option.some.inj e2).symm
noncomputable def F_X12_perform (l0 : Nat) (l1 : Int32) (M : q_Mem) : Option (Int32 × q_Mem) := (q_pI M l0 12 0 (0 : Int32) (fun M1 => (q_ob M1 l0 12 ((F_X12_isWeek l0 l1 M1).bind (fun u2 => (if u2 = 0 then some ((-1 : Int32), M1) else (q_gI M1 l0 12 27 (fun v3 => (if v3 = 0 then some ((-1 : Int32), M1) else (q_lp (fun s => B_X12_perform_24 l0 l1 s.1 s.2) q_fu ((0 : Int32), M1)).bind (fun e16 => match e16 with | (w17, M18) => some (w17, M18)))))))))))
set_option maxRecDepth 100000 in
set_option maxHeartbeats 4000000 in
theorem c_X12_perform (l : Launch) (G : q_G) (l0 : Nat) (l1 : Int32) (M : q_Mem) {r : Int32} {M' : q_Mem} (h : F_X12_perform l0 l1 M = some (r, M')) : q_Met l G yX12_perform cX12_perform 3 (Option.some Jvm.ClassFile.FieldType.int) 136 2 0 [.ref l0, .int l1] M (some (.int r)) M' := by
  unfold F_X12_perform at h
  refine q_enter [some (.ref l0), some (.int l1), none] (by decide) (Nat.le_of_ble_eq_true rfl) rfl (fun K C => ?_)
  refine q_aload_n C dX12_perform_0 rfl ?_
  refine x_iconst (v := (0 : Int32)) C dX12_perform_1 (by decide) ?_
  refine x_putI (ci := 12) (j := 0) C dX12_perform_2 lkF_X12_92 (fun r hr => by cases hr; rfl) rfl h (fun M1 h => ?_)
  refine q_aload_n C dX12_perform_5 rfl ?_
  refine q_iload_n C dX12_perform_6 rfl ?_
  obtain ⟨hk, h⟩ := q_obE h
  obtain ⟨u2, e1, h⟩ := q_bind h
  refine x_callV0 C dX12_perform_7 lkM_X12_406 mV_X12_isWeek ⟨_, rfl, rfl⟩ hk (c_X12_isWeek _ _ _ _ _ e1) rfl rfl (Nat.le_of_ble_eq_true rfl) (by decide) (by decide) ?_
  refine q_if_eq (tgt := 20) C dX12_perform_10 (by decide) h (fun _ h => ?_) (fun _ h => ?_)
  · refine x_iconst (v := (-1 : Int32)) C dX12_perform_20 (by decide) ?_
    exact q_iret C dX12_perform_21 rfl (by decide) (by decide) (Option.some.inj h)
  · refine q_aload_n C dX12_perform_13 rfl ?_
    refine x_getI (ci := 12) (j := 27) C dX12_perform_14 lkF_X12_287 rfl h (fun v3 h => ?_)
    refine q_if_ne (tgt := 22) C dX12_perform_17 (by decide) h (fun _ h => ?_) (fun _ h => ?_)
    · refine x_iconst (v := (-1 : Int32)) C dX12_perform_20 (by decide) ?_
      exact q_iret C dX12_perform_21 rfl (by decide) (by decide) (Option.some.inj h)
    · refine x_iconst (v := (0 : Int32)) C dX12_perform_22 (by decide) ?_
      refine q_istore_n (L' := [some (.ref l0), some (.int l1), some (.int (0 : Int32))]) C dX12_perform_23 (by decide) rfl rfl ?_
      obtain ⟨e16, he, h⟩ := q_bind h
      refine q_msk [true, true, true] (lW_X12_perform_24 C l0 l1 q_fu _ _ _ he (fun w17 M18 hs => ?_))
      · have hs := hs.symm
        subst hs
        refine q_iload_n C dX12_perform_79 rfl ?_
        exact q_iret C dX12_perform_80 rfl (by decide) (by decide) (Option.some.inj h)
noncomputable def B_X12_goOn_13 (l0 : Nat) (l1 : Int32) (l2 : Int32) (M : q_Mem) : Option ((Int32 × q_Mem) ⊕ (q_Mem)) := (if l2 < l1 then (q_gR M l0 12 33 (fun c7 => q_nn c7 (fun r8 => (q_ob M l0 12 ((F_X12_goDay l0 r8 M).bind (fun x => match x with | (u9, M10) => some (.inl ((l2 + (1 : Int32)), M10)))))))) else some (.inr M))
set_option maxRecDepth 100000 in
set_option maxHeartbeats 4000000 in
theorem bW_X12_goOn_13 {K : q_K} {Q : State → Prop} (C : q_C K yX12_goOn cX12_goOn 4 (Option.none : Option Jvm.ClassFile.FieldType) 135 2 0) (l0 : Nat) (l1 : Int32) (l2 : Int32) (M : q_Mem) {stp : (Int32 × q_Mem) ⊕ (q_Mem)} (h : B_X12_goOn_13 l0 l1 l2 M = some stp) (kC : ∀ (l2 : Int32) (M : q_Mem), stp = .inl (l2, M) → q_W K 4 Q 0 0 M 13 [some (.ref l0), some (.int l1), some (.int l2), none] []) (kE0 : ∀ (M : q_Mem), stp = .inr M → q_W K 4 Q 0 0 M 33 [none, none, none, none] []) : q_W K 4 Q 0 0 M 13 [some (.ref l0), some (.int l1), some (.int l2), none] [] := by
  unfold B_X12_goOn_13 at h
  refine q_iload_n C dX12_goOn_13 rfl ?_
  refine q_iload_n C dX12_goOn_14 rfl ?_
  refine q_icmp_ge (tgt := 33) C dX12_goOn_15 (by decide) h (fun _ h => ?_) (fun _ h => ?_)
  · refine q_aload_n C dX12_goOn_18 rfl ?_
    refine q_aload_n C dX12_goOn_19 rfl ?_
    refine x_getR (ci := 12) (j := 33) C dX12_goOn_20 lkF_X12_64 rfl h (fun c7 h => ?_)
    refine x_nn h (fun r8 h => ?_)
    obtain ⟨hk, h⟩ := q_obE h
    obtain ⟨⟨u9, M10⟩, e1, h⟩ := q_bind h
    refine x_callV C dX12_goOn_23 lkM_X12_370 mV_X12_goDay ⟨_, rfl, rfl⟩ hk (c_X12_goDay _ _ _ _ _ e1) rfl rfl (Nat.le_of_ble_eq_true rfl) (by decide) (by decide) ?_
    refine q_istore_n (L' := [some (.ref l0), some (.int l1), some (.int l2), some (.int u9)]) C dX12_goOn_26 (by decide) rfl rfl ?_
    refine x_iinc (w := (1 : Int32)) (L' := [some (.ref l0), some (.int l1), some (.int (l2 + (1 : Int32))), some (.int u9)]) C dX12_goOn_27 rfl (by decide) (by decide) rfl rfl ?_
    refine q_goto (tgt := 13) C dX12_goOn_30 (by decide) ?_
    exact q_msk [true, true, true, false] (kC _ _ (Option.some.inj h).symm)
  · exact q_msk [false, false, false, false] (kE0 _ (Option.some.inj h).symm)
set_option maxRecDepth 100000 in
set_option maxHeartbeats 4000000 in
theorem lW_X12_goOn_13 {K : q_K} {Q : State → Prop} (C : q_C K yX12_goOn cX12_goOn 4 (Option.none : Option Jvm.ClassFile.FieldType) 135 2 0) (l0 : Nat) (l1 : Int32) (n : Nat) : ∀ (l2 : Int32) (M : q_Mem) (e : (q_Mem)), q_lp (fun s => B_X12_goOn_13 l0 l1 s.1 s.2) n (l2, M) = some e → (∀ (M : q_Mem), e = M → q_W K 4 Q 0 0 M 33 [none, none, none, none] []) → q_W K 4 Q 0 0 M 13 [some (.ref l0), some (.int l1), some (.int l2), none] [] := by
  induction n with
  | zero => intro l2 M e h; cases h
  | succ n ih =>
    intro l2 M e h kE0
    obtain ⟨stp, e1, e2⟩ := q_bind h
    refine bW_X12_goOn_13 C l0 l1 l2 M e1 (fun a0 a1 hs => ?_) (fun b0 hs => ?_)
    · subst hs; exact ih _ _ _ e2 kE0
    · subst hs; exact kE0 _ (Option.some.inj e2).symm
noncomputable def F_X12_goOn (l0 : Nat) (l1 : Int32) (M : q_Mem) : Option (Unit × q_Mem) := (q_gR M l0 12 32 (fun c1 => q_nn c1 (fun r2 => (q_gR M l0 12 33 (fun c3 => q_nn c3 (fun r4 => ((F_X12_copy r2 r4 M).bind (fun x => match x with | (_, M6) => (q_lp (fun s => B_X12_goOn_13 l0 l1 s.1 s.2) q_fu ((0 : Int32), M6)).bind (fun e11 => match e11 with | M12 => some ((), M12))))))))))
set_option maxRecDepth 100000 in
set_option maxHeartbeats 4000000 in
theorem c_X12_goOn (l : Launch) (G : q_G) (l0 : Nat) (l1 : Int32) (M : q_Mem) {r : Unit} {M' : q_Mem} (h : F_X12_goOn l0 l1 M = some (r, M')) : q_Met l G yX12_goOn cX12_goOn 4 (Option.none : Option Jvm.ClassFile.FieldType) 135 2 0 [.ref l0, .int l1] M none M' := by
  unfold F_X12_goOn at h
  refine q_enter [some (.ref l0), some (.int l1), none, none] (by decide) (Nat.le_of_ble_eq_true rfl) rfl (fun K C => ?_)
  refine q_aload_n C dX12_goOn_0 rfl ?_
  refine x_getR (ci := 12) (j := 32) C dX12_goOn_1 lkF_X12_61 rfl h (fun c1 h => ?_)
  refine x_nn h (fun r2 h => ?_)
  refine q_aload_n C dX12_goOn_4 rfl ?_
  refine x_getR (ci := 12) (j := 33) C dX12_goOn_5 lkF_X12_64 rfl h (fun c3 h => ?_)
  refine x_nn h (fun r4 h => ?_)
  obtain ⟨⟨_, M6⟩, e1, h⟩ := q_bind h
  refine x_callSv0 C dX12_goOn_8 lkM_X12_409 mS_X12_copy (c_X12_copy _ _ _ _ _ e1) rfl rfl (Nat.le_of_ble_eq_true rfl) (by decide) (by decide) ?_
  refine x_iconst (v := (0 : Int32)) C dX12_goOn_11 (by decide) ?_
  refine q_istore_n (L' := [some (.ref l0), some (.int l1), some (.int (0 : Int32)), none]) C dX12_goOn_12 (by decide) rfl rfl ?_
  obtain ⟨e11, he, h⟩ := q_bind h
  refine q_msk [true, true, true, false] (lW_X12_goOn_13 C l0 l1 q_fu _ _ _ he (fun M12 hs => ?_))
  · have hs := hs.symm
    subst hs
    exact q_vret C dX12_goOn_33 rfl (by decide) (by decide) (Option.some.inj h)
noncomputable def F_X12_serves_ (l0 : Nat) (l1 : Int32) (l2 : Int32) (M : q_Mem) : Option (Int32 × q_Mem) := (q_pI M l0 12 0 (0 : Int32) (fun M1 => (q_gI M1 l0 12 27 (fun v2 => (if v2 = 0 then some ((-1 : Int32), M1) else ((F_X12_isIn l1.toInt64 (0 : Int64) (20 : Int64) M1).bind (fun u3 => (if u3 = 0 then some ((-1 : Int32), M1) else ((F_X12_isIn l2.toInt64 (0 : Int64) (2 : Int64) M1).bind (fun u4 => (if u4 = 0 then some ((-1 : Int32), M1) else (q_ob M1 l0 12 ((F_X12_goOn l0 l1 M1).bind (fun x => match x with | (_, M6) => (q_gR M6 l0 12 33 (fun c7 => q_nn c7 (fun r8 => (q_ob M6 l0 12 ((F_X12_goTable l0 r8 M6).bind (fun x => match x with | (_, M10) => (q_gI M10 l0 12 37 (fun v11 => (if v11 = (-1 : Int32) then some ((-1 : Int32), M10) else (if l2 = 0 then (q_gI M10 l0 12 37 (fun v12 => some (v12, M10))) else (if l2 = (1 : Int32) then (q_gI M10 l0 12 38 (fun v13 => some (v13, M10))) else (q_gI M10 l0 12 39 (fun v14 => some (v14, M10))))))))))))))))))))))))))))
set_option maxRecDepth 100000 in
set_option maxHeartbeats 4000000 in
theorem c_X12_serves_ (l : Launch) (G : q_G) (l0 : Nat) (l1 : Int32) (l2 : Int32) (M : q_Mem) {r : Int32} {M' : q_Mem} (h : F_X12_serves_ l0 l1 l2 M = some (r, M')) : q_Met l G yX12_serves_ cX12_serves_ 3 (Option.some Jvm.ClassFile.FieldType.int) 136 2 0 [.ref l0, .int l1, .int l2] M (some (.int r)) M' := by
  unfold F_X12_serves_ at h
  refine q_enter [some (.ref l0), some (.int l1), some (.int l2)] (by decide) (Nat.le_of_ble_eq_true rfl) rfl (fun K C => ?_)
  refine q_aload_n C dX12_serves__0 rfl ?_
  refine x_iconst (v := (0 : Int32)) C dX12_serves__1 (by decide) ?_
  refine x_putI (ci := 12) (j := 0) C dX12_serves__2 lkF_X12_92 (fun r hr => by cases hr; rfl) rfl h (fun M1 h => ?_)
  refine q_aload_n C dX12_serves__5 rfl ?_
  refine x_getI (ci := 12) (j := 27) C dX12_serves__6 lkF_X12_287 rfl h (fun v2 h => ?_)
  refine q_if_eq (tgt := 36) C dX12_serves__9 (by decide) h (fun _ h => ?_) (fun _ h => ?_)
  · refine x_iconst (v := (-1 : Int32)) C dX12_serves__36 (by decide) ?_
    exact q_iret C dX12_serves__37 rfl (by decide) (by decide) (Option.some.inj h)
  · refine q_iload_n C dX12_serves__12 rfl ?_
    refine q_i2l C dX12_serves__13 ?_
    refine x_lconst (v := (0 : Int64)) C dX12_serves__14 (by decide) ?_
    refine q_ldc2 (v := (20 : Int64)) C dX12_serves__15 wd_1706 ?_
    obtain ⟨u3, e1, h⟩ := q_bind h
    refine x_callS0 C dX12_serves__18 lkM_X12_213 mS_X12_isIn (c_X12_isIn _ _ _ _ _ _ e1) rfl rfl (Nat.le_of_ble_eq_true rfl) (by decide) (by decide) ?_
    refine q_if_eq (tgt := 36) C dX12_serves__21 (by decide) h (fun _ h => ?_) (fun _ h => ?_)
    · refine x_iconst (v := (-1 : Int32)) C dX12_serves__36 (by decide) ?_
      exact q_iret C dX12_serves__37 rfl (by decide) (by decide) (Option.some.inj h)
    · refine q_iload_n C dX12_serves__24 rfl ?_
      refine q_i2l C dX12_serves__25 ?_
      refine x_lconst (v := (0 : Int64)) C dX12_serves__26 (by decide) ?_
      refine q_ldc2 (v := (2 : Int64)) C dX12_serves__27 wd_1373 ?_
      obtain ⟨u4, e1, h⟩ := q_bind h
      refine x_callS0 C dX12_serves__30 lkM_X12_213 mS_X12_isIn (c_X12_isIn _ _ _ _ _ _ e1) rfl rfl (Nat.le_of_ble_eq_true rfl) (by decide) (by decide) ?_
      refine q_if_ne (tgt := 38) C dX12_serves__33 (by decide) h (fun _ h => ?_) (fun _ h => ?_)
      · refine x_iconst (v := (-1 : Int32)) C dX12_serves__36 (by decide) ?_
        exact q_iret C dX12_serves__37 rfl (by decide) (by decide) (Option.some.inj h)
      · refine q_aload_n C dX12_serves__38 rfl ?_
        refine q_iload_n C dX12_serves__39 rfl ?_
        obtain ⟨hk, h⟩ := q_obE h
        obtain ⟨⟨_, M6⟩, e1, h⟩ := q_bind h
        refine x_callVv C dX12_serves__40 lkM_X12_422 mV_X12_goOn ⟨_, rfl, rfl⟩ hk (c_X12_goOn _ _ _ _ _ e1) rfl rfl (Nat.le_of_ble_eq_true rfl) (by decide) (by decide) ?_
        refine q_aload_n C dX12_serves__43 rfl ?_
        refine q_aload_n C dX12_serves__44 rfl ?_
        refine x_getR (ci := 12) (j := 33) C dX12_serves__45 lkF_X12_64 rfl h (fun c7 h => ?_)
        refine x_nn h (fun r8 h => ?_)
        obtain ⟨hk, h⟩ := q_obE h
        obtain ⟨⟨_, M10⟩, e1, h⟩ := q_bind h
        refine x_callVv0 C dX12_serves__48 lkM_X12_341 mV_X12_goTable ⟨_, rfl, rfl⟩ hk (c_X12_goTable _ _ _ _ _ e1) rfl rfl (Nat.le_of_ble_eq_true rfl) (by decide) (by decide) ?_
        refine q_aload_n C dX12_serves__51 rfl ?_
        refine x_getI (ci := 12) (j := 37) C dX12_serves__52 lkF_X12_313 rfl h (fun v11 h => ?_)
        refine x_iconst (v := (-1 : Int32)) C dX12_serves__55 (by decide) ?_
        refine q_icmp_ne (tgt := 61) C dX12_serves__56 (by decide) h (fun _ h => ?_) (fun _ h => ?_)
        · refine x_iconst (v := (-1 : Int32)) C dX12_serves__59 (by decide) ?_
          exact q_iret C dX12_serves__60 rfl (by decide) (by decide) (Option.some.inj h)
        · refine q_iload_n C dX12_serves__61 rfl ?_
          refine q_if_ne (tgt := 72) C dX12_serves__62 (by decide) h (fun _ h => ?_) (fun _ h => ?_)
          · refine q_aload_n C dX12_serves__65 rfl ?_
            refine x_getI (ci := 12) (j := 37) C dX12_serves__66 lkF_X12_313 rfl h (fun v12 h => ?_)
            refine q_goto (tgt := 88) C dX12_serves__69 (by decide) ?_
            exact q_iret C dX12_serves__88 rfl (by decide) (by decide) (Option.some.inj h)
          · refine q_iload_n C dX12_serves__72 rfl ?_
            refine x_iconst (v := (1 : Int32)) C dX12_serves__73 (by decide) ?_
            refine q_icmp_ne (tgt := 84) C dX12_serves__74 (by decide) h (fun _ h => ?_) (fun _ h => ?_)
            · refine q_aload_n C dX12_serves__77 rfl ?_
              refine x_getI (ci := 12) (j := 38) C dX12_serves__78 lkF_X12_319 rfl h (fun v13 h => ?_)
              refine q_goto (tgt := 88) C dX12_serves__81 (by decide) ?_
              exact q_iret C dX12_serves__88 rfl (by decide) (by decide) (Option.some.inj h)
            · refine q_aload_n C dX12_serves__84 rfl ?_
              refine x_getI (ci := 12) (j := 39) C dX12_serves__85 lkF_X12_316 rfl h (fun v14 h => ?_)
              exact q_iret C dX12_serves__88 rfl (by decide) (by decide) (Option.some.inj h)
noncomputable def F_X12_there (l0 : Nat) (l1 : Int32) (M : q_Mem) : Option (Int32 × q_Mem) := (q_pI M l0 12 0 (0 : Int32) (fun M1 => (q_gI M1 l0 12 27 (fun v2 => (if v2 = 0 then some ((-1 : Int32), M1) else ((F_X12_isIn l1.toInt64 (0 : Int64) (20 : Int64) M1).bind (fun u3 => (if u3 = 0 then some ((-1 : Int32), M1) else (q_ob M1 l0 12 ((F_X12_goOn l0 l1 M1).bind (fun x => match x with | (_, M5) => (q_gR M5 l0 12 33 (fun c6 => q_nn c6 (fun r7 => (q_ob M5 l0 12 ((F_X12_thereBits l0 r7 M5).bind (fun u8 => some (u8, M5))))))))))))))))))
set_option maxRecDepth 100000 in
set_option maxHeartbeats 4000000 in
theorem c_X12_there (l : Launch) (G : q_G) (l0 : Nat) (l1 : Int32) (M : q_Mem) {r : Int32} {M' : q_Mem} (h : F_X12_there l0 l1 M = some (r, M')) : q_Met l G yX12_there cX12_there 2 (Option.some Jvm.ClassFile.FieldType.int) 136 2 0 [.ref l0, .int l1] M (some (.int r)) M' := by
  unfold F_X12_there at h
  refine q_enter [some (.ref l0), some (.int l1)] (by decide) (Nat.le_of_ble_eq_true rfl) rfl (fun K C => ?_)
  refine q_aload_n C dX12_there_0 rfl ?_
  refine x_iconst (v := (0 : Int32)) C dX12_there_1 (by decide) ?_
  refine x_putI (ci := 12) (j := 0) C dX12_there_2 lkF_X12_92 (fun r hr => by cases hr; rfl) rfl h (fun M1 h => ?_)
  refine q_aload_n C dX12_there_5 rfl ?_
  refine x_getI (ci := 12) (j := 27) C dX12_there_6 lkF_X12_287 rfl h (fun v2 h => ?_)
  refine q_if_eq (tgt := 24) C dX12_there_9 (by decide) h (fun _ h => ?_) (fun _ h => ?_)
  · refine x_iconst (v := (-1 : Int32)) C dX12_there_24 (by decide) ?_
    exact q_iret C dX12_there_25 rfl (by decide) (by decide) (Option.some.inj h)
  · refine q_iload_n C dX12_there_12 rfl ?_
    refine q_i2l C dX12_there_13 ?_
    refine x_lconst (v := (0 : Int64)) C dX12_there_14 (by decide) ?_
    refine q_ldc2 (v := (20 : Int64)) C dX12_there_15 wd_1706 ?_
    obtain ⟨u3, e1, h⟩ := q_bind h
    refine x_callS0 C dX12_there_18 lkM_X12_213 mS_X12_isIn (c_X12_isIn _ _ _ _ _ _ e1) rfl rfl (Nat.le_of_ble_eq_true rfl) (by decide) (by decide) ?_
    refine q_if_ne (tgt := 26) C dX12_there_21 (by decide) h (fun _ h => ?_) (fun _ h => ?_)
    · refine x_iconst (v := (-1 : Int32)) C dX12_there_24 (by decide) ?_
      exact q_iret C dX12_there_25 rfl (by decide) (by decide) (Option.some.inj h)
    · refine q_aload_n C dX12_there_26 rfl ?_
      refine q_iload_n C dX12_there_27 rfl ?_
      obtain ⟨hk, h⟩ := q_obE h
      obtain ⟨⟨_, M5⟩, e1, h⟩ := q_bind h
      refine x_callVv C dX12_there_28 lkM_X12_422 mV_X12_goOn ⟨_, rfl, rfl⟩ hk (c_X12_goOn _ _ _ _ _ e1) rfl rfl (Nat.le_of_ble_eq_true rfl) (by decide) (by decide) ?_
      refine q_aload_n C dX12_there_31 rfl ?_
      refine q_aload_n C dX12_there_32 rfl ?_
      refine x_getR (ci := 12) (j := 33) C dX12_there_33 lkF_X12_64 rfl h (fun c6 h => ?_)
      refine x_nn h (fun r7 h => ?_)
      obtain ⟨hk, h⟩ := q_obE h
      obtain ⟨u8, e1, h⟩ := q_bind h
      refine x_callV0 C dX12_there_36 lkM_X12_326 mV_X12_thereBits ⟨_, rfl, rfl⟩ hk (c_X12_thereBits _ _ _ _ _ e1) rfl rfl (Nat.le_of_ble_eq_true rfl) (by decide) (by decide) ?_
      exact q_iret C dX12_there_39 rfl (by decide) (by decide) (Option.some.inj h)
noncomputable def F_X12_tableNow (l0 : Nat) (M : q_Mem) : Option (Unit × q_Mem) := (q_ob M l0 12 ((F_X12_goOn l0 (0 : Int32) M).bind (fun x => match x with | (_, M2) => (q_gR M2 l0 12 33 (fun c3 => q_nn c3 (fun r4 => (q_ob M2 l0 12 ((F_X12_goTable l0 r4 M2).bind (fun x => match x with | (_, M6) => some ((), M6))))))))))
set_option maxRecDepth 100000 in
set_option maxHeartbeats 4000000 in
theorem c_X12_tableNow (l : Launch) (G : q_G) (l0 : Nat) (M : q_Mem) {r : Unit} {M' : q_Mem} (h : F_X12_tableNow l0 M = some (r, M')) : q_Met l G yX12_tableNow cX12_tableNow 1 (Option.none : Option Jvm.ClassFile.FieldType) 136 2 0 [.ref l0] M none M' := by
  unfold F_X12_tableNow at h
  refine q_enter [some (.ref l0)] (by decide) (Nat.le_of_ble_eq_true rfl) rfl (fun K C => ?_)
  refine q_aload_n C dX12_tableNow_0 rfl ?_
  refine x_iconst (v := (0 : Int32)) C dX12_tableNow_1 (by decide) ?_
  obtain ⟨hk, h⟩ := q_obE h
  obtain ⟨⟨_, M2⟩, e1, h⟩ := q_bind h
  refine x_callVv C dX12_tableNow_2 lkM_X12_422 mV_X12_goOn ⟨_, rfl, rfl⟩ hk (c_X12_goOn _ _ _ _ _ e1) rfl rfl (Nat.le_of_ble_eq_true rfl) (by decide) (by decide) ?_
  refine q_aload_n C dX12_tableNow_5 rfl ?_
  refine q_aload_n C dX12_tableNow_6 rfl ?_
  refine x_getR (ci := 12) (j := 33) C dX12_tableNow_7 lkF_X12_64 rfl h (fun c3 h => ?_)
  refine x_nn h (fun r4 h => ?_)
  obtain ⟨hk, h⟩ := q_obE h
  obtain ⟨⟨_, M6⟩, e1, h⟩ := q_bind h
  refine x_callVv0 C dX12_tableNow_10 lkM_X12_341 mV_X12_goTable ⟨_, rfl, rfl⟩ hk (c_X12_goTable _ _ _ _ _ e1) rfl rfl (Nat.le_of_ble_eq_true rfl) (by decide) (by decide) ?_
  exact q_vret C dX12_tableNow_13 rfl (by decide) (by decide) (Option.some.inj h)
noncomputable def F_X12_fed (l0 : Nat) (l1 : Int32) (M : q_Mem) : Option (Int32 × q_Mem) := (q_pI M l0 12 0 (0 : Int32) (fun M1 => (q_ob M1 l0 12 ((F_X12_isGuest l0 l1 M1).bind (fun u2 => (if u2 = 0 then some ((-1 : Int32), M1) else (q_gR M1 l0 12 32 (fun c3 => q_nn c3 (fun r4 => (q_ob M1 l0 12 ((F_X12_isThere l0 r4 l1 M1).bind (fun u5 => (if u5 = 0 then some ((-1 : Int32), M1) else (q_ob M1 l0 12 ((F_X12_tableNow l0 M1).bind (fun x => match x with | (_, M7) => (q_gR M7 l0 12 36 (fun c8 => q_nn c8 (fun r9 => (q_lI M7 0 r9 l1 (fun v10 => some (v10, M7))))))))))))))))))))))
set_option maxRecDepth 100000 in
set_option maxHeartbeats 4000000 in
theorem c_X12_fed (l : Launch) (G : q_G) (l0 : Nat) (l1 : Int32) (M : q_Mem) {r : Int32} {M' : q_Mem} (h : F_X12_fed l0 l1 M = some (r, M')) : q_Met l G yX12_fed cX12_fed 2 (Option.some Jvm.ClassFile.FieldType.int) 137 2 0 [.ref l0, .int l1] M (some (.int r)) M' := by
  unfold F_X12_fed at h
  refine q_enter [some (.ref l0), some (.int l1)] (by decide) (Nat.le_of_ble_eq_true rfl) rfl (fun K C => ?_)
  refine q_aload_n C dX12_fed_0 rfl ?_
  refine x_iconst (v := (0 : Int32)) C dX12_fed_1 (by decide) ?_
  refine x_putI (ci := 12) (j := 0) C dX12_fed_2 lkF_X12_92 (fun r hr => by cases hr; rfl) rfl h (fun M1 h => ?_)
  refine q_aload_n C dX12_fed_5 rfl ?_
  refine q_iload_n C dX12_fed_6 rfl ?_
  obtain ⟨hk, h⟩ := q_obE h
  obtain ⟨u2, e1, h⟩ := q_bind h
  refine x_callV0 C dX12_fed_7 lkM_X12_360 mV_X12_isGuest ⟨_, rfl, rfl⟩ hk (c_X12_isGuest _ _ _ _ _ e1) rfl rfl (Nat.le_of_ble_eq_true rfl) (by decide) (by decide) ?_
  refine q_if_eq (tgt := 25) C dX12_fed_10 (by decide) h (fun _ h => ?_) (fun _ h => ?_)
  · refine x_iconst (v := (-1 : Int32)) C dX12_fed_25 (by decide) ?_
    exact q_iret C dX12_fed_26 rfl (by decide) (by decide) (Option.some.inj h)
  · refine q_aload_n C dX12_fed_13 rfl ?_
    refine q_aload_n C dX12_fed_14 rfl ?_
    refine x_getR (ci := 12) (j := 32) C dX12_fed_15 lkF_X12_61 rfl h (fun c3 h => ?_)
    refine x_nn h (fun r4 h => ?_)
    refine q_iload_n C dX12_fed_18 rfl ?_
    obtain ⟨hk, h⟩ := q_obE h
    obtain ⟨u5, e1, h⟩ := q_bind h
    refine x_callV0 C dX12_fed_19 lkM_X12_302 mV_X12_isThere ⟨_, rfl, rfl⟩ hk (c_X12_isThere _ _ _ _ _ _ e1) rfl rfl (Nat.le_of_ble_eq_true rfl) (by decide) (by decide) ?_
    refine q_if_ne (tgt := 27) C dX12_fed_22 (by decide) h (fun _ h => ?_) (fun _ h => ?_)
    · refine x_iconst (v := (-1 : Int32)) C dX12_fed_25 (by decide) ?_
      exact q_iret C dX12_fed_26 rfl (by decide) (by decide) (Option.some.inj h)
    · refine q_aload_n C dX12_fed_27 rfl ?_
      obtain ⟨hk, h⟩ := q_obE h
      obtain ⟨⟨_, M7⟩, e1, h⟩ := q_bind h
      refine x_callVv C dX12_fed_28 lkM_X12_425 mV_X12_tableNow ⟨_, rfl, rfl⟩ hk (c_X12_tableNow _ _ _ _ e1) rfl rfl (Nat.le_of_ble_eq_true rfl) (by decide) (by decide) ?_
      refine q_aload_n C dX12_fed_31 rfl ?_
      refine x_getR (ci := 12) (j := 36) C dX12_fed_32 lkF_X12_74 rfl h (fun c8 h => ?_)
      refine x_nn h (fun r9 h => ?_)
      refine q_iload_n C dX12_fed_35 rfl ?_
      refine x_iald C dX12_fed_36 h (fun v10 h => ?_)
      exact q_iret C dX12_fed_37 rfl (by decide) (by decide) (Option.some.inj h)
noncomputable def J_X12_best_172_102 (l0 : Nat) (l1 : Int32) (l2 : Int32) (l3 : Int32) (l4 : Int32) (l5 : Int32) (l6 : Int32) (l7 : Int32) (l8 : Int32) (l9 : Int32) (M : q_Mem) : Option ((Int32 × Int32 × Int32 × q_Mem) ⊕ (Int32 × q_Mem)) := some (.inl (l7, l8, (l9 + (1 : Int32)), M))
set_option maxRecDepth 100000 in
set_option maxHeartbeats 4000000 in
theorem jW_X12_best_172_102 {K : q_K} {Q : State → Prop} (C : q_C K yX12_best cX12_best 11 (Option.some Jvm.ClassFile.FieldType.int) 135 2 0) (l0 : Nat) (l1 : Int32) (l2 : Int32) (l3 : Int32) (l4 : Int32) (l5 : Int32) (l6 : Int32) (l7 : Int32) (l8 : Int32) (l9 : Int32) (M : q_Mem) {stp : (Int32 × Int32 × Int32 × q_Mem) ⊕ (Int32 × q_Mem)} (h : J_X12_best_172_102 l0 l1 l2 l3 l4 l5 l6 l7 l8 l9 M = some stp) (kC : ∀ (l7 : Int32) (l8 : Int32) (l9 : Int32) (M : q_Mem), stp = .inl (l7, l8, l9, M) → q_W K 11 Q 0 0 M 102 [some (.ref l0), some (.int l1), some (.int l2), some (.int l3), some (.int l4), some (.int l5), some (.int l6), some (.int l7), some (.int l8), some (.int l9), none] []) (kE0 : ∀ (l7 : Int32) (M : q_Mem), stp = .inr (l7, M) → q_W K 11 Q 0 0 M 178 [some (.ref l0), some (.int l1), some (.int l2), some (.int l3), some (.int l4), some (.int l5), some (.int l6), some (.int l7), none, none, none] []) : q_W K 11 Q 0 0 M 172 [some (.ref l0), some (.int l1), some (.int l2), some (.int l3), some (.int l4), some (.int l5), some (.int l6), some (.int l7), some (.int l8), some (.int l9), none] [] := by
  unfold J_X12_best_172_102 at h
  refine x_iinc (w := (1 : Int32)) (L' := [some (.ref l0), some (.int l1), some (.int l2), some (.int l3), some (.int l4), some (.int l5), some (.int l6), some (.int l7), some (.int l8), some (.int (l9 + (1 : Int32))), none]) C dX12_best_172 rfl (by decide) (by decide) rfl rfl ?_
  refine q_goto (tgt := 102) C dX12_best_175 (by decide) ?_
  exact q_msk [true, true, true, true, true, true, true, true, true, true, false] (kC _ _ _ _ (Option.some.inj h).symm)
noncomputable def J_X12_best_157_102 (l0 : Nat) (l1 : Int32) (l2 : Int32) (l3 : Int32) (l4 : Int32) (l5 : Int32) (l6 : Int32) (l7 : Int32) (l8 : Int32) (l9 : Int32) (M : q_Mem) : Option ((Int32 × Int32 × Int32 × q_Mem) ⊕ (Int32 × q_Mem)) := (if l7 = 0 then J_X12_best_172_102 l0 l1 l2 l3 l4 l5 l6 l7 l8 l9 M else (q_gR M l0 12 33 (fun c19 => q_nn c19 (fun r20 => (q_ob M l0 12 ((F_X12_goDay l0 r20 M).bind (fun x => match x with | (u21, M22) => J_X12_best_172_102 l0 l1 l2 l3 l4 l5 l6 l7 l8 l9 M22)))))))
set_option maxRecDepth 100000 in
set_option maxHeartbeats 4000000 in
theorem jW_X12_best_157_102 {K : q_K} {Q : State → Prop} (C : q_C K yX12_best cX12_best 11 (Option.some Jvm.ClassFile.FieldType.int) 135 2 0) (l0 : Nat) (l1 : Int32) (l2 : Int32) (l3 : Int32) (l4 : Int32) (l5 : Int32) (l6 : Int32) (l7 : Int32) (l8 : Int32) (l9 : Int32) (M : q_Mem) {stp : (Int32 × Int32 × Int32 × q_Mem) ⊕ (Int32 × q_Mem)} (h : J_X12_best_157_102 l0 l1 l2 l3 l4 l5 l6 l7 l8 l9 M = some stp) (kC : ∀ (l7 : Int32) (l8 : Int32) (l9 : Int32) (M : q_Mem), stp = .inl (l7, l8, l9, M) → q_W K 11 Q 0 0 M 102 [some (.ref l0), some (.int l1), some (.int l2), some (.int l3), some (.int l4), some (.int l5), some (.int l6), some (.int l7), some (.int l8), some (.int l9), none] []) (kE0 : ∀ (l7 : Int32) (M : q_Mem), stp = .inr (l7, M) → q_W K 11 Q 0 0 M 178 [some (.ref l0), some (.int l1), some (.int l2), some (.int l3), some (.int l4), some (.int l5), some (.int l6), some (.int l7), none, none, none] []) : q_W K 11 Q 0 0 M 157 [some (.ref l0), some (.int l1), some (.int l2), some (.int l3), some (.int l4), some (.int l5), some (.int l6), some (.int l7), some (.int l8), some (.int l9), none] [] := by
  unfold J_X12_best_157_102 at h
  refine q_iload C dX12_best_157 rfl ?_
  refine q_if_eq (tgt := 172) C dX12_best_159 (by decide) h (fun _ h => ?_) (fun _ h => ?_)
  · exact q_msk [true, true, true, true, true, true, true, true, true, true, false] (jW_X12_best_172_102 C l0 l1 l2 l3 l4 l5 l6 l7 l8 l9 M h kC kE0)
  · refine q_aload_n C dX12_best_162 rfl ?_
    refine q_aload_n C dX12_best_163 rfl ?_
    refine x_getR (ci := 12) (j := 33) C dX12_best_164 lkF_X12_64 rfl h (fun c19 h => ?_)
    refine x_nn h (fun r20 h => ?_)
    obtain ⟨hk, h⟩ := q_obE h
    obtain ⟨⟨u21, M22⟩, e1, h⟩ := q_bind h
    refine x_callV C dX12_best_167 lkM_X12_370 mV_X12_goDay ⟨_, rfl, rfl⟩ hk (c_X12_goDay _ _ _ _ _ e1) rfl rfl (Nat.le_of_ble_eq_true rfl) (by decide) (by decide) ?_
    refine q_istore (L' := [some (.ref l0), some (.int l1), some (.int l2), some (.int l3), some (.int l4), some (.int l5), some (.int l6), some (.int l7), some (.int l8), some (.int l9), some (.int u21)]) C dX12_best_170 (by decide) rfl rfl ?_
    exact q_msk [true, true, true, true, true, true, true, true, true, true, false] (jW_X12_best_172_102 C l0 l1 l2 l3 l4 l5 l6 l7 l8 l9 M22 h kC kE0)
noncomputable def B_X12_best_102 (l0 : Nat) (l1 : Int32) (l2 : Int32) (l3 : Int32) (l4 : Int32) (l5 : Int32) (l6 : Int32) (l7 : Int32) (l8 : Int32) (l9 : Int32) (M : q_Mem) : Option ((Int32 × Int32 × Int32 × q_Mem) ⊕ (Int32 × q_Mem)) := (if l9 < (l1 + (3 : Int32)) then (if l7 = 0 then some (.inr (l7, M)) else (if l9 < l1 then (q_dvi l6 l8 (fun v12 => (q_rmi v12 (10 : Int32) (fun v13 => (q_dvi l8 (10 : Int32) (fun v14 => (q_ob M l0 12 ((F_X12_isDish l0 v13 M).bind (fun u15 => (q_gR M l0 12 33 (fun c16 => q_nn c16 (fun r17 => (q_tI M r17 (34 : Int32) (v13 + (1 : Int32)) (fun M18 => J_X12_best_157_102 l0 l1 l2 l3 l4 l5 l6 u15 v14 l9 M18)))))))))))))) else J_X12_best_157_102 l0 l1 l2 l3 l4 l5 l6 l7 l8 l9 M)) else some (.inr (l7, M)))
set_option maxRecDepth 100000 in
set_option maxHeartbeats 4000000 in
theorem bW_X12_best_102 {K : q_K} {Q : State → Prop} (C : q_C K yX12_best cX12_best 11 (Option.some Jvm.ClassFile.FieldType.int) 135 2 0) (l0 : Nat) (l1 : Int32) (l2 : Int32) (l3 : Int32) (l4 : Int32) (l5 : Int32) (l6 : Int32) (l7 : Int32) (l8 : Int32) (l9 : Int32) (M : q_Mem) {stp : (Int32 × Int32 × Int32 × q_Mem) ⊕ (Int32 × q_Mem)} (h : B_X12_best_102 l0 l1 l2 l3 l4 l5 l6 l7 l8 l9 M = some stp) (kC : ∀ (l7 : Int32) (l8 : Int32) (l9 : Int32) (M : q_Mem), stp = .inl (l7, l8, l9, M) → q_W K 11 Q 0 0 M 102 [some (.ref l0), some (.int l1), some (.int l2), some (.int l3), some (.int l4), some (.int l5), some (.int l6), some (.int l7), some (.int l8), some (.int l9), none] []) (kE0 : ∀ (l7 : Int32) (M : q_Mem), stp = .inr (l7, M) → q_W K 11 Q 0 0 M 178 [some (.ref l0), some (.int l1), some (.int l2), some (.int l3), some (.int l4), some (.int l5), some (.int l6), some (.int l7), none, none, none] []) : q_W K 11 Q 0 0 M 102 [some (.ref l0), some (.int l1), some (.int l2), some (.int l3), some (.int l4), some (.int l5), some (.int l6), some (.int l7), some (.int l8), some (.int l9), none] [] := by
  unfold B_X12_best_102 at h
  refine q_iload C dX12_best_102 rfl ?_
  refine q_iload_n C dX12_best_104 rfl ?_
  refine x_iconst (v := (3 : Int32)) C dX12_best_105 (by decide) ?_
  refine q_iadd C dX12_best_106 ?_
  refine q_icmp_ge (tgt := 178) C dX12_best_107 (by decide) h (fun _ h => ?_) (fun _ h => ?_)
  · refine q_iload C dX12_best_110 rfl ?_
    refine q_if_eq (tgt := 178) C dX12_best_112 (by decide) h (fun _ h => ?_) (fun _ h => ?_)
    · exact q_msk [true, true, true, true, true, true, true, true, false, false, false] (kE0 _ _ (Option.some.inj h).symm)
    · refine q_iload C dX12_best_115 rfl ?_
      refine q_iload_n C dX12_best_117 rfl ?_
      refine q_icmp_ge (tgt := 157) C dX12_best_118 (by decide) h (fun _ h => ?_) (fun _ h => ?_)
      · refine q_iload C dX12_best_121 rfl ?_
        refine q_iload C dX12_best_123 rfl ?_
        refine q_idiv C dX12_best_125 h (fun v12 h => ?_)
        refine x_bipush (v := (10 : Int32)) C dX12_best_126 (by decide) ?_
        refine q_irem C dX12_best_128 h (fun v13 h => ?_)
        refine q_istore (L' := [some (.ref l0), some (.int l1), some (.int l2), some (.int l3), some (.int l4), some (.int l5), some (.int l6), some (.int l7), some (.int l8), some (.int l9), some (.int v13)]) C dX12_best_129 (by decide) rfl rfl ?_
        refine q_iload C dX12_best_131 rfl ?_
        refine x_bipush (v := (10 : Int32)) C dX12_best_133 (by decide) ?_
        refine q_idiv C dX12_best_135 h (fun v14 h => ?_)
        refine q_istore (L' := [some (.ref l0), some (.int l1), some (.int l2), some (.int l3), some (.int l4), some (.int l5), some (.int l6), some (.int l7), some (.int v14), some (.int l9), some (.int v13)]) C dX12_best_136 (by decide) rfl rfl ?_
        refine q_aload_n C dX12_best_138 rfl ?_
        refine q_iload C dX12_best_139 rfl ?_
        obtain ⟨hk, h⟩ := q_obE h
        obtain ⟨u15, e1, h⟩ := q_bind h
        refine x_callV0 C dX12_best_141 lkM_X12_357 mV_X12_isDish ⟨_, rfl, rfl⟩ hk (c_X12_isDish _ _ _ _ _ e1) rfl rfl (Nat.le_of_ble_eq_true rfl) (by decide) (by decide) ?_
        refine q_istore (L' := [some (.ref l0), some (.int l1), some (.int l2), some (.int l3), some (.int l4), some (.int l5), some (.int l6), some (.int u15), some (.int v14), some (.int l9), some (.int v13)]) C dX12_best_144 (by decide) rfl rfl ?_
        refine q_aload_n C dX12_best_146 rfl ?_
        refine x_getR (ci := 12) (j := 33) C dX12_best_147 lkF_X12_64 rfl h (fun c16 h => ?_)
        refine x_nn h (fun r17 h => ?_)
        refine x_bipush (v := (34 : Int32)) C dX12_best_150 (by decide) ?_
        refine q_iload C dX12_best_152 rfl ?_
        refine x_iconst (v := (1 : Int32)) C dX12_best_154 (by decide) ?_
        refine q_iadd C dX12_best_155 ?_
        refine x_iast C dX12_best_156 h (fun M18 h => ?_)
        exact q_msk [true, true, true, true, true, true, true, true, true, true, false] (jW_X12_best_157_102 C l0 l1 l2 l3 l4 l5 l6 u15 v14 l9 M18 h kC kE0)
      · exact q_msk [true, true, true, true, true, true, true, true, true, true, false] (jW_X12_best_157_102 C l0 l1 l2 l3 l4 l5 l6 l7 l8 l9 M h kC kE0)
  · exact q_msk [true, true, true, true, true, true, true, true, false, false, false] (kE0 _ _ (Option.some.inj h).symm)
set_option maxRecDepth 100000 in
set_option maxHeartbeats 4000000 in
theorem lW_X12_best_102 {K : q_K} {Q : State → Prop} (C : q_C K yX12_best cX12_best 11 (Option.some Jvm.ClassFile.FieldType.int) 135 2 0) (l0 : Nat) (l1 : Int32) (l2 : Int32) (l3 : Int32) (l4 : Int32) (l5 : Int32) (l6 : Int32) (n : Nat) : ∀ (l7 : Int32) (l8 : Int32) (l9 : Int32) (M : q_Mem) (e : (Int32 × q_Mem)), q_lp (fun s => B_X12_best_102 l0 l1 l2 l3 l4 l5 l6 s.1 s.2.1 s.2.2.1 s.2.2.2) n (l7, l8, l9, M) = some e → (∀ (l7 : Int32) (M : q_Mem), e = (l7, M) → q_W K 11 Q 0 0 M 178 [some (.ref l0), some (.int l1), some (.int l2), some (.int l3), some (.int l4), some (.int l5), some (.int l6), some (.int l7), none, none, none] []) → q_W K 11 Q 0 0 M 102 [some (.ref l0), some (.int l1), some (.int l2), some (.int l3), some (.int l4), some (.int l5), some (.int l6), some (.int l7), some (.int l8), some (.int l9), none] [] := by
  induction n with
  | zero => intro l7 l8 l9 M e h; cases h
  | succ n ih =>
    intro l7 l8 l9 M e h kE0
    obtain ⟨stp, e1, e2⟩ := q_bind h
    refine bW_X12_best_102 C l0 l1 l2 l3 l4 l5 l6 l7 l8 l9 M e1 (fun a0 a1 a2 a3 hs => ?_) (fun b0 b1 hs => ?_)
    · subst hs; exact ih _ _ _ _ _ e2 kE0
    · subst hs; exact kE0 _ _ (Option.some.inj e2).symm
noncomputable def J_X12_best_217_71 (l0 : Nat) (l1 : Int32) (l2 : Int32) (l3 : Int32) (l4 : Int32) (l5 : Int32) (l6 : Int32) (M : q_Mem) : Option ((Int32 × Int32 × Int32 × q_Mem) ⊕ (Int32 × Int32 × q_Mem)) := some (.inl (l3, l4, (l6 + (1 : Int32)), M))
set_option maxRecDepth 100000 in
set_option maxHeartbeats 4000000 in
theorem jW_X12_best_217_71 {K : q_K} {Q : State → Prop} (C : q_C K yX12_best cX12_best 11 (Option.some Jvm.ClassFile.FieldType.int) 135 2 0) (l0 : Nat) (l1 : Int32) (l2 : Int32) (l3 : Int32) (l4 : Int32) (l5 : Int32) (l6 : Int32) (M : q_Mem) {stp : (Int32 × Int32 × Int32 × q_Mem) ⊕ (Int32 × Int32 × q_Mem)} (h : J_X12_best_217_71 l0 l1 l2 l3 l4 l5 l6 M = some stp) (kC : ∀ (l3 : Int32) (l4 : Int32) (l6 : Int32) (M : q_Mem), stp = .inl (l3, l4, l6, M) → q_W K 11 Q 0 0 M 71 [some (.ref l0), some (.int l1), some (.int l2), some (.int l3), some (.int l4), some (.int l5), some (.int l6), none, none, none, none] []) (kE0 : ∀ (l3 : Int32) (l4 : Int32) (M : q_Mem), stp = .inr (l3, l4, M) → q_W K 11 Q 0 0 M 223 [none, none, some (.int l2), some (.int l3), some (.int l4), none, none, none, none, none, none] []) : q_W K 11 Q 0 0 M 217 [some (.ref l0), some (.int l1), some (.int l2), some (.int l3), some (.int l4), some (.int l5), some (.int l6), none, none, none, none] [] := by
  unfold J_X12_best_217_71 at h
  refine x_iinc (w := (1 : Int32)) (L' := [some (.ref l0), some (.int l1), some (.int l2), some (.int l3), some (.int l4), some (.int l5), some (.int (l6 + (1 : Int32))), none, none, none, none]) C dX12_best_217 rfl (by decide) (by decide) rfl rfl ?_
  refine q_goto (tgt := 71) C dX12_best_220 (by decide) ?_
  exact q_msk [true, true, true, true, true, true, true, false, false, false, false] (kC _ _ _ _ (Option.some.inj h).symm)
noncomputable def J_X12_best_204_71 (l0 : Nat) (l1 : Int32) (l2 : Int32) (l5 : Int32) (l6 : Int32) (M : q_Mem) : Option ((Int32 × Int32 × Int32 × q_Mem) ⊕ (Int32 × Int32 × q_Mem)) := (q_gR M l0 12 33 (fun c26 => q_nn c26 (fun r27 => (q_ob M l0 12 ((F_X12_joys l0 r27 M).bind (fun u28 => J_X12_best_217_71 l0 l1 l2 l6 u28 l5 l6 M))))))
set_option maxRecDepth 100000 in
set_option maxHeartbeats 4000000 in
theorem jW_X12_best_204_71 {K : q_K} {Q : State → Prop} (C : q_C K yX12_best cX12_best 11 (Option.some Jvm.ClassFile.FieldType.int) 135 2 0) (l0 : Nat) (l1 : Int32) (l2 : Int32) (l5 : Int32) (l6 : Int32) (M : q_Mem) {stp : (Int32 × Int32 × Int32 × q_Mem) ⊕ (Int32 × Int32 × q_Mem)} (h : J_X12_best_204_71 l0 l1 l2 l5 l6 M = some stp) (kC : ∀ (l3 : Int32) (l4 : Int32) (l6 : Int32) (M : q_Mem), stp = .inl (l3, l4, l6, M) → q_W K 11 Q 0 0 M 71 [some (.ref l0), some (.int l1), some (.int l2), some (.int l3), some (.int l4), some (.int l5), some (.int l6), none, none, none, none] []) (kE0 : ∀ (l3 : Int32) (l4 : Int32) (M : q_Mem), stp = .inr (l3, l4, M) → q_W K 11 Q 0 0 M 223 [none, none, some (.int l2), some (.int l3), some (.int l4), none, none, none, none, none, none] []) : q_W K 11 Q 0 0 M 204 [some (.ref l0), some (.int l1), some (.int l2), none, none, some (.int l5), some (.int l6), none, none, none, none] [] := by
  unfold J_X12_best_204_71 at h
  refine q_iload C dX12_best_204 rfl ?_
  refine q_istore_n (L' := [some (.ref l0), some (.int l1), some (.int l2), some (.int l6), none, some (.int l5), some (.int l6), none, none, none, none]) C dX12_best_206 (by decide) rfl rfl ?_
  refine q_aload_n C dX12_best_207 rfl ?_
  refine q_aload_n C dX12_best_208 rfl ?_
  refine x_getR (ci := 12) (j := 33) C dX12_best_209 lkF_X12_64 rfl h (fun c26 h => ?_)
  refine x_nn h (fun r27 h => ?_)
  obtain ⟨hk, h⟩ := q_obE h
  obtain ⟨u28, e1, h⟩ := q_bind h
  refine x_callV0 C dX12_best_212 lkM_X12_354 mV_X12_joys ⟨_, rfl, rfl⟩ hk (c_X12_joys _ _ _ _ _ e1) rfl rfl (Nat.le_of_ble_eq_true rfl) (by decide) (by decide) ?_
  refine q_istore (L' := [some (.ref l0), some (.int l1), some (.int l2), some (.int l6), some (.int u28), some (.int l5), some (.int l6), none, none, none, none]) C dX12_best_215 (by decide) rfl rfl ?_
  exact q_msk [true, true, true, true, true, true, true, false, false, false, false] (jW_X12_best_217_71 C l0 l1 l2 l6 u28 l5 l6 M h kC kE0)
noncomputable def B_X12_best_71 (l0 : Nat) (l1 : Int32) (l2 : Int32) (l5 : Int32) (l3 : Int32) (l4 : Int32) (l6 : Int32) (M : q_Mem) : Option ((Int32 × Int32 × Int32 × q_Mem) ⊕ (Int32 × Int32 × q_Mem)) := (if l6 < l5 then (q_gR M l0 12 32 (fun c5 => q_nn c5 (fun r6 => (q_gR M l0 12 33 (fun c7 => q_nn c7 (fun r8 => ((F_X12_copy r6 r8 M).bind (fun x => match x with | (_, M10) => (q_dvi l5 (10 : Int32) (fun v11 => (q_lp (fun s => B_X12_best_102 l0 l1 l2 l3 l4 l5 l6 s.1 s.2.1 s.2.2.1 s.2.2.2) q_fu ((1 : Int32), v11, (0 : Int32), M10)).bind (fun e23 => match e23 with | (w24, M25) => (if w24 = 0 then J_X12_best_217_71 l0 l1 l2 l3 l4 l5 l6 M25 else (if l3 = (-1 : Int32) then J_X12_best_204_71 l0 l1 l2 l5 l6 M25 else (q_gR M25 l0 12 33 (fun c29 => q_nn c29 (fun r30 => (q_ob M25 l0 12 ((F_X12_joys l0 r30 M25).bind (fun u31 => (if l4 < u31 then J_X12_best_204_71 l0 l1 l2 l5 l6 M25 else J_X12_best_217_71 l0 l1 l2 l3 l4 l5 l6 M25)))))))))))))))))))) else some (.inr (l3, l4, M)))
set_option maxRecDepth 100000 in
set_option maxHeartbeats 4000000 in
theorem bW_X12_best_71 {K : q_K} {Q : State → Prop} (C : q_C K yX12_best cX12_best 11 (Option.some Jvm.ClassFile.FieldType.int) 135 2 0) (l0 : Nat) (l1 : Int32) (l2 : Int32) (l3 : Int32) (l4 : Int32) (l5 : Int32) (l6 : Int32) (M : q_Mem) {stp : (Int32 × Int32 × Int32 × q_Mem) ⊕ (Int32 × Int32 × q_Mem)} (h : B_X12_best_71 l0 l1 l2 l5 l3 l4 l6 M = some stp) (kC : ∀ (l3 : Int32) (l4 : Int32) (l6 : Int32) (M : q_Mem), stp = .inl (l3, l4, l6, M) → q_W K 11 Q 0 0 M 71 [some (.ref l0), some (.int l1), some (.int l2), some (.int l3), some (.int l4), some (.int l5), some (.int l6), none, none, none, none] []) (kE0 : ∀ (l3 : Int32) (l4 : Int32) (M : q_Mem), stp = .inr (l3, l4, M) → q_W K 11 Q 0 0 M 223 [none, none, some (.int l2), some (.int l3), some (.int l4), none, none, none, none, none, none] []) : q_W K 11 Q 0 0 M 71 [some (.ref l0), some (.int l1), some (.int l2), some (.int l3), some (.int l4), some (.int l5), some (.int l6), none, none, none, none] [] := by
  unfold B_X12_best_71 at h
  refine q_iload C dX12_best_71 rfl ?_
  refine q_iload C dX12_best_73 rfl ?_
  refine q_icmp_ge (tgt := 223) C dX12_best_75 (by decide) h (fun _ h => ?_) (fun _ h => ?_)
  · refine q_aload_n C dX12_best_78 rfl ?_
    refine x_getR (ci := 12) (j := 32) C dX12_best_79 lkF_X12_61 rfl h (fun c5 h => ?_)
    refine x_nn h (fun r6 h => ?_)
    refine q_aload_n C dX12_best_82 rfl ?_
    refine x_getR (ci := 12) (j := 33) C dX12_best_83 lkF_X12_64 rfl h (fun c7 h => ?_)
    refine x_nn h (fun r8 h => ?_)
    obtain ⟨⟨_, M10⟩, e1, h⟩ := q_bind h
    refine x_callSv0 C dX12_best_86 lkM_X12_409 mS_X12_copy (c_X12_copy _ _ _ _ _ e1) rfl rfl (Nat.le_of_ble_eq_true rfl) (by decide) (by decide) ?_
    refine x_iconst (v := (1 : Int32)) C dX12_best_89 (by decide) ?_
    refine q_istore (L' := [some (.ref l0), some (.int l1), some (.int l2), some (.int l3), some (.int l4), some (.int l5), some (.int l6), some (.int (1 : Int32)), none, none, none]) C dX12_best_90 (by decide) rfl rfl ?_
    refine q_iload C dX12_best_92 rfl ?_
    refine x_bipush (v := (10 : Int32)) C dX12_best_94 (by decide) ?_
    refine q_idiv C dX12_best_96 h (fun v11 h => ?_)
    refine q_istore (L' := [some (.ref l0), some (.int l1), some (.int l2), some (.int l3), some (.int l4), some (.int l5), some (.int l6), some (.int (1 : Int32)), some (.int v11), none, none]) C dX12_best_97 (by decide) rfl rfl ?_
    refine x_iconst (v := (0 : Int32)) C dX12_best_99 (by decide) ?_
    refine q_istore (L' := [some (.ref l0), some (.int l1), some (.int l2), some (.int l3), some (.int l4), some (.int l5), some (.int l6), some (.int (1 : Int32)), some (.int v11), some (.int (0 : Int32)), none]) C dX12_best_100 (by decide) rfl rfl ?_
    obtain ⟨e23, he, h⟩ := q_bind h
    refine q_msk [true, true, true, true, true, true, true, true, true, true, false] (lW_X12_best_102 C l0 l1 l2 l3 l4 l5 l6 q_fu _ _ _ _ _ he (fun w24 M25 hs => ?_))
    · have hs := hs.symm
      subst hs
      refine q_iload C dX12_best_178 rfl ?_
      refine q_if_eq (tgt := 217) C dX12_best_180 (by decide) h (fun _ h => ?_) (fun _ h => ?_)
      · exact q_msk [true, true, true, true, true, true, true, false, false, false, false] (jW_X12_best_217_71 C l0 l1 l2 l3 l4 l5 l6 M25 h kC kE0)
      · refine q_iload_n C dX12_best_183 rfl ?_
        refine x_iconst (v := (-1 : Int32)) C dX12_best_184 (by decide) ?_
        refine q_icmp_eq (tgt := 204) C dX12_best_185 (by decide) h (fun _ h => ?_) (fun _ h => ?_)
        · exact q_msk [true, true, true, false, false, true, true, false, false, false, false] (jW_X12_best_204_71 C l0 l1 l2 l5 l6 M25 h kC kE0)
        · refine q_aload_n C dX12_best_188 rfl ?_
          refine q_aload_n C dX12_best_189 rfl ?_
          refine x_getR (ci := 12) (j := 33) C dX12_best_190 lkF_X12_64 rfl h (fun c29 h => ?_)
          refine x_nn h (fun r30 h => ?_)
          obtain ⟨hk, h⟩ := q_obE h
          obtain ⟨u31, e1, h⟩ := q_bind h
          refine x_callV0 C dX12_best_193 lkM_X12_354 mV_X12_joys ⟨_, rfl, rfl⟩ hk (c_X12_joys _ _ _ _ _ e1) rfl rfl (Nat.le_of_ble_eq_true rfl) (by decide) (by decide) ?_
          refine q_iload C dX12_best_196 rfl ?_
          refine q_icmp_gt (tgt := 204) C dX12_best_198 (by decide) h (fun _ h => ?_) (fun _ h => ?_)
          · exact q_msk [true, true, true, false, false, true, true, false, false, false, false] (jW_X12_best_204_71 C l0 l1 l2 l5 l6 M25 h kC kE0)
          · refine q_goto (tgt := 217) C dX12_best_201 (by decide) ?_
            exact q_msk [true, true, true, true, true, true, true, false, false, false, false] (jW_X12_best_217_71 C l0 l1 l2 l3 l4 l5 l6 M25 h kC kE0)
  · exact q_msk [false, false, true, true, true, false, false, false, false, false, false] (kE0 _ _ _ (Option.some.inj h).symm)
set_option maxRecDepth 100000 in
set_option maxHeartbeats 4000000 in
theorem lW_X12_best_71 {K : q_K} {Q : State → Prop} (C : q_C K yX12_best cX12_best 11 (Option.some Jvm.ClassFile.FieldType.int) 135 2 0) (l0 : Nat) (l1 : Int32) (l2 : Int32) (l5 : Int32) (n : Nat) : ∀ (l3 : Int32) (l4 : Int32) (l6 : Int32) (M : q_Mem) (e : (Int32 × Int32 × q_Mem)), q_lp (fun s => B_X12_best_71 l0 l1 l2 l5 s.1 s.2.1 s.2.2.1 s.2.2.2) n (l3, l4, l6, M) = some e → (∀ (l3 : Int32) (l4 : Int32) (M : q_Mem), e = (l3, l4, M) → q_W K 11 Q 0 0 M 223 [none, none, some (.int l2), some (.int l3), some (.int l4), none, none, none, none, none, none] []) → q_W K 11 Q 0 0 M 71 [some (.ref l0), some (.int l1), some (.int l2), some (.int l3), some (.int l4), some (.int l5), some (.int l6), none, none, none, none] [] := by
  induction n with
  | zero => intro l3 l4 l6 M e h; cases h
  | succ n ih =>
    intro l3 l4 l6 M e h kE0
    obtain ⟨stp, e1, e2⟩ := q_bind h
    refine bW_X12_best_71 C l0 l1 l2 l3 l4 l5 l6 M e1 (fun a0 a1 a2 a3 hs => ?_) (fun b0 b1 b2 hs => ?_)
    · subst hs; exact ih _ _ _ _ _ e2 kE0
    · subst hs; exact kE0 _ _ _ (Option.some.inj e2).symm
noncomputable def J_X12_best_66 (l0 : Nat) (l1 : Int32) (l2 : Int32) (l3 : Int32) (l4 : Int32) (s0 : Int32) (M : q_Mem) : Option (Int32 × q_Mem) := (q_lp (fun s => B_X12_best_71 l0 l1 l2 s0 s.1 s.2.1 s.2.2.1 s.2.2.2) q_fu (l3, l4, (0 : Int32), M)).bind (fun e32 => match e32 with | (w33, w34, M35) => (if l2 = 0 then some (w33, M35) else some (w34, M35)))
set_option maxRecDepth 100000 in
set_option maxHeartbeats 4000000 in
theorem jW_X12_best_66 {K : q_K} (C : q_C K yX12_best cX12_best 11 (Option.some Jvm.ClassFile.FieldType.int) 135 2 0) (l0 : Nat) (l1 : Int32) (l2 : Int32) (l3 : Int32) (l4 : Int32) (s0 : Int32) (M : q_Mem) {r : Int32} {M' : q_Mem} (h : J_X12_best_66 l0 l1 l2 l3 l4 s0 M = some (r, M')) : q_W K 11 (q_Q K (some (.int r)) M' 2 0) 0 0 M 66 [some (.ref l0), some (.int l1), some (.int l2), some (.int l3), some (.int l4), none, none, none, none, none, none] [.int s0] := by
  unfold J_X12_best_66 at h
  refine q_istore (L' := [some (.ref l0), some (.int l1), some (.int l2), some (.int l3), some (.int l4), some (.int s0), none, none, none, none, none]) C dX12_best_66 (by decide) rfl rfl ?_
  refine x_iconst (v := (0 : Int32)) C dX12_best_68 (by decide) ?_
  refine q_istore (L' := [some (.ref l0), some (.int l1), some (.int l2), some (.int l3), some (.int l4), some (.int s0), some (.int (0 : Int32)), none, none, none, none]) C dX12_best_69 (by decide) rfl rfl ?_
  obtain ⟨e32, he, h⟩ := q_bind h
  refine q_msk [true, true, true, true, true, true, true, false, false, false, false] (lW_X12_best_71 C l0 l1 l2 s0 q_fu _ _ _ _ _ he (fun w33 w34 M35 hs => ?_))
  · have hs := hs.symm
    subst hs
    refine q_iload_n C dX12_best_223 rfl ?_
    refine q_if_ne (tgt := 231) C dX12_best_224 (by decide) h (fun _ h => ?_) (fun _ h => ?_)
    · refine q_iload_n C dX12_best_227 rfl ?_
      refine q_goto (tgt := 233) C dX12_best_228 (by decide) ?_
      exact q_iret C dX12_best_233 rfl (by decide) (by decide) (Option.some.inj h)
    · refine q_iload C dX12_best_231 rfl ?_
      exact q_iret C dX12_best_233 rfl (by decide) (by decide) (Option.some.inj h)
noncomputable def F_X12_best (l0 : Nat) (l1 : Int32) (l2 : Int32) (M : q_Mem) : Option (Int32 × q_Mem) := (q_pI M l0 12 0 (0 : Int32) (fun M1 => (q_gI M1 l0 12 27 (fun v2 => (if v2 = 0 then some ((-1000000 : Int32), M1) else ((F_X12_isIn l1.toInt64 (1 : Int64) (3 : Int64) M1).bind (fun u3 => (if u3 = 0 then some ((-1000000 : Int32), M1) else ((F_X12_isIn l2.toInt64 (0 : Int64) (1 : Int64) M1).bind (fun u4 => (if u4 = 0 then some ((-1000000 : Int32), M1) else (if l1 = (1 : Int32) then J_X12_best_66 l0 l1 l2 (-1 : Int32) (0 : Int32) (10 : Int32) M1 else (if l1 = (2 : Int32) then J_X12_best_66 l0 l1 l2 (-1 : Int32) (0 : Int32) (100 : Int32) M1 else J_X12_best_66 l0 l1 l2 (-1 : Int32) (0 : Int32) (1000 : Int32) M1)))))))))))))
set_option maxRecDepth 100000 in
set_option maxHeartbeats 4000000 in
theorem c_X12_best (l : Launch) (G : q_G) (l0 : Nat) (l1 : Int32) (l2 : Int32) (M : q_Mem) {r : Int32} {M' : q_Mem} (h : F_X12_best l0 l1 l2 M = some (r, M')) : q_Met l G yX12_best cX12_best 11 (Option.some Jvm.ClassFile.FieldType.int) 135 2 0 [.ref l0, .int l1, .int l2] M (some (.int r)) M' := by
  unfold F_X12_best at h
  refine q_enter [some (.ref l0), some (.int l1), some (.int l2), none, none, none, none, none, none, none, none] (by decide) (Nat.le_of_ble_eq_true rfl) rfl (fun K C => ?_)
  refine q_aload_n C dX12_best_0 rfl ?_
  refine x_iconst (v := (0 : Int32)) C dX12_best_1 (by decide) ?_
  refine x_putI (ci := 12) (j := 0) C dX12_best_2 lkF_X12_92 (fun r hr => by cases hr; rfl) rfl h (fun M1 h => ?_)
  refine q_aload_n C dX12_best_5 rfl ?_
  refine x_getI (ci := 12) (j := 27) C dX12_best_6 lkF_X12_287 rfl h (fun v2 h => ?_)
  refine q_if_eq (tgt := 34) C dX12_best_9 (by decide) h (fun _ h => ?_) (fun _ h => ?_)
  · refine q_ldcw (v := (-1000000 : Int32)) C dX12_best_34 wd_1674 ?_
    exact q_iret C dX12_best_37 rfl (by decide) (by decide) (Option.some.inj h)
  · refine q_iload_n C dX12_best_12 rfl ?_
    refine q_i2l C dX12_best_13 ?_
    refine x_lconst (v := (1 : Int64)) C dX12_best_14 (by decide) ?_
    refine q_ldc2 (v := (3 : Int64)) C dX12_best_15 wd_1654 ?_
    obtain ⟨u3, e1, h⟩ := q_bind h
    refine x_callS0 C dX12_best_18 lkM_X12_213 mS_X12_isIn (c_X12_isIn _ _ _ _ _ _ e1) rfl rfl (Nat.le_of_ble_eq_true rfl) (by decide) (by decide) ?_
    refine q_if_eq (tgt := 34) C dX12_best_21 (by decide) h (fun _ h => ?_) (fun _ h => ?_)
    · refine q_ldcw (v := (-1000000 : Int32)) C dX12_best_34 wd_1674 ?_
      exact q_iret C dX12_best_37 rfl (by decide) (by decide) (Option.some.inj h)
    · refine q_iload_n C dX12_best_24 rfl ?_
      refine q_i2l C dX12_best_25 ?_
      refine x_lconst (v := (0 : Int64)) C dX12_best_26 (by decide) ?_
      refine x_lconst (v := (1 : Int64)) C dX12_best_27 (by decide) ?_
      obtain ⟨u4, e1, h⟩ := q_bind h
      refine x_callS0 C dX12_best_28 lkM_X12_213 mS_X12_isIn (c_X12_isIn _ _ _ _ _ _ e1) rfl rfl (Nat.le_of_ble_eq_true rfl) (by decide) (by decide) ?_
      refine q_if_ne (tgt := 38) C dX12_best_31 (by decide) h (fun _ h => ?_) (fun _ h => ?_)
      · refine q_ldcw (v := (-1000000 : Int32)) C dX12_best_34 wd_1674 ?_
        exact q_iret C dX12_best_37 rfl (by decide) (by decide) (Option.some.inj h)
      · refine x_iconst (v := (-1 : Int32)) C dX12_best_38 (by decide) ?_
        refine q_istore_n (L' := [some (.ref l0), some (.int l1), some (.int l2), some (.int (-1 : Int32)), none, none, none, none, none, none, none]) C dX12_best_39 (by decide) rfl rfl ?_
        refine x_iconst (v := (0 : Int32)) C dX12_best_40 (by decide) ?_
        refine q_istore (L' := [some (.ref l0), some (.int l1), some (.int l2), some (.int (-1 : Int32)), some (.int (0 : Int32)), none, none, none, none, none, none]) C dX12_best_41 (by decide) rfl rfl ?_
        refine q_iload_n C dX12_best_43 rfl ?_
        refine x_iconst (v := (1 : Int32)) C dX12_best_44 (by decide) ?_
        refine q_icmp_ne (tgt := 53) C dX12_best_45 (by decide) h (fun _ h => ?_) (fun _ h => ?_)
        · refine x_bipush (v := (10 : Int32)) C dX12_best_48 (by decide) ?_
          refine q_goto (tgt := 66) C dX12_best_50 (by decide) ?_
          exact q_msk [true, true, true, true, true, false, false, false, false, false, false] (jW_X12_best_66 C l0 l1 l2 (-1 : Int32) (0 : Int32) (10 : Int32) M1 h)
        · refine q_iload_n C dX12_best_53 rfl ?_
          refine x_iconst (v := (2 : Int32)) C dX12_best_54 (by decide) ?_
          refine q_icmp_ne (tgt := 63) C dX12_best_55 (by decide) h (fun _ h => ?_) (fun _ h => ?_)
          · refine x_bipush (v := (100 : Int32)) C dX12_best_58 (by decide) ?_
            refine q_goto (tgt := 66) C dX12_best_60 (by decide) ?_
            exact q_msk [true, true, true, true, true, false, false, false, false, false, false] (jW_X12_best_66 C l0 l1 l2 (-1 : Int32) (0 : Int32) (100 : Int32) M1 h)
          · refine x_sipush (v := (1000 : Int32)) C dX12_best_63 (by decide) ?_
            exact q_msk [true, true, true, true, true, false, false, false, false, false, false] (jW_X12_best_66 C l0 l1 l2 (-1 : Int32) (0 : Int32) (1000 : Int32) M1 h)
noncomputable def J_X12_madeUp_87_28 (l0 : Nat) (l1 : Int32) (l2 : Int32) (M : q_Mem) : Option ((Int32 × q_Mem) ⊕ ((Int32 × q_Mem) ⊕ (q_Mem))) := some (.inl ((l2 + (1 : Int32)), M))
set_option maxRecDepth 100000 in
set_option maxHeartbeats 4000000 in
theorem jW_X12_madeUp_87_28 {K : q_K} {Q : State → Prop} (C : q_C K yX12_madeUp cX12_madeUp 3 (Option.some Jvm.ClassFile.FieldType.int) 5 0 0) (l0 : Nat) (l1 : Int32) (l2 : Int32) (M : q_Mem) {stp : (Int32 × q_Mem) ⊕ ((Int32 × q_Mem) ⊕ (q_Mem))} (h : J_X12_madeUp_87_28 l0 l1 l2 M = some stp) (kC : ∀ (l2 : Int32) (M : q_Mem), stp = .inl (l2, M) → q_W K 3 Q 0 0 M 28 [some (.ref l0), some (.int l1), some (.int l2)] []) (kE0 : ∀ (l2 : Int32) (M : q_Mem), stp = .inr (.inl (l2, M)) → q_W K 3 Q 0 0 M 85 [none, none, some (.int l2)] []) (kE1 : ∀ (M : q_Mem), stp = .inr (.inr M) → q_W K 3 Q 0 0 M 93 [none, none, none] []) : q_W K 3 Q 0 0 M 87 [some (.ref l0), some (.int l1), some (.int l2)] [] := by
  unfold J_X12_madeUp_87_28 at h
  refine x_iinc (w := (1 : Int32)) (L' := [some (.ref l0), some (.int l1), some (.int (l2 + (1 : Int32)))]) C dX12_madeUp_87 rfl (by decide) (by decide) rfl rfl ?_
  refine q_goto (tgt := 28) C dX12_madeUp_90 (by decide) ?_
  exact q_msk [true, true, true] (kC _ _ (Option.some.inj h).symm)
noncomputable def B_X12_madeUp_28 (l0 : Nat) (l1 : Int32) (l2 : Int32) (M : q_Mem) : Option ((Int32 × q_Mem) ⊕ ((Int32 × q_Mem) ⊕ (q_Mem))) := (q_gR M l0 12 32 (fun c4 => q_nn c4 (fun r5 => (q_lI M 0 r5 (32 : Int32) (fun v6 => (if v6 < l2 then some (.inr (.inr M)) else (q_gR M l0 12 32 (fun c7 => q_nn c7 (fun r8 => (q_gR M l0 12 33 (fun c9 => q_nn c9 (fun r10 => ((F_X12_copy r8 r10 M).bind (fun x => match x with | (_, M12) => (q_gR M12 l0 12 33 (fun c13 => q_nn c13 (fun r14 => (q_lI M12 0 r14 (32 : Int32) (fun v15 => (q_tI M12 r14 (32 : Int32) (v15 - l2) (fun M16 => (q_gR M16 l0 12 33 (fun c17 => q_nn c17 (fun r18 => (q_ob M16 l0 12 ((F_X12_goTable l0 r18 M16).bind (fun x => match x with | (_, M20) => (q_gI M20 l0 12 37 (fun v21 => (if v21 = (-1 : Int32) then J_X12_madeUp_87_28 l0 l1 l2 M20 else (q_gI M20 l0 12 38 (fun v22 => (if v22 < l1 then J_X12_madeUp_87_28 l0 l1 l2 M20 else some (.inr (.inl (l2, M20))))))))))))))))))))))))))))))))))))
set_option maxRecDepth 100000 in
set_option maxHeartbeats 4000000 in
theorem bW_X12_madeUp_28 {K : q_K} {Q : State → Prop} (C : q_C K yX12_madeUp cX12_madeUp 3 (Option.some Jvm.ClassFile.FieldType.int) 5 0 0) (l0 : Nat) (l1 : Int32) (l2 : Int32) (M : q_Mem) {stp : (Int32 × q_Mem) ⊕ ((Int32 × q_Mem) ⊕ (q_Mem))} (h : B_X12_madeUp_28 l0 l1 l2 M = some stp) (kC : ∀ (l2 : Int32) (M : q_Mem), stp = .inl (l2, M) → q_W K 3 Q 0 0 M 28 [some (.ref l0), some (.int l1), some (.int l2)] []) (kE0 : ∀ (l2 : Int32) (M : q_Mem), stp = .inr (.inl (l2, M)) → q_W K 3 Q 0 0 M 85 [none, none, some (.int l2)] []) (kE1 : ∀ (M : q_Mem), stp = .inr (.inr M) → q_W K 3 Q 0 0 M 93 [none, none, none] []) : q_W K 3 Q 0 0 M 28 [some (.ref l0), some (.int l1), some (.int l2)] [] := by
  unfold B_X12_madeUp_28 at h
  refine q_iload_n C dX12_madeUp_28 rfl ?_
  refine q_aload_n C dX12_madeUp_29 rfl ?_
  refine x_getR (ci := 12) (j := 32) C dX12_madeUp_30 lkF_X12_61 rfl h (fun c4 h => ?_)
  refine x_nn h (fun r5 h => ?_)
  refine x_bipush (v := (32 : Int32)) C dX12_madeUp_33 (by decide) ?_
  refine x_iald C dX12_madeUp_35 h (fun v6 h => ?_)
  refine q_icmp_gt (tgt := 93) C dX12_madeUp_36 (by decide) h (fun _ h => ?_) (fun _ h => ?_)
  · exact q_msk [false, false, false] (kE1 _ (Option.some.inj h).symm)
  · refine q_aload_n C dX12_madeUp_39 rfl ?_
    refine x_getR (ci := 12) (j := 32) C dX12_madeUp_40 lkF_X12_61 rfl h (fun c7 h => ?_)
    refine x_nn h (fun r8 h => ?_)
    refine q_aload_n C dX12_madeUp_43 rfl ?_
    refine x_getR (ci := 12) (j := 33) C dX12_madeUp_44 lkF_X12_64 rfl h (fun c9 h => ?_)
    refine x_nn h (fun r10 h => ?_)
    obtain ⟨⟨_, M12⟩, e1, h⟩ := q_bind h
    refine x_callSv0 C dX12_madeUp_47 lkM_X12_409 mS_X12_copy (c_X12_copy _ _ _ _ _ e1) rfl rfl (Nat.le_of_ble_eq_true rfl) (by decide) (by decide) ?_
    refine q_aload_n C dX12_madeUp_50 rfl ?_
    refine x_getR (ci := 12) (j := 33) C dX12_madeUp_51 lkF_X12_64 rfl h (fun c13 h => ?_)
    refine x_nn h (fun r14 h => ?_)
    refine x_bipush (v := (32 : Int32)) C dX12_madeUp_54 (by decide) ?_
    refine q_dup2 C dX12_madeUp_56 rfl rfl ?_
    refine x_iald C dX12_madeUp_57 h (fun v15 h => ?_)
    refine q_iload_n C dX12_madeUp_58 rfl ?_
    refine q_isub C dX12_madeUp_59 ?_
    refine x_iast C dX12_madeUp_60 h (fun M16 h => ?_)
    refine q_aload_n C dX12_madeUp_61 rfl ?_
    refine q_aload_n C dX12_madeUp_62 rfl ?_
    refine x_getR (ci := 12) (j := 33) C dX12_madeUp_63 lkF_X12_64 rfl h (fun c17 h => ?_)
    refine x_nn h (fun r18 h => ?_)
    obtain ⟨hk, h⟩ := q_obE h
    obtain ⟨⟨_, M20⟩, e1, h⟩ := q_bind h
    refine x_callVv0 C dX12_madeUp_66 lkM_X12_341 mV_X12_goTable ⟨_, rfl, rfl⟩ hk (c_X12_goTable _ _ _ _ _ e1) rfl rfl (Nat.le_of_ble_eq_true rfl) (by decide) (by decide) ?_
    refine q_aload_n C dX12_madeUp_69 rfl ?_
    refine x_getI (ci := 12) (j := 37) C dX12_madeUp_70 lkF_X12_313 rfl h (fun v21 h => ?_)
    refine x_iconst (v := (-1 : Int32)) C dX12_madeUp_73 (by decide) ?_
    refine q_icmp_eq (tgt := 87) C dX12_madeUp_74 (by decide) h (fun _ h => ?_) (fun _ h => ?_)
    · exact q_msk [true, true, true] (jW_X12_madeUp_87_28 C l0 l1 l2 M20 h kC kE0 kE1)
    · refine q_aload_n C dX12_madeUp_77 rfl ?_
      refine x_getI (ci := 12) (j := 38) C dX12_madeUp_78 lkF_X12_319 rfl h (fun v22 h => ?_)
      refine q_iload_n C dX12_madeUp_81 rfl ?_
      refine q_icmp_lt (tgt := 87) C dX12_madeUp_82 (by decide) h (fun _ h => ?_) (fun _ h => ?_)
      · exact q_msk [true, true, true] (jW_X12_madeUp_87_28 C l0 l1 l2 M20 h kC kE0 kE1)
      · exact q_msk [false, false, true] (kE0 _ _ (Option.some.inj h).symm)
set_option maxRecDepth 100000 in
set_option maxHeartbeats 4000000 in
theorem lW_X12_madeUp_28 {K : q_K} {Q : State → Prop} (C : q_C K yX12_madeUp cX12_madeUp 3 (Option.some Jvm.ClassFile.FieldType.int) 5 0 0) (l0 : Nat) (l1 : Int32) (n : Nat) : ∀ (l2 : Int32) (M : q_Mem) (e : ((Int32 × q_Mem) ⊕ (q_Mem))), q_lp (fun s => B_X12_madeUp_28 l0 l1 s.1 s.2) n (l2, M) = some e → (∀ (l2 : Int32) (M : q_Mem), e = (.inl (l2, M)) → q_W K 3 Q 0 0 M 85 [none, none, some (.int l2)] []) → (∀ (M : q_Mem), e = (.inr M) → q_W K 3 Q 0 0 M 93 [none, none, none] []) → q_W K 3 Q 0 0 M 28 [some (.ref l0), some (.int l1), some (.int l2)] [] := by
  induction n with
  | zero => intro l2 M e h; cases h
  | succ n ih =>
    intro l2 M e h kE0 kE1
    obtain ⟨stp, e1, e2⟩ := q_bind h
    refine bW_X12_madeUp_28 C l0 l1 l2 M e1 (fun a0 a1 hs => ?_) (fun b0 b1 hs => ?_) (fun b0 hs => ?_)
    · subst hs; exact ih _ _ _ e2 kE0 kE1
    · subst hs; exact kE0 _ _ (Option.some.inj e2).symm
    · subst hs; exact kE1 _ (Option.some.inj e2).symm
noncomputable def F_X12_madeUp (l0 : Nat) (l1 : Int32) (M : q_Mem) : Option (Int32 × q_Mem) := (q_pI M l0 12 0 (0 : Int32) (fun M1 => (q_gI M1 l0 12 27 (fun v2 => (if v2 = 0 then some ((-1 : Int32), M1) else ((F_X12_isIn l1.toInt64 (0 : Int64) (20 : Int64) M1).bind (fun u3 => (if u3 = 0 then some ((-1 : Int32), M1) else (q_lp (fun s => B_X12_madeUp_28 l0 l1 s.1 s.2) q_fu ((0 : Int32), M1)).bind (fun e23 => match e23 with | .inl (w24, M25) => some (w24, M25) | .inr M26 => some ((-1 : Int32), M26))))))))))
set_option maxRecDepth 100000 in
set_option maxHeartbeats 4000000 in
theorem c_X12_madeUp (l : Launch) (G : q_G) (l0 : Nat) (l1 : Int32) (M : q_Mem) {r : Int32} {M' : q_Mem} (h : F_X12_madeUp l0 l1 M = some (r, M')) : q_Met l G yX12_madeUp cX12_madeUp 3 (Option.some Jvm.ClassFile.FieldType.int) 5 0 0 [.ref l0, .int l1] M (some (.int r)) M' := by
  unfold F_X12_madeUp at h
  refine q_enter [some (.ref l0), some (.int l1), none] (by decide) (Nat.le_of_ble_eq_true rfl) rfl (fun K C => ?_)
  refine q_aload_n C dX12_madeUp_0 rfl ?_
  refine x_iconst (v := (0 : Int32)) C dX12_madeUp_1 (by decide) ?_
  refine x_putI (ci := 12) (j := 0) C dX12_madeUp_2 lkF_X12_92 (fun r hr => by cases hr; rfl) rfl h (fun M1 h => ?_)
  refine q_aload_n C dX12_madeUp_5 rfl ?_
  refine x_getI (ci := 12) (j := 27) C dX12_madeUp_6 lkF_X12_287 rfl h (fun v2 h => ?_)
  refine q_if_eq (tgt := 24) C dX12_madeUp_9 (by decide) h (fun _ h => ?_) (fun _ h => ?_)
  · refine x_iconst (v := (-1 : Int32)) C dX12_madeUp_24 (by decide) ?_
    exact q_iret C dX12_madeUp_25 rfl (by decide) (by decide) (Option.some.inj h)
  · refine q_iload_n C dX12_madeUp_12 rfl ?_
    refine q_i2l C dX12_madeUp_13 ?_
    refine x_lconst (v := (0 : Int64)) C dX12_madeUp_14 (by decide) ?_
    refine q_ldc2 (v := (20 : Int64)) C dX12_madeUp_15 wd_1706 ?_
    obtain ⟨u3, e1, h⟩ := q_bind h
    refine x_callS0 C dX12_madeUp_18 lkM_X12_213 mS_X12_isIn (c_X12_isIn _ _ _ _ _ _ e1) rfl rfl (Nat.le_of_ble_eq_true rfl) (by decide) (by decide) ?_
    refine q_if_ne (tgt := 26) C dX12_madeUp_21 (by decide) h (fun _ h => ?_) (fun _ h => ?_)
    · refine x_iconst (v := (-1 : Int32)) C dX12_madeUp_24 (by decide) ?_
      exact q_iret C dX12_madeUp_25 rfl (by decide) (by decide) (Option.some.inj h)
    · refine x_iconst (v := (0 : Int32)) C dX12_madeUp_26 (by decide) ?_
      refine q_istore_n (L' := [some (.ref l0), some (.int l1), some (.int (0 : Int32))]) C dX12_madeUp_27 (by decide) rfl rfl ?_
      obtain ⟨e23, he, h⟩ := q_bind h
      refine q_msk [true, true, true] (lW_X12_madeUp_28 C l0 l1 q_fu _ _ _ he (fun w24 M25 hs => ?_) (fun M26 hs => ?_))
      · have hs := hs.symm
        subst hs
        refine q_iload_n C dX12_madeUp_85 rfl ?_
        exact q_iret C dX12_madeUp_86 rfl (by decide) (by decide) (Option.some.inj h)
      · have hs := hs.symm
        subst hs
        refine x_iconst (v := (-1 : Int32)) C dX12_madeUp_93 (by decide) ?_
        exact q_iret C dX12_madeUp_94 rfl (by decide) (by decide) (Option.some.inj h)
noncomputable def J_X12_seen_124 (l0 : Nat) (s0 : Nat) (s1 : Int32) (s2 : Int32) (M : q_Mem) : Option (Int32 × q_Mem) := (q_tI M s0 s1 s2 (fun M22 => (q_gI M22 l0 12 45 (fun v23 => (q_pI M22 l0 12 45 (v23 + (1 : Int32)) (fun M24 => (q_gI M24 l0 12 45 (fun v25 => some (v25, M24)))))))))
set_option maxRecDepth 100000 in
set_option maxHeartbeats 4000000 in
theorem jW_X12_seen_124 {K : q_K} (C : q_C K yX12_seen cX12_seen 7 (Option.some Jvm.ClassFile.FieldType.int) 2 0 0) (l0 : Nat) (s0 : Nat) (s1 : Int32) (s2 : Int32) (M : q_Mem) {r : Int32} {M' : q_Mem} (h : J_X12_seen_124 l0 s0 s1 s2 M = some (r, M')) : q_W K 7 (q_Q K (some (.int r)) M' 0 0) 0 0 M 124 [some (.ref l0), none, none, none, none, none, none] [.int s2, .int s1, .ref s0] := by
  unfold J_X12_seen_124 at h
  refine x_iast C dX12_seen_124 h (fun M22 h => ?_)
  refine q_aload_n C dX12_seen_125 rfl ?_
  refine q_dup C dX12_seen_126 rfl ?_
  refine x_getI (ci := 12) (j := 45) C dX12_seen_127 lkF_X12_290 rfl h (fun v23 h => ?_)
  refine x_iconst (v := (1 : Int32)) C dX12_seen_130 (by decide) ?_
  refine q_iadd C dX12_seen_131 ?_
  refine x_putI (ci := 12) (j := 45) C dX12_seen_132 lkF_X12_290 (fun r hr => by cases hr; rfl) rfl h (fun M24 h => ?_)
  refine q_aload_n C dX12_seen_135 rfl ?_
  refine x_getI (ci := 12) (j := 45) C dX12_seen_136 lkF_X12_290 rfl h (fun v25 h => ?_)
  exact q_iret C dX12_seen_139 rfl (by decide) (by decide) (Option.some.inj h)
noncomputable def F_X12_seen (l0 : Nat) (l1 : Int32) (l2 : Int32) (l3 : Int32) (l4 : Int32) (l5 : Int32) (M : q_Mem) : Option (Int32 × q_Mem) := (q_pI M l0 12 0 (0 : Int32) (fun M1 => (q_ob M1 l0 12 ((F_X12_isGuest l0 l1 M1).bind (fun u2 => (if u2 = 0 then some ((-1 : Int32), M1) else (q_ob M1 l0 12 ((F_X12_isDish l0 l2 M1).bind (fun u3 => (if u3 = 0 then some ((-1 : Int32), M1) else ((F_X12_isIn l3.toInt64 (0 : Int64) (20 : Int64) M1).bind (fun u4 => (if u4 = 0 then some ((-1 : Int32), M1) else ((F_X12_isIn l4.toInt64 (-9 : Int64) (20 : Int64) M1).bind (fun u5 => (if u5 = 0 then some ((-1 : Int32), M1) else (q_gI M1 l0 12 45 (fun v6 => (if v6 = (10 : Int32) then some ((-1 : Int32), M1) else (q_gI M1 l0 12 45 (fun v7 => (q_gR M1 l0 12 44 (fun c8 => q_nn c8 (fun r9 => (q_tI M1 r9 ((5 : Int32) * v7) l1 (fun M10 => (q_gR M10 l0 12 44 (fun c11 => q_nn c11 (fun r12 => (q_tI M10 r12 (((5 : Int32) * v7) + (1 : Int32)) l2 (fun M13 => (q_gR M13 l0 12 44 (fun c14 => q_nn c14 (fun r15 => (q_tI M13 r15 (((5 : Int32) * v7) + (2 : Int32)) l3 (fun M16 => (q_gR M16 l0 12 44 (fun c17 => q_nn c17 (fun r18 => (q_tI M16 r18 (((5 : Int32) * v7) + (3 : Int32)) l4 (fun M19 => (q_gR M19 l0 12 44 (fun c20 => q_nn c20 (fun r21 => (if l5 = 0 then J_X12_seen_124 l0 r21 (((5 : Int32) * v7) + (4 : Int32)) (0 : Int32) M19 else J_X12_seen_124 l0 r21 (((5 : Int32) * v7) + (4 : Int32)) (1 : Int32) M19)))))))))))))))))))))))))))))))))))))))))))))
set_option maxRecDepth 100000 in
set_option maxHeartbeats 4000000 in
theorem c_X12_seen (l : Launch) (G : q_G) (l0 : Nat) (l1 : Int32) (l2 : Int32) (l3 : Int32) (l4 : Int32) (l5 : Int32) (M : q_Mem) {r : Int32} {M' : q_Mem} (h : F_X12_seen l0 l1 l2 l3 l4 l5 M = some (r, M')) : q_Met l G yX12_seen cX12_seen 7 (Option.some Jvm.ClassFile.FieldType.int) 2 0 0 [.ref l0, .int l1, .int l2, .int l3, .int l4, .int l5] M (some (.int r)) M' := by
  unfold F_X12_seen at h
  refine q_enter [some (.ref l0), some (.int l1), some (.int l2), some (.int l3), some (.int l4), some (.int l5), none] (by decide) (Nat.le_of_ble_eq_true rfl) rfl (fun K C => ?_)
  refine q_aload_n C dX12_seen_0 rfl ?_
  refine x_iconst (v := (0 : Int32)) C dX12_seen_1 (by decide) ?_
  refine x_putI (ci := 12) (j := 0) C dX12_seen_2 lkF_X12_92 (fun r hr => by cases hr; rfl) rfl h (fun M1 h => ?_)
  refine q_aload_n C dX12_seen_5 rfl ?_
  refine q_iload_n C dX12_seen_6 rfl ?_
  obtain ⟨hk, h⟩ := q_obE h
  obtain ⟨u2, e1, h⟩ := q_bind h
  refine x_callV0 C dX12_seen_7 lkM_X12_360 mV_X12_isGuest ⟨_, rfl, rfl⟩ hk (c_X12_isGuest _ _ _ _ _ e1) rfl rfl (Nat.le_of_ble_eq_true rfl) (by decide) (by decide) ?_
  refine q_if_eq (tgt := 57) C dX12_seen_10 (by decide) h (fun _ h => ?_) (fun _ h => ?_)
  · refine x_iconst (v := (-1 : Int32)) C dX12_seen_57 (by decide) ?_
    exact q_iret C dX12_seen_58 rfl (by decide) (by decide) (Option.some.inj h)
  · refine q_aload_n C dX12_seen_13 rfl ?_
    refine q_iload_n C dX12_seen_14 rfl ?_
    obtain ⟨hk, h⟩ := q_obE h
    obtain ⟨u3, e1, h⟩ := q_bind h
    refine x_callV0 C dX12_seen_15 lkM_X12_357 mV_X12_isDish ⟨_, rfl, rfl⟩ hk (c_X12_isDish _ _ _ _ _ e1) rfl rfl (Nat.le_of_ble_eq_true rfl) (by decide) (by decide) ?_
    refine q_if_eq (tgt := 57) C dX12_seen_18 (by decide) h (fun _ h => ?_) (fun _ h => ?_)
    · refine x_iconst (v := (-1 : Int32)) C dX12_seen_57 (by decide) ?_
      exact q_iret C dX12_seen_58 rfl (by decide) (by decide) (Option.some.inj h)
    · refine q_iload_n C dX12_seen_21 rfl ?_
      refine q_i2l C dX12_seen_22 ?_
      refine x_lconst (v := (0 : Int64)) C dX12_seen_23 (by decide) ?_
      refine q_ldc2 (v := (20 : Int64)) C dX12_seen_24 wd_1706 ?_
      obtain ⟨u4, e1, h⟩ := q_bind h
      refine x_callS0 C dX12_seen_27 lkM_X12_213 mS_X12_isIn (c_X12_isIn _ _ _ _ _ _ e1) rfl rfl (Nat.le_of_ble_eq_true rfl) (by decide) (by decide) ?_
      refine q_if_eq (tgt := 57) C dX12_seen_30 (by decide) h (fun _ h => ?_) (fun _ h => ?_)
      · refine x_iconst (v := (-1 : Int32)) C dX12_seen_57 (by decide) ?_
        exact q_iret C dX12_seen_58 rfl (by decide) (by decide) (Option.some.inj h)
      · refine q_iload C dX12_seen_33 rfl ?_
        refine q_i2l C dX12_seen_35 ?_
        refine q_ldc2 (v := (-9 : Int64)) C dX12_seen_36 wd_1735 ?_
        refine q_ldc2 (v := (20 : Int64)) C dX12_seen_39 wd_1706 ?_
        obtain ⟨u5, e1, h⟩ := q_bind h
        refine x_callS0 C dX12_seen_42 lkM_X12_213 mS_X12_isIn (c_X12_isIn _ _ _ _ _ _ e1) rfl rfl (Nat.le_of_ble_eq_true rfl) (by decide) (by decide) ?_
        refine q_if_eq (tgt := 57) C dX12_seen_45 (by decide) h (fun _ h => ?_) (fun _ h => ?_)
        · refine x_iconst (v := (-1 : Int32)) C dX12_seen_57 (by decide) ?_
          exact q_iret C dX12_seen_58 rfl (by decide) (by decide) (Option.some.inj h)
        · refine q_aload_n C dX12_seen_48 rfl ?_
          refine x_getI (ci := 12) (j := 45) C dX12_seen_49 lkF_X12_290 rfl h (fun v6 h => ?_)
          refine x_bipush (v := (10 : Int32)) C dX12_seen_52 (by decide) ?_
          refine q_icmp_ne (tgt := 59) C dX12_seen_54 (by decide) h (fun _ h => ?_) (fun _ h => ?_)
          · refine x_iconst (v := (-1 : Int32)) C dX12_seen_57 (by decide) ?_
            exact q_iret C dX12_seen_58 rfl (by decide) (by decide) (Option.some.inj h)
          · refine x_iconst (v := (5 : Int32)) C dX12_seen_59 (by decide) ?_
            refine q_aload_n C dX12_seen_60 rfl ?_
            refine x_getI (ci := 12) (j := 45) C dX12_seen_61 lkF_X12_290 rfl h (fun v7 h => ?_)
            refine q_imul C dX12_seen_64 ?_
            refine q_istore (L' := [some (.ref l0), some (.int l1), some (.int l2), some (.int l3), some (.int l4), some (.int l5), some (.int ((5 : Int32) * v7))]) C dX12_seen_65 (by decide) rfl rfl ?_
            refine q_aload_n C dX12_seen_67 rfl ?_
            refine x_getR (ci := 12) (j := 44) C dX12_seen_68 lkF_X12_80 rfl h (fun c8 h => ?_)
            refine x_nn h (fun r9 h => ?_)
            refine q_iload C dX12_seen_71 rfl ?_
            refine q_iload_n C dX12_seen_73 rfl ?_
            refine x_iast C dX12_seen_74 h (fun M10 h => ?_)
            refine q_aload_n C dX12_seen_75 rfl ?_
            refine x_getR (ci := 12) (j := 44) C dX12_seen_76 lkF_X12_80 rfl h (fun c11 h => ?_)
            refine x_nn h (fun r12 h => ?_)
            refine q_iload C dX12_seen_79 rfl ?_
            refine x_iconst (v := (1 : Int32)) C dX12_seen_81 (by decide) ?_
            refine q_iadd C dX12_seen_82 ?_
            refine q_iload_n C dX12_seen_83 rfl ?_
            refine x_iast C dX12_seen_84 h (fun M13 h => ?_)
            refine q_aload_n C dX12_seen_85 rfl ?_
            refine x_getR (ci := 12) (j := 44) C dX12_seen_86 lkF_X12_80 rfl h (fun c14 h => ?_)
            refine x_nn h (fun r15 h => ?_)
            refine q_iload C dX12_seen_89 rfl ?_
            refine x_iconst (v := (2 : Int32)) C dX12_seen_91 (by decide) ?_
            refine q_iadd C dX12_seen_92 ?_
            refine q_iload_n C dX12_seen_93 rfl ?_
            refine x_iast C dX12_seen_94 h (fun M16 h => ?_)
            refine q_aload_n C dX12_seen_95 rfl ?_
            refine x_getR (ci := 12) (j := 44) C dX12_seen_96 lkF_X12_80 rfl h (fun c17 h => ?_)
            refine x_nn h (fun r18 h => ?_)
            refine q_iload C dX12_seen_99 rfl ?_
            refine x_iconst (v := (3 : Int32)) C dX12_seen_101 (by decide) ?_
            refine q_iadd C dX12_seen_102 ?_
            refine q_iload C dX12_seen_103 rfl ?_
            refine x_iast C dX12_seen_105 h (fun M19 h => ?_)
            refine q_aload_n C dX12_seen_106 rfl ?_
            refine x_getR (ci := 12) (j := 44) C dX12_seen_107 lkF_X12_80 rfl h (fun c20 h => ?_)
            refine x_nn h (fun r21 h => ?_)
            refine q_iload C dX12_seen_110 rfl ?_
            refine x_iconst (v := (4 : Int32)) C dX12_seen_112 (by decide) ?_
            refine q_iadd C dX12_seen_113 ?_
            refine q_iload C dX12_seen_114 rfl ?_
            refine q_if_eq (tgt := 123) C dX12_seen_116 (by decide) h (fun _ h => ?_) (fun _ h => ?_)
            · refine x_iconst (v := (0 : Int32)) C dX12_seen_123 (by decide) ?_
              exact q_msk [true, false, false, false, false, false, false] (jW_X12_seen_124 C l0 r21 (((5 : Int32) * v7) + (4 : Int32)) (0 : Int32) M19 h)
            · refine x_iconst (v := (1 : Int32)) C dX12_seen_119 (by decide) ?_
              refine q_goto (tgt := 124) C dX12_seen_120 (by decide) ?_
              exact q_msk [true, false, false, false, false, false, false] (jW_X12_seen_124 C l0 r21 (((5 : Int32) * v7) + (4 : Int32)) (1 : Int32) M19 h)
noncomputable def J_X12_hasJoy_18 (l5 : Int32) (s0 : Nat) (s1 : Int32) (s2 : Int32) (s3 : Int32) (M : q_Mem) : Option (Int32 × q_Mem) := (q_ob M s0 12 ((F_X12_joyOf s0 s1 s2 s3 (1 : Int32) (0 : Int32) (0 : Int32) M).bind (fun x => match x with | (u2, M3) => (if u2 < l5 then q_rz (0 : Int32) M3 else q_rz (1 : Int32) M3))))
set_option maxRecDepth 100000 in
set_option maxHeartbeats 4000000 in
theorem jW_X12_hasJoy_18 {K : q_K} (C : q_C K yX12_hasJoy cX12_hasJoy 6 (Option.some Jvm.ClassFile.FieldType.boolean) 134 2 0) (l5 : Int32) (s0 : Nat) (s1 : Int32) (s2 : Int32) (s3 : Int32) (M : q_Mem) {r : Int32} {M' : q_Mem} (h : J_X12_hasJoy_18 l5 s0 s1 s2 s3 M = some (r, M')) : q_W K 6 (q_Q K (some (.int r)) M' 2 0) 0 0 M 18 [none, none, none, none, none, some (.int l5)] [.int s3, .int s2, .int s1, .ref s0] := by
  unfold J_X12_hasJoy_18 at h
  refine x_iconst (v := (1 : Int32)) C dX12_hasJoy_18 (by decide) ?_
  refine x_iconst (v := (0 : Int32)) C dX12_hasJoy_19 (by decide) ?_
  refine x_iconst (v := (0 : Int32)) C dX12_hasJoy_20 (by decide) ?_
  obtain ⟨hk, h⟩ := q_obE h
  obtain ⟨⟨u2, M3⟩, e1, h⟩ := q_bind h
  refine x_callV C dX12_hasJoy_21 lkM_X12_347 mV_X12_joyOf ⟨_, rfl, rfl⟩ hk (c_X12_joyOf _ _ _ _ _ _ _ _ _ _ e1) rfl rfl (Nat.le_of_ble_eq_true rfl) (by decide) (by decide) ?_
  refine q_iload C dX12_hasJoy_24 rfl ?_
  refine q_icmp_lt (tgt := 33) C dX12_hasJoy_26 (by decide) h (fun _ h => ?_) (fun _ h => ?_)
  · refine x_iconst (v := (0 : Int32)) C dX12_hasJoy_33 (by decide) ?_
    exact q_zret C dX12_hasJoy_34 rfl (by decide) (by decide) (q_rzE h).1 (q_rzE h).2
  · refine x_iconst (v := (1 : Int32)) C dX12_hasJoy_29 (by decide) ?_
    refine q_goto (tgt := 34) C dX12_hasJoy_30 (by decide) ?_
    exact q_zret C dX12_hasJoy_34 rfl (by decide) (by decide) (q_rzE h).1 (q_rzE h).2
noncomputable def F_X12_hasJoy (l0 : Nat) (l1 : Int32) (l2 : Int32) (l3 : Int32) (l4 : Int32) (l5 : Int32) (M : q_Mem) : Option (Int32 × q_Mem) := (q_ob M l0 12 ((F_X12_kindOf l0 l3 M).bind (fun u1 => (if u1 = l2 then J_X12_hasJoy_18 l5 l0 l1 l4 (1 : Int32) M else J_X12_hasJoy_18 l5 l0 l1 l4 (0 : Int32) M))))
set_option maxRecDepth 100000 in
set_option maxHeartbeats 4000000 in
theorem c_X12_hasJoy (l : Launch) (G : q_G) (l0 : Nat) (l1 : Int32) (l2 : Int32) (l3 : Int32) (l4 : Int32) (l5 : Int32) (M : q_Mem) {r : Int32} {M' : q_Mem} (h : F_X12_hasJoy l0 l1 l2 l3 l4 l5 M = some (r, M')) : q_Met l G yX12_hasJoy cX12_hasJoy 6 (Option.some Jvm.ClassFile.FieldType.boolean) 134 2 0 [.ref l0, .int l1, .int l2, .int l3, .int l4, .int l5] M (some (.int r)) M' := by
  unfold F_X12_hasJoy at h
  refine q_enter [some (.ref l0), some (.int l1), some (.int l2), some (.int l3), some (.int l4), some (.int l5)] (by decide) (Nat.le_of_ble_eq_true rfl) rfl (fun K C => ?_)
  refine q_aload_n C dX12_hasJoy_0 rfl ?_
  refine q_iload_n C dX12_hasJoy_1 rfl ?_
  refine q_iload C dX12_hasJoy_2 rfl ?_
  refine q_aload_n C dX12_hasJoy_4 rfl ?_
  refine q_iload_n C dX12_hasJoy_5 rfl ?_
  obtain ⟨hk, h⟩ := q_obE h
  obtain ⟨u1, e1, h⟩ := q_bind h
  refine x_callV0 C dX12_hasJoy_6 lkM_X12_344 mV_X12_kindOf ⟨_, rfl, rfl⟩ hk (c_X12_kindOf _ _ _ _ _ e1) rfl rfl (Nat.le_of_ble_eq_true rfl) (by decide) (by decide) ?_
  refine q_iload_n C dX12_hasJoy_9 rfl ?_
  refine q_icmp_ne (tgt := 17) C dX12_hasJoy_10 (by decide) h (fun _ h => ?_) (fun _ h => ?_)
  · refine x_iconst (v := (1 : Int32)) C dX12_hasJoy_13 (by decide) ?_
    refine q_goto (tgt := 18) C dX12_hasJoy_14 (by decide) ?_
    exact q_msk [false, false, false, false, false, true] (jW_X12_hasJoy_18 C l5 l0 l1 l4 (1 : Int32) M h)
  · refine x_iconst (v := (0 : Int32)) C dX12_hasJoy_17 (by decide) ?_
    exact q_msk [false, false, false, false, false, true] (jW_X12_hasJoy_18 C l5 l0 l1 l4 (0 : Int32) M h)
noncomputable def J_X12_liked_111_15 (l0 : Nat) (l1 : Int32) (l2 : Int32) (l3 : Int32) (l4 : Int32) (l5 : Int32) (M : q_Mem) : Option ((Int32 × Int32 × q_Mem) ⊕ (Int32 × q_Mem)) := some (.inl (l4, (l5 + (1 : Int32)), M))
set_option maxRecDepth 100000 in
set_option maxHeartbeats 4000000 in
theorem jW_X12_liked_111_15 {K : q_K} {Q : State → Prop} (C : q_C K yX12_liked cX12_liked 6 (Option.some Jvm.ClassFile.FieldType.int) 135 2 0) (l0 : Nat) (l1 : Int32) (l2 : Int32) (l3 : Int32) (l4 : Int32) (l5 : Int32) (M : q_Mem) {stp : (Int32 × Int32 × q_Mem) ⊕ (Int32 × q_Mem)} (h : J_X12_liked_111_15 l0 l1 l2 l3 l4 l5 M = some stp) (kC : ∀ (l4 : Int32) (l5 : Int32) (M : q_Mem), stp = .inl (l4, l5, M) → q_W K 6 Q 0 0 M 15 [some (.ref l0), some (.int l1), some (.int l2), some (.int l3), some (.int l4), some (.int l5)] []) (kE0 : ∀ (l4 : Int32) (M : q_Mem), stp = .inr (l4, M) → q_W K 6 Q 0 0 M 117 [some (.ref l0), some (.int l1), some (.int l2), some (.int l3), some (.int l4), none] []) : q_W K 6 Q 0 0 M 111 [some (.ref l0), some (.int l1), some (.int l2), some (.int l3), some (.int l4), some (.int l5)] [] := by
  unfold J_X12_liked_111_15 at h
  refine x_iinc (w := (1 : Int32)) (L' := [some (.ref l0), some (.int l1), some (.int l2), some (.int l3), some (.int l4), some (.int (l5 + (1 : Int32)))]) C dX12_liked_111 rfl (by decide) (by decide) rfl rfl ?_
  refine q_goto (tgt := 15) C dX12_liked_114 (by decide) ?_
  exact q_msk [true, true, true, true, true, true] (kC _ _ _ (Option.some.inj h).symm)
noncomputable def J_X12_liked_109_15 (l0 : Nat) (l1 : Int32) (l2 : Int32) (l3 : Int32) (l5 : Int32) (s0 : Int32) (M : q_Mem) : Option ((Int32 × Int32 × q_Mem) ⊕ (Int32 × q_Mem)) := J_X12_liked_111_15 l0 l1 l2 l3 s0 l5 M
set_option maxRecDepth 100000 in
set_option maxHeartbeats 4000000 in
theorem jW_X12_liked_109_15 {K : q_K} {Q : State → Prop} (C : q_C K yX12_liked cX12_liked 6 (Option.some Jvm.ClassFile.FieldType.int) 135 2 0) (l0 : Nat) (l1 : Int32) (l2 : Int32) (l3 : Int32) (l5 : Int32) (s0 : Int32) (M : q_Mem) {stp : (Int32 × Int32 × q_Mem) ⊕ (Int32 × q_Mem)} (h : J_X12_liked_109_15 l0 l1 l2 l3 l5 s0 M = some stp) (kC : ∀ (l4 : Int32) (l5 : Int32) (M : q_Mem), stp = .inl (l4, l5, M) → q_W K 6 Q 0 0 M 15 [some (.ref l0), some (.int l1), some (.int l2), some (.int l3), some (.int l4), some (.int l5)] []) (kE0 : ∀ (l4 : Int32) (M : q_Mem), stp = .inr (l4, M) → q_W K 6 Q 0 0 M 117 [some (.ref l0), some (.int l1), some (.int l2), some (.int l3), some (.int l4), none] []) : q_W K 6 Q 0 0 M 109 [some (.ref l0), some (.int l1), some (.int l2), some (.int l3), none, some (.int l5)] [.int s0] := by
  unfold J_X12_liked_109_15 at h
  refine q_istore (L' := [some (.ref l0), some (.int l1), some (.int l2), some (.int l3), some (.int s0), some (.int l5)]) C dX12_liked_109 (by decide) rfl rfl ?_
  exact q_msk [true, true, true, true, true, true] (jW_X12_liked_111_15 C l0 l1 l2 l3 s0 l5 M h kC kE0)
noncomputable def J_X12_liked_101_15 (l0 : Nat) (l1 : Int32) (l2 : Int32) (l3 : Int32) (l5 : Int32) (s0 : Int32) (s1 : Int32) (M : q_Mem) : Option ((Int32 × Int32 × q_Mem) ⊕ (Int32 × q_Mem)) := (if s0 = s1 then J_X12_liked_109_15 l0 l1 l2 l3 l5 (1 : Int32) M else J_X12_liked_109_15 l0 l1 l2 l3 l5 (0 : Int32) M)
set_option maxRecDepth 100000 in
set_option maxHeartbeats 4000000 in
theorem jW_X12_liked_101_15 {K : q_K} {Q : State → Prop} (C : q_C K yX12_liked cX12_liked 6 (Option.some Jvm.ClassFile.FieldType.int) 135 2 0) (l0 : Nat) (l1 : Int32) (l2 : Int32) (l3 : Int32) (l5 : Int32) (s0 : Int32) (s1 : Int32) (M : q_Mem) {stp : (Int32 × Int32 × q_Mem) ⊕ (Int32 × q_Mem)} (h : J_X12_liked_101_15 l0 l1 l2 l3 l5 s0 s1 M = some stp) (kC : ∀ (l4 : Int32) (l5 : Int32) (M : q_Mem), stp = .inl (l4, l5, M) → q_W K 6 Q 0 0 M 15 [some (.ref l0), some (.int l1), some (.int l2), some (.int l3), some (.int l4), some (.int l5)] []) (kE0 : ∀ (l4 : Int32) (M : q_Mem), stp = .inr (l4, M) → q_W K 6 Q 0 0 M 117 [some (.ref l0), some (.int l1), some (.int l2), some (.int l3), some (.int l4), none] []) : q_W K 6 Q 0 0 M 101 [some (.ref l0), some (.int l1), some (.int l2), some (.int l3), none, some (.int l5)] [.int s1, .int s0] := by
  unfold J_X12_liked_101_15 at h
  refine q_icmp_ne (tgt := 108) C dX12_liked_101 (by decide) h (fun _ h => ?_) (fun _ h => ?_)
  · refine x_iconst (v := (1 : Int32)) C dX12_liked_104 (by decide) ?_
    refine q_goto (tgt := 109) C dX12_liked_105 (by decide) ?_
    exact q_msk [true, true, true, true, false, true] (jW_X12_liked_109_15 C l0 l1 l2 l3 l5 (1 : Int32) M h kC kE0)
  · refine x_iconst (v := (0 : Int32)) C dX12_liked_108 (by decide) ?_
    exact q_msk [true, true, true, true, false, true] (jW_X12_liked_109_15 C l0 l1 l2 l3 l5 (0 : Int32) M h kC kE0)
noncomputable def B_X12_liked_15 (l0 : Nat) (l1 : Int32) (l2 : Int32) (l3 : Int32) (l4 : Int32) (l5 : Int32) (M : q_Mem) : Option ((Int32 × Int32 × q_Mem) ⊕ (Int32 × q_Mem)) := (q_gI M l0 12 45 (fun v1 => (if l5 < v1 then (if l4 = 0 then some (.inr (l4, M)) else (q_gR M l0 12 44 (fun c2 => q_nn c2 (fun r3 => (q_lI M 0 r3 ((5 : Int32) * l5) (fun v4 => (if v4 = l1 then (q_gR M l0 12 44 (fun c5 => q_nn c5 (fun r6 => (q_lI M 0 r6 (((5 : Int32) * l5) + (1 : Int32)) (fun v7 => (q_gR M l0 12 44 (fun c8 => q_nn c8 (fun r9 => (q_lI M 0 r9 (((5 : Int32) * l5) + (2 : Int32)) (fun v10 => (q_gR M l0 12 44 (fun c11 => q_nn c11 (fun r12 => (q_lI M 0 r12 (((5 : Int32) * l5) + (3 : Int32)) (fun v13 => (q_ob M l0 12 ((F_X12_hasJoy l0 l1 l3 v7 v10 v13 M).bind (fun x => match x with | (u14, M15) => (q_gR M15 l0 12 44 (fun c16 => q_nn c16 (fun r17 => (q_lI M15 0 r17 (((5 : Int32) * l5) + (4 : Int32)) (fun v18 => (if v18 = (1 : Int32) then J_X12_liked_101_15 l0 l1 l2 l3 l5 u14 (1 : Int32) M15 else J_X12_liked_101_15 l0 l1 l2 l3 l5 u14 (0 : Int32) M15)))))))))))))))))))))))) else J_X12_liked_111_15 l0 l1 l2 l3 l4 l5 M))))))) else some (.inr (l4, M)))))
set_option maxRecDepth 100000 in
set_option maxHeartbeats 4000000 in
theorem bW_X12_liked_15 {K : q_K} {Q : State → Prop} (C : q_C K yX12_liked cX12_liked 6 (Option.some Jvm.ClassFile.FieldType.int) 135 2 0) (l0 : Nat) (l1 : Int32) (l2 : Int32) (l3 : Int32) (l4 : Int32) (l5 : Int32) (M : q_Mem) {stp : (Int32 × Int32 × q_Mem) ⊕ (Int32 × q_Mem)} (h : B_X12_liked_15 l0 l1 l2 l3 l4 l5 M = some stp) (kC : ∀ (l4 : Int32) (l5 : Int32) (M : q_Mem), stp = .inl (l4, l5, M) → q_W K 6 Q 0 0 M 15 [some (.ref l0), some (.int l1), some (.int l2), some (.int l3), some (.int l4), some (.int l5)] []) (kE0 : ∀ (l4 : Int32) (M : q_Mem), stp = .inr (l4, M) → q_W K 6 Q 0 0 M 117 [some (.ref l0), some (.int l1), some (.int l2), some (.int l3), some (.int l4), none] []) : q_W K 6 Q 0 0 M 15 [some (.ref l0), some (.int l1), some (.int l2), some (.int l3), some (.int l4), some (.int l5)] [] := by
  unfold B_X12_liked_15 at h
  refine q_iload C dX12_liked_15 rfl ?_
  refine q_aload_n C dX12_liked_17 rfl ?_
  refine x_getI (ci := 12) (j := 45) C dX12_liked_18 lkF_X12_290 rfl h (fun v1 h => ?_)
  refine q_icmp_ge (tgt := 117) C dX12_liked_21 (by decide) h (fun _ h => ?_) (fun _ h => ?_)
  · refine q_iload C dX12_liked_24 rfl ?_
    refine q_if_eq (tgt := 117) C dX12_liked_26 (by decide) h (fun _ h => ?_) (fun _ h => ?_)
    · exact q_msk [true, true, true, true, true, false] (kE0 _ _ (Option.some.inj h).symm)
    · refine q_aload_n C dX12_liked_29 rfl ?_
      refine x_getR (ci := 12) (j := 44) C dX12_liked_30 lkF_X12_80 rfl h (fun c2 h => ?_)
      refine x_nn h (fun r3 h => ?_)
      refine x_iconst (v := (5 : Int32)) C dX12_liked_33 (by decide) ?_
      refine q_iload C dX12_liked_34 rfl ?_
      refine q_imul C dX12_liked_36 ?_
      refine x_iald C dX12_liked_37 h (fun v4 h => ?_)
      refine q_iload_n C dX12_liked_38 rfl ?_
      refine q_icmp_ne (tgt := 111) C dX12_liked_39 (by decide) h (fun _ h => ?_) (fun _ h => ?_)
      · refine q_aload_n C dX12_liked_42 rfl ?_
        refine q_iload_n C dX12_liked_43 rfl ?_
        refine q_iload_n C dX12_liked_44 rfl ?_
        refine q_aload_n C dX12_liked_45 rfl ?_
        refine x_getR (ci := 12) (j := 44) C dX12_liked_46 lkF_X12_80 rfl h (fun c5 h => ?_)
        refine x_nn h (fun r6 h => ?_)
        refine x_iconst (v := (5 : Int32)) C dX12_liked_49 (by decide) ?_
        refine q_iload C dX12_liked_50 rfl ?_
        refine q_imul C dX12_liked_52 ?_
        refine x_iconst (v := (1 : Int32)) C dX12_liked_53 (by decide) ?_
        refine q_iadd C dX12_liked_54 ?_
        refine x_iald C dX12_liked_55 h (fun v7 h => ?_)
        refine q_aload_n C dX12_liked_56 rfl ?_
        refine x_getR (ci := 12) (j := 44) C dX12_liked_57 lkF_X12_80 rfl h (fun c8 h => ?_)
        refine x_nn h (fun r9 h => ?_)
        refine x_iconst (v := (5 : Int32)) C dX12_liked_60 (by decide) ?_
        refine q_iload C dX12_liked_61 rfl ?_
        refine q_imul C dX12_liked_63 ?_
        refine x_iconst (v := (2 : Int32)) C dX12_liked_64 (by decide) ?_
        refine q_iadd C dX12_liked_65 ?_
        refine x_iald C dX12_liked_66 h (fun v10 h => ?_)
        refine q_aload_n C dX12_liked_67 rfl ?_
        refine x_getR (ci := 12) (j := 44) C dX12_liked_68 lkF_X12_80 rfl h (fun c11 h => ?_)
        refine x_nn h (fun r12 h => ?_)
        refine x_iconst (v := (5 : Int32)) C dX12_liked_71 (by decide) ?_
        refine q_iload C dX12_liked_72 rfl ?_
        refine q_imul C dX12_liked_74 ?_
        refine x_iconst (v := (3 : Int32)) C dX12_liked_75 (by decide) ?_
        refine q_iadd C dX12_liked_76 ?_
        refine x_iald C dX12_liked_77 h (fun v13 h => ?_)
        obtain ⟨hk, h⟩ := q_obE h
        obtain ⟨⟨u14, M15⟩, e1, h⟩ := q_bind h
        refine x_callV C dX12_liked_78 lkM_X12_430 mV_X12_hasJoy ⟨_, rfl, rfl⟩ hk (c_X12_hasJoy _ _ _ _ _ _ _ _ _ e1) rfl rfl (Nat.le_of_ble_eq_true rfl) (by decide) (by decide) ?_
        refine q_aload_n C dX12_liked_81 rfl ?_
        refine x_getR (ci := 12) (j := 44) C dX12_liked_82 lkF_X12_80 rfl h (fun c16 h => ?_)
        refine x_nn h (fun r17 h => ?_)
        refine x_iconst (v := (5 : Int32)) C dX12_liked_85 (by decide) ?_
        refine q_iload C dX12_liked_86 rfl ?_
        refine q_imul C dX12_liked_88 ?_
        refine x_iconst (v := (4 : Int32)) C dX12_liked_89 (by decide) ?_
        refine q_iadd C dX12_liked_90 ?_
        refine x_iald C dX12_liked_91 h (fun v18 h => ?_)
        refine x_iconst (v := (1 : Int32)) C dX12_liked_92 (by decide) ?_
        refine q_icmp_ne (tgt := 100) C dX12_liked_93 (by decide) h (fun _ h => ?_) (fun _ h => ?_)
        · refine x_iconst (v := (1 : Int32)) C dX12_liked_96 (by decide) ?_
          refine q_goto (tgt := 101) C dX12_liked_97 (by decide) ?_
          exact q_msk [true, true, true, true, false, true] (jW_X12_liked_101_15 C l0 l1 l2 l3 l5 u14 (1 : Int32) M15 h kC kE0)
        · refine x_iconst (v := (0 : Int32)) C dX12_liked_100 (by decide) ?_
          exact q_msk [true, true, true, true, false, true] (jW_X12_liked_101_15 C l0 l1 l2 l3 l5 u14 (0 : Int32) M15 h kC kE0)
      · exact q_msk [true, true, true, true, true, true] (jW_X12_liked_111_15 C l0 l1 l2 l3 l4 l5 M h kC kE0)
  · exact q_msk [true, true, true, true, true, false] (kE0 _ _ (Option.some.inj h).symm)
set_option maxRecDepth 100000 in
set_option maxHeartbeats 4000000 in
theorem lW_X12_liked_15 {K : q_K} {Q : State → Prop} (C : q_C K yX12_liked cX12_liked 6 (Option.some Jvm.ClassFile.FieldType.int) 135 2 0) (l0 : Nat) (l1 : Int32) (l2 : Int32) (l3 : Int32) (n : Nat) : ∀ (l4 : Int32) (l5 : Int32) (M : q_Mem) (e : (Int32 × q_Mem)), q_lp (fun s => B_X12_liked_15 l0 l1 l2 l3 s.1 s.2.1 s.2.2) n (l4, l5, M) = some e → (∀ (l4 : Int32) (M : q_Mem), e = (l4, M) → q_W K 6 Q 0 0 M 117 [some (.ref l0), some (.int l1), some (.int l2), some (.int l3), some (.int l4), none] []) → q_W K 6 Q 0 0 M 15 [some (.ref l0), some (.int l1), some (.int l2), some (.int l3), some (.int l4), some (.int l5)] [] := by
  induction n with
  | zero => intro l4 l5 M e h; cases h
  | succ n ih =>
    intro l4 l5 M e h kE0
    obtain ⟨stp, e1, e2⟩ := q_bind h
    refine bW_X12_liked_15 C l0 l1 l2 l3 l4 l5 M e1 (fun a0 a1 a2 hs => ?_) (fun b0 b1 hs => ?_)
    · subst hs; exact ih _ _ _ _ e2 kE0
    · subst hs; exact kE0 _ _ (Option.some.inj e2).symm
noncomputable def J_X12_liked_130_4 (l0 : Nat) (l1 : Int32) (l3 : Int32) (s0 : Int32) (s1 : Int32) (M : q_Mem) : Option ((Int32 × Int32 × q_Mem) ⊕ (Int32 × q_Mem)) := some (.inl ((s0 ||| s1), (l3 + (1 : Int32)), M))
set_option maxRecDepth 100000 in
set_option maxHeartbeats 4000000 in
theorem jW_X12_liked_130_4 {K : q_K} {Q : State → Prop} (C : q_C K yX12_liked cX12_liked 6 (Option.some Jvm.ClassFile.FieldType.int) 135 2 0) (l0 : Nat) (l1 : Int32) (l3 : Int32) (s0 : Int32) (s1 : Int32) (M : q_Mem) {stp : (Int32 × Int32 × q_Mem) ⊕ (Int32 × q_Mem)} (h : J_X12_liked_130_4 l0 l1 l3 s0 s1 M = some stp) (kC : ∀ (l2 : Int32) (l3 : Int32) (M : q_Mem), stp = .inl (l2, l3, M) → q_W K 6 Q 0 0 M 4 [some (.ref l0), some (.int l1), some (.int l2), some (.int l3), none, none] []) (kE0 : ∀ (l2 : Int32) (M : q_Mem), stp = .inr (l2, M) → q_W K 6 Q 0 0 M 138 [none, none, some (.int l2), none, none, none] []) : q_W K 6 Q 0 0 M 130 [some (.ref l0), some (.int l1), none, some (.int l3), none, none] [.int s1, .int s0] := by
  unfold J_X12_liked_130_4 at h
  refine q_ior C dX12_liked_130 ?_
  refine q_istore_n (L' := [some (.ref l0), some (.int l1), some (.int (s0 ||| s1)), some (.int l3), none, none]) C dX12_liked_131 (by decide) rfl rfl ?_
  refine x_iinc (w := (1 : Int32)) (L' := [some (.ref l0), some (.int l1), some (.int (s0 ||| s1)), some (.int (l3 + (1 : Int32))), none, none]) C dX12_liked_132 rfl (by decide) (by decide) rfl rfl ?_
  refine q_goto (tgt := 4) C dX12_liked_135 (by decide) ?_
  exact q_msk [true, true, true, true, false, false] (kC _ _ _ (Option.some.inj h).symm)
noncomputable def B_X12_liked_4 (l0 : Nat) (l1 : Int32) (l2 : Int32) (l3 : Int32) (M : q_Mem) : Option ((Int32 × Int32 × q_Mem) ⊕ (Int32 × q_Mem)) := (if l3 < (4 : Int32) then (q_lp (fun s => B_X12_liked_15 l0 l1 l2 l3 s.1 s.2.1 s.2.2) q_fu ((1 : Int32), (0 : Int32), M)).bind (fun e19 => match e19 with | (w20, M21) => (if w20 = 0 then J_X12_liked_130_4 l0 l1 l3 l2 (0 : Int32) M21 else J_X12_liked_130_4 l0 l1 l3 l2 ((1 : Int32) <<< (l3 &&& 31)) M21)) else some (.inr (l2, M)))
set_option maxRecDepth 100000 in
set_option maxHeartbeats 4000000 in
theorem bW_X12_liked_4 {K : q_K} {Q : State → Prop} (C : q_C K yX12_liked cX12_liked 6 (Option.some Jvm.ClassFile.FieldType.int) 135 2 0) (l0 : Nat) (l1 : Int32) (l2 : Int32) (l3 : Int32) (M : q_Mem) {stp : (Int32 × Int32 × q_Mem) ⊕ (Int32 × q_Mem)} (h : B_X12_liked_4 l0 l1 l2 l3 M = some stp) (kC : ∀ (l2 : Int32) (l3 : Int32) (M : q_Mem), stp = .inl (l2, l3, M) → q_W K 6 Q 0 0 M 4 [some (.ref l0), some (.int l1), some (.int l2), some (.int l3), none, none] []) (kE0 : ∀ (l2 : Int32) (M : q_Mem), stp = .inr (l2, M) → q_W K 6 Q 0 0 M 138 [none, none, some (.int l2), none, none, none] []) : q_W K 6 Q 0 0 M 4 [some (.ref l0), some (.int l1), some (.int l2), some (.int l3), none, none] [] := by
  unfold B_X12_liked_4 at h
  refine q_iload_n C dX12_liked_4 rfl ?_
  refine x_iconst (v := (4 : Int32)) C dX12_liked_5 (by decide) ?_
  refine q_icmp_ge (tgt := 138) C dX12_liked_6 (by decide) h (fun _ h => ?_) (fun _ h => ?_)
  · refine x_iconst (v := (1 : Int32)) C dX12_liked_9 (by decide) ?_
    refine q_istore (L' := [some (.ref l0), some (.int l1), some (.int l2), some (.int l3), some (.int (1 : Int32)), none]) C dX12_liked_10 (by decide) rfl rfl ?_
    refine x_iconst (v := (0 : Int32)) C dX12_liked_12 (by decide) ?_
    refine q_istore (L' := [some (.ref l0), some (.int l1), some (.int l2), some (.int l3), some (.int (1 : Int32)), some (.int (0 : Int32))]) C dX12_liked_13 (by decide) rfl rfl ?_
    obtain ⟨e19, he, h⟩ := q_bind h
    refine q_msk [true, true, true, true, true, true] (lW_X12_liked_15 C l0 l1 l2 l3 q_fu _ _ _ _ he (fun w20 M21 hs => ?_))
    · have hs := hs.symm
      subst hs
      refine q_iload_n C dX12_liked_117 rfl ?_
      refine q_iload C dX12_liked_118 rfl ?_
      refine q_if_eq (tgt := 129) C dX12_liked_120 (by decide) h (fun _ h => ?_) (fun _ h => ?_)
      · refine x_iconst (v := (0 : Int32)) C dX12_liked_129 (by decide) ?_
        exact q_msk [true, true, false, true, false, false] (jW_X12_liked_130_4 C l0 l1 l3 l2 (0 : Int32) M21 h kC kE0)
      · refine x_iconst (v := (1 : Int32)) C dX12_liked_123 (by decide) ?_
        refine q_iload_n C dX12_liked_124 rfl ?_
        refine q_ishl C dX12_liked_125 ?_
        refine q_goto (tgt := 130) C dX12_liked_126 (by decide) ?_
        exact q_msk [true, true, false, true, false, false] (jW_X12_liked_130_4 C l0 l1 l3 l2 ((1 : Int32) <<< (l3 &&& 31)) M21 h kC kE0)
  · exact q_msk [false, false, true, false, false, false] (kE0 _ _ (Option.some.inj h).symm)
set_option maxRecDepth 100000 in
set_option maxHeartbeats 4000000 in
theorem lW_X12_liked_4 {K : q_K} {Q : State → Prop} (C : q_C K yX12_liked cX12_liked 6 (Option.some Jvm.ClassFile.FieldType.int) 135 2 0) (l0 : Nat) (l1 : Int32) (n : Nat) : ∀ (l2 : Int32) (l3 : Int32) (M : q_Mem) (e : (Int32 × q_Mem)), q_lp (fun s => B_X12_liked_4 l0 l1 s.1 s.2.1 s.2.2) n (l2, l3, M) = some e → (∀ (l2 : Int32) (M : q_Mem), e = (l2, M) → q_W K 6 Q 0 0 M 138 [none, none, some (.int l2), none, none, none] []) → q_W K 6 Q 0 0 M 4 [some (.ref l0), some (.int l1), some (.int l2), some (.int l3), none, none] [] := by
  induction n with
  | zero => intro l2 l3 M e h; cases h
  | succ n ih =>
    intro l2 l3 M e h kE0
    obtain ⟨stp, e1, e2⟩ := q_bind h
    refine bW_X12_liked_4 C l0 l1 l2 l3 M e1 (fun a0 a1 a2 hs => ?_) (fun b0 b1 hs => ?_)
    · subst hs; exact ih _ _ _ _ e2 kE0
    · subst hs; exact kE0 _ _ (Option.some.inj e2).symm
noncomputable def F_X12_liked (l0 : Nat) (l1 : Int32) (M : q_Mem) : Option (Int32 × q_Mem) := (q_lp (fun s => B_X12_liked_4 l0 l1 s.1 s.2.1 s.2.2) q_fu ((0 : Int32), (0 : Int32), M)).bind (fun e22 => match e22 with | (w23, M24) => some (w23, M24))
set_option maxRecDepth 100000 in
set_option maxHeartbeats 4000000 in
theorem c_X12_liked (l : Launch) (G : q_G) (l0 : Nat) (l1 : Int32) (M : q_Mem) {r : Int32} {M' : q_Mem} (h : F_X12_liked l0 l1 M = some (r, M')) : q_Met l G yX12_liked cX12_liked 6 (Option.some Jvm.ClassFile.FieldType.int) 135 2 0 [.ref l0, .int l1] M (some (.int r)) M' := by
  unfold F_X12_liked at h
  refine q_enter [some (.ref l0), some (.int l1), none, none, none, none] (by decide) (Nat.le_of_ble_eq_true rfl) rfl (fun K C => ?_)
  refine x_iconst (v := (0 : Int32)) C dX12_liked_0 (by decide) ?_
  refine q_istore_n (L' := [some (.ref l0), some (.int l1), some (.int (0 : Int32)), none, none, none]) C dX12_liked_1 (by decide) rfl rfl ?_
  refine x_iconst (v := (0 : Int32)) C dX12_liked_2 (by decide) ?_
  refine q_istore_n (L' := [some (.ref l0), some (.int l1), some (.int (0 : Int32)), some (.int (0 : Int32)), none, none]) C dX12_liked_3 (by decide) rfl rfl ?_
  obtain ⟨e22, he, h⟩ := q_bind h
  refine q_msk [true, true, true, true, false, false] (lW_X12_liked_4 C l0 l1 q_fu _ _ _ _ he (fun w23 M24 hs => ?_))
  · have hs := hs.symm
    subst hs
    refine q_iload_n C dX12_liked_138 rfl ?_
    exact q_iret C dX12_liked_139 rfl (by decide) (by decide) (Option.some.inj h)
noncomputable def F_X12_likes (l0 : Nat) (l1 : Int32) (M : q_Mem) : Option (Int32 × q_Mem) := (q_pI M l0 12 0 (0 : Int32) (fun M1 => (q_ob M1 l0 12 ((F_X12_isGuest l0 l1 M1).bind (fun u2 => (if u2 = 0 then some ((-1 : Int32), M1) else (q_ob M1 l0 12 ((F_X12_liked l0 l1 M1).bind (fun x => match x with | (u3, M4) => some (u3, M4))))))))))
set_option maxRecDepth 100000 in
set_option maxHeartbeats 4000000 in
theorem c_X12_likes (l : Launch) (G : q_G) (l0 : Nat) (l1 : Int32) (M : q_Mem) {r : Int32} {M' : q_Mem} (h : F_X12_likes l0 l1 M = some (r, M')) : q_Met l G yX12_likes cX12_likes 2 (Option.some Jvm.ClassFile.FieldType.int) 136 2 0 [.ref l0, .int l1] M (some (.int r)) M' := by
  unfold F_X12_likes at h
  refine q_enter [some (.ref l0), some (.int l1)] (by decide) (Nat.le_of_ble_eq_true rfl) rfl (fun K C => ?_)
  refine q_aload_n C dX12_likes_0 rfl ?_
  refine x_iconst (v := (0 : Int32)) C dX12_likes_1 (by decide) ?_
  refine x_putI (ci := 12) (j := 0) C dX12_likes_2 lkF_X12_92 (fun r hr => by cases hr; rfl) rfl h (fun M1 h => ?_)
  refine q_aload_n C dX12_likes_5 rfl ?_
  refine q_iload_n C dX12_likes_6 rfl ?_
  obtain ⟨hk, h⟩ := q_obE h
  obtain ⟨u2, e1, h⟩ := q_bind h
  refine x_callV0 C dX12_likes_7 lkM_X12_360 mV_X12_isGuest ⟨_, rfl, rfl⟩ hk (c_X12_isGuest _ _ _ _ _ e1) rfl rfl (Nat.le_of_ble_eq_true rfl) (by decide) (by decide) ?_
  refine q_if_eq (tgt := 21) C dX12_likes_10 (by decide) h (fun _ h => ?_) (fun _ h => ?_)
  · refine x_iconst (v := (-1 : Int32)) C dX12_likes_21 (by decide) ?_
    exact q_iret C dX12_likes_22 rfl (by decide) (by decide) (Option.some.inj h)
  · refine q_aload_n C dX12_likes_13 rfl ?_
    refine q_iload_n C dX12_likes_14 rfl ?_
    obtain ⟨hk, h⟩ := q_obE h
    obtain ⟨⟨u3, M4⟩, e1, h⟩ := q_bind h
    refine x_callV C dX12_likes_15 lkM_X12_434 mV_X12_liked ⟨_, rfl, rfl⟩ hk (c_X12_liked _ _ _ _ _ e1) rfl rfl (Nat.le_of_ble_eq_true rfl) (by decide) (by decide) ?_
    refine q_goto (tgt := 22) C dX12_likes_18 (by decide) ?_
    exact q_iret C dX12_likes_22 rfl (by decide) (by decide) (Option.some.inj h)
noncomputable def J_X12_probe_119_79 (l0 : Nat) (l1 : Int32) (l2 : Int32) (l3 : Int32) (l4 : Int32) (l5 : Int32) (l6 : Int32) (l7 : Int32) (l8 : Int32) (l9 : Int32) (M : q_Mem) : Option ((Int32 × Int32 × q_Mem) ⊕ (Int32 × q_Mem)) := some (.inl (l8, (l9 + (1 : Int32)), M))
set_option maxRecDepth 100000 in
set_option maxHeartbeats 4000000 in
theorem jW_X12_probe_119_79 {K : q_K} {Q : State → Prop} (C : q_C K yX12_probe cX12_probe 10 (Option.some Jvm.ClassFile.FieldType.int) 136 4 0) (l0 : Nat) (l1 : Int32) (l2 : Int32) (l3 : Int32) (l4 : Int32) (l5 : Int32) (l6 : Int32) (l7 : Int32) (l8 : Int32) (l9 : Int32) (M : q_Mem) {stp : (Int32 × Int32 × q_Mem) ⊕ (Int32 × q_Mem)} (h : J_X12_probe_119_79 l0 l1 l2 l3 l4 l5 l6 l7 l8 l9 M = some stp) (kC : ∀ (l8 : Int32) (l9 : Int32) (M : q_Mem), stp = .inl (l8, l9, M) → q_W K 10 Q 0 0 M 79 [some (.ref l0), some (.int l1), some (.int l2), some (.int l3), some (.int l4), some (.int l5), some (.int l6), some (.int l7), some (.int l8), some (.int l9)] []) (kE0 : ∀ (l8 : Int32) (M : q_Mem), stp = .inr (l8, M) → q_W K 10 Q 0 0 M 125 [some (.ref l0), some (.int l1), some (.int l2), some (.int l3), some (.int l4), some (.int l5), some (.int l6), some (.int l7), some (.int l8), none] []) : q_W K 10 Q 0 0 M 119 [some (.ref l0), some (.int l1), some (.int l2), some (.int l3), some (.int l4), some (.int l5), some (.int l6), some (.int l7), some (.int l8), some (.int l9)] [] := by
  unfold J_X12_probe_119_79 at h
  refine x_iinc (w := (1 : Int32)) (L' := [some (.ref l0), some (.int l1), some (.int l2), some (.int l3), some (.int l4), some (.int l5), some (.int l6), some (.int l7), some (.int l8), some (.int (l9 + (1 : Int32)))]) C dX12_probe_119 rfl (by decide) (by decide) rfl rfl ?_
  refine q_goto (tgt := 79) C dX12_probe_122 (by decide) ?_
  exact q_msk [true, true, true, true, true, true, true, true, true, true] (kC _ _ _ (Option.some.inj h).symm)
noncomputable def J_X12_probe_116_79 (l0 : Nat) (l1 : Int32) (l2 : Int32) (l3 : Int32) (l4 : Int32) (l5 : Int32) (l6 : Int32) (l7 : Int32) (l9 : Int32) (s0 : Int32) (s1 : Int32) (M : q_Mem) : Option ((Int32 × Int32 × q_Mem) ⊕ (Int32 × q_Mem)) := J_X12_probe_119_79 l0 l1 l2 l3 l4 l5 l6 l7 (s0 + s1) l9 M
set_option maxRecDepth 100000 in
set_option maxHeartbeats 4000000 in
theorem jW_X12_probe_116_79 {K : q_K} {Q : State → Prop} (C : q_C K yX12_probe cX12_probe 10 (Option.some Jvm.ClassFile.FieldType.int) 136 4 0) (l0 : Nat) (l1 : Int32) (l2 : Int32) (l3 : Int32) (l4 : Int32) (l5 : Int32) (l6 : Int32) (l7 : Int32) (l9 : Int32) (s0 : Int32) (s1 : Int32) (M : q_Mem) {stp : (Int32 × Int32 × q_Mem) ⊕ (Int32 × q_Mem)} (h : J_X12_probe_116_79 l0 l1 l2 l3 l4 l5 l6 l7 l9 s0 s1 M = some stp) (kC : ∀ (l8 : Int32) (l9 : Int32) (M : q_Mem), stp = .inl (l8, l9, M) → q_W K 10 Q 0 0 M 79 [some (.ref l0), some (.int l1), some (.int l2), some (.int l3), some (.int l4), some (.int l5), some (.int l6), some (.int l7), some (.int l8), some (.int l9)] []) (kE0 : ∀ (l8 : Int32) (M : q_Mem), stp = .inr (l8, M) → q_W K 10 Q 0 0 M 125 [some (.ref l0), some (.int l1), some (.int l2), some (.int l3), some (.int l4), some (.int l5), some (.int l6), some (.int l7), some (.int l8), none] []) : q_W K 10 Q 0 0 M 116 [some (.ref l0), some (.int l1), some (.int l2), some (.int l3), some (.int l4), some (.int l5), some (.int l6), some (.int l7), none, some (.int l9)] [.int s1, .int s0] := by
  unfold J_X12_probe_116_79 at h
  refine q_iadd C dX12_probe_116 ?_
  refine q_istore (L' := [some (.ref l0), some (.int l1), some (.int l2), some (.int l3), some (.int l4), some (.int l5), some (.int l6), some (.int l7), some (.int (s0 + s1)), some (.int l9)]) C dX12_probe_117 (by decide) rfl rfl ?_
  exact q_msk [true, true, true, true, true, true, true, true, true, true] (jW_X12_probe_119_79 C l0 l1 l2 l3 l4 l5 l6 l7 (s0 + s1) l9 M h kC kE0)
noncomputable def B_X12_probe_79 (l0 : Nat) (l1 : Int32) (l2 : Int32) (l3 : Int32) (l4 : Int32) (l5 : Int32) (l6 : Int32) (l7 : Int32) (l8 : Int32) (l9 : Int32) (M : q_Mem) : Option ((Int32 × Int32 × q_Mem) ⊕ (Int32 × q_Mem)) := (if l9 < (4 : Int32) then ((F_X12_has l4 l9 M).bind (fun u8 => (if u8 = 0 then J_X12_probe_119_79 l0 l1 l2 l3 l4 l5 l6 l7 l8 l9 M else (q_ob M l0 12 ((F_X12_hasJoy l0 l1 l9 l7 l2 l3 M).bind (fun x => match x with | (u9, M10) => (if u9 = 0 then J_X12_probe_116_79 l0 l1 l2 l3 l4 l5 l6 l7 l9 l8 (-1 : Int32) M10 else J_X12_probe_116_79 l0 l1 l2 l3 l4 l5 l6 l7 l9 l8 (1 : Int32) M10))))))) else some (.inr (l8, M)))
set_option maxRecDepth 100000 in
set_option maxHeartbeats 4000000 in
theorem bW_X12_probe_79 {K : q_K} {Q : State → Prop} (C : q_C K yX12_probe cX12_probe 10 (Option.some Jvm.ClassFile.FieldType.int) 136 4 0) (l0 : Nat) (l1 : Int32) (l2 : Int32) (l3 : Int32) (l4 : Int32) (l5 : Int32) (l6 : Int32) (l7 : Int32) (l8 : Int32) (l9 : Int32) (M : q_Mem) {stp : (Int32 × Int32 × q_Mem) ⊕ (Int32 × q_Mem)} (h : B_X12_probe_79 l0 l1 l2 l3 l4 l5 l6 l7 l8 l9 M = some stp) (kC : ∀ (l8 : Int32) (l9 : Int32) (M : q_Mem), stp = .inl (l8, l9, M) → q_W K 10 Q 0 0 M 79 [some (.ref l0), some (.int l1), some (.int l2), some (.int l3), some (.int l4), some (.int l5), some (.int l6), some (.int l7), some (.int l8), some (.int l9)] []) (kE0 : ∀ (l8 : Int32) (M : q_Mem), stp = .inr (l8, M) → q_W K 10 Q 0 0 M 125 [some (.ref l0), some (.int l1), some (.int l2), some (.int l3), some (.int l4), some (.int l5), some (.int l6), some (.int l7), some (.int l8), none] []) : q_W K 10 Q 0 0 M 79 [some (.ref l0), some (.int l1), some (.int l2), some (.int l3), some (.int l4), some (.int l5), some (.int l6), some (.int l7), some (.int l8), some (.int l9)] [] := by
  unfold B_X12_probe_79 at h
  refine q_iload C dX12_probe_79 rfl ?_
  refine x_iconst (v := (4 : Int32)) C dX12_probe_81 (by decide) ?_
  refine q_icmp_ge (tgt := 125) C dX12_probe_82 (by decide) h (fun _ h => ?_) (fun _ h => ?_)
  · refine q_iload C dX12_probe_85 rfl ?_
    refine q_iload C dX12_probe_87 rfl ?_
    obtain ⟨u8, e1, h⟩ := q_bind h
    refine x_callS0 C dX12_probe_89 lkM_X12_225 mS_X12_has (c_X12_has _ _ _ _ _ e1) rfl rfl (Nat.le_of_ble_eq_true rfl) (by decide) (by decide) ?_
    refine q_if_eq (tgt := 119) C dX12_probe_92 (by decide) h (fun _ h => ?_) (fun _ h => ?_)
    · exact q_msk [true, true, true, true, true, true, true, true, true, true] (jW_X12_probe_119_79 C l0 l1 l2 l3 l4 l5 l6 l7 l8 l9 M h kC kE0)
    · refine q_iload C dX12_probe_95 rfl ?_
      refine q_aload_n C dX12_probe_97 rfl ?_
      refine q_iload_n C dX12_probe_98 rfl ?_
      refine q_iload C dX12_probe_99 rfl ?_
      refine q_iload C dX12_probe_101 rfl ?_
      refine q_iload_n C dX12_probe_103 rfl ?_
      refine q_iload_n C dX12_probe_104 rfl ?_
      obtain ⟨hk, h⟩ := q_obE h
      obtain ⟨⟨u9, M10⟩, e1, h⟩ := q_bind h
      refine x_callV C dX12_probe_105 lkM_X12_430 mV_X12_hasJoy ⟨_, rfl, rfl⟩ hk (c_X12_hasJoy _ _ _ _ _ _ _ _ _ e1) rfl rfl (Nat.le_of_ble_eq_true rfl) (by decide) (by decide) ?_
      refine q_if_eq (tgt := 115) C dX12_probe_108 (by decide) h (fun _ h => ?_) (fun _ h => ?_)
      · refine x_iconst (v := (-1 : Int32)) C dX12_probe_115 (by decide) ?_
        exact q_msk [true, true, true, true, true, true, true, true, false, true] (jW_X12_probe_116_79 C l0 l1 l2 l3 l4 l5 l6 l7 l9 l8 (-1 : Int32) M10 h kC kE0)
      · refine x_iconst (v := (1 : Int32)) C dX12_probe_111 (by decide) ?_
        refine q_goto (tgt := 116) C dX12_probe_112 (by decide) ?_
        exact q_msk [true, true, true, true, true, true, true, true, false, true] (jW_X12_probe_116_79 C l0 l1 l2 l3 l4 l5 l6 l7 l9 l8 (1 : Int32) M10 h kC kE0)
  · exact q_msk [true, true, true, true, true, true, true, true, true, false] (kE0 _ _ (Option.some.inj h).symm)
set_option maxRecDepth 100000 in
set_option maxHeartbeats 4000000 in
theorem lW_X12_probe_79 {K : q_K} {Q : State → Prop} (C : q_C K yX12_probe cX12_probe 10 (Option.some Jvm.ClassFile.FieldType.int) 136 4 0) (l0 : Nat) (l1 : Int32) (l2 : Int32) (l3 : Int32) (l4 : Int32) (l5 : Int32) (l6 : Int32) (l7 : Int32) (n : Nat) : ∀ (l8 : Int32) (l9 : Int32) (M : q_Mem) (e : (Int32 × q_Mem)), q_lp (fun s => B_X12_probe_79 l0 l1 l2 l3 l4 l5 l6 l7 s.1 s.2.1 s.2.2) n (l8, l9, M) = some e → (∀ (l8 : Int32) (M : q_Mem), e = (l8, M) → q_W K 10 Q 0 0 M 125 [some (.ref l0), some (.int l1), some (.int l2), some (.int l3), some (.int l4), some (.int l5), some (.int l6), some (.int l7), some (.int l8), none] []) → q_W K 10 Q 0 0 M 79 [some (.ref l0), some (.int l1), some (.int l2), some (.int l3), some (.int l4), some (.int l5), some (.int l6), some (.int l7), some (.int l8), some (.int l9)] [] := by
  induction n with
  | zero => intro l8 l9 M e h; cases h
  | succ n ih =>
    intro l8 l9 M e h kE0
    obtain ⟨stp, e1, e2⟩ := q_bind h
    refine bW_X12_probe_79 C l0 l1 l2 l3 l4 l5 l6 l7 l8 l9 M e1 (fun a0 a1 a2 hs => ?_) (fun b0 b1 hs => ?_)
    · subst hs; exact ih _ _ _ _ e2 kE0
    · subst hs; exact kE0 _ _ (Option.some.inj e2).symm
noncomputable def J_X12_probe_156_64 (l0 : Nat) (l1 : Int32) (l2 : Int32) (l3 : Int32) (l4 : Int32) (l5 : Int32) (l6 : Int32) (l7 : Int32) (M : q_Mem) : Option ((Int32 × Int32 × Int32 × q_Mem) ⊕ (Int32 × q_Mem)) := some (.inl (l5, l6, (l7 + (1 : Int32)), M))
set_option maxRecDepth 100000 in
set_option maxHeartbeats 4000000 in
theorem jW_X12_probe_156_64 {K : q_K} {Q : State → Prop} (C : q_C K yX12_probe cX12_probe 10 (Option.some Jvm.ClassFile.FieldType.int) 136 4 0) (l0 : Nat) (l1 : Int32) (l2 : Int32) (l3 : Int32) (l4 : Int32) (l5 : Int32) (l6 : Int32) (l7 : Int32) (M : q_Mem) {stp : (Int32 × Int32 × Int32 × q_Mem) ⊕ (Int32 × q_Mem)} (h : J_X12_probe_156_64 l0 l1 l2 l3 l4 l5 l6 l7 M = some stp) (kC : ∀ (l5 : Int32) (l6 : Int32) (l7 : Int32) (M : q_Mem), stp = .inl (l5, l6, l7, M) → q_W K 10 Q 0 0 M 64 [some (.ref l0), some (.int l1), some (.int l2), some (.int l3), some (.int l4), some (.int l5), some (.int l6), some (.int l7), none, none] []) (kE0 : ∀ (l5 : Int32) (M : q_Mem), stp = .inr (l5, M) → q_W K 10 Q 0 0 M 162 [none, none, none, none, none, some (.int l5), none, none, none, none] []) : q_W K 10 Q 0 0 M 156 [some (.ref l0), some (.int l1), some (.int l2), some (.int l3), some (.int l4), some (.int l5), some (.int l6), some (.int l7), none, none] [] := by
  unfold J_X12_probe_156_64 at h
  refine x_iinc (w := (1 : Int32)) (L' := [some (.ref l0), some (.int l1), some (.int l2), some (.int l3), some (.int l4), some (.int l5), some (.int l6), some (.int (l7 + (1 : Int32))), none, none]) C dX12_probe_156 rfl (by decide) (by decide) rfl rfl ?_
  refine q_goto (tgt := 64) C dX12_probe_159 (by decide) ?_
  exact q_msk [true, true, true, true, true, true, true, true, false, false] (kC _ _ _ _ (Option.some.inj h).symm)
noncomputable def J_X12_probe_148_64 (l0 : Nat) (l1 : Int32) (l2 : Int32) (l3 : Int32) (l4 : Int32) (l7 : Int32) (l8 : Int32) (M : q_Mem) : Option ((Int32 × Int32 × Int32 × q_Mem) ⊕ (Int32 × q_Mem)) := J_X12_probe_156_64 l0 l1 l2 l3 l4 l7 l8 l7 M
set_option maxRecDepth 100000 in
set_option maxHeartbeats 4000000 in
theorem jW_X12_probe_148_64 {K : q_K} {Q : State → Prop} (C : q_C K yX12_probe cX12_probe 10 (Option.some Jvm.ClassFile.FieldType.int) 136 4 0) (l0 : Nat) (l1 : Int32) (l2 : Int32) (l3 : Int32) (l4 : Int32) (l7 : Int32) (l8 : Int32) (M : q_Mem) {stp : (Int32 × Int32 × Int32 × q_Mem) ⊕ (Int32 × q_Mem)} (h : J_X12_probe_148_64 l0 l1 l2 l3 l4 l7 l8 M = some stp) (kC : ∀ (l5 : Int32) (l6 : Int32) (l7 : Int32) (M : q_Mem), stp = .inl (l5, l6, l7, M) → q_W K 10 Q 0 0 M 64 [some (.ref l0), some (.int l1), some (.int l2), some (.int l3), some (.int l4), some (.int l5), some (.int l6), some (.int l7), none, none] []) (kE0 : ∀ (l5 : Int32) (M : q_Mem), stp = .inr (l5, M) → q_W K 10 Q 0 0 M 162 [none, none, none, none, none, some (.int l5), none, none, none, none] []) : q_W K 10 Q 0 0 M 148 [some (.ref l0), some (.int l1), some (.int l2), some (.int l3), some (.int l4), none, none, some (.int l7), some (.int l8), none] [] := by
  unfold J_X12_probe_148_64 at h
  refine q_iload C dX12_probe_148 rfl ?_
  refine q_istore (L' := [some (.ref l0), some (.int l1), some (.int l2), some (.int l3), some (.int l4), some (.int l7), none, some (.int l7), some (.int l8), none]) C dX12_probe_150 (by decide) rfl rfl ?_
  refine q_iload C dX12_probe_152 rfl ?_
  refine q_istore (L' := [some (.ref l0), some (.int l1), some (.int l2), some (.int l3), some (.int l4), some (.int l7), some (.int l8), some (.int l7), some (.int l8), none]) C dX12_probe_154 (by decide) rfl rfl ?_
  exact q_msk [true, true, true, true, true, true, true, true, false, false] (jW_X12_probe_156_64 C l0 l1 l2 l3 l4 l7 l8 l7 M h kC kE0)
noncomputable def B_X12_probe_64 (l0 : Nat) (l1 : Int32) (l2 : Int32) (l3 : Int32) (l4 : Int32) (l5 : Int32) (l6 : Int32) (l7 : Int32) (M : q_Mem) : Option ((Int32 × Int32 × Int32 × q_Mem) ⊕ (Int32 × q_Mem)) := (q_gI M l0 12 26 (fun v7 => (if l7 < v7 then (q_lp (fun s => B_X12_probe_79 l0 l1 l2 l3 l4 l5 l6 l7 s.1 s.2.1 s.2.2) q_fu ((0 : Int32), (0 : Int32), M)).bind (fun e11 => match e11 with | (w12, M13) => (if l5 = (-1 : Int32) then J_X12_probe_148_64 l0 l1 l2 l3 l4 l7 (q_ab w12) M13 else (if (q_ab w12) < l6 then J_X12_probe_148_64 l0 l1 l2 l3 l4 l7 (q_ab w12) M13 else J_X12_probe_156_64 l0 l1 l2 l3 l4 l5 l6 l7 M13))) else some (.inr (l5, M)))))
set_option maxRecDepth 100000 in
set_option maxHeartbeats 4000000 in
theorem bW_X12_probe_64 {K : q_K} {Q : State → Prop} (C : q_C K yX12_probe cX12_probe 10 (Option.some Jvm.ClassFile.FieldType.int) 136 4 0) (l0 : Nat) (l1 : Int32) (l2 : Int32) (l3 : Int32) (l4 : Int32) (l5 : Int32) (l6 : Int32) (l7 : Int32) (M : q_Mem) {stp : (Int32 × Int32 × Int32 × q_Mem) ⊕ (Int32 × q_Mem)} (h : B_X12_probe_64 l0 l1 l2 l3 l4 l5 l6 l7 M = some stp) (kC : ∀ (l5 : Int32) (l6 : Int32) (l7 : Int32) (M : q_Mem), stp = .inl (l5, l6, l7, M) → q_W K 10 Q 0 0 M 64 [some (.ref l0), some (.int l1), some (.int l2), some (.int l3), some (.int l4), some (.int l5), some (.int l6), some (.int l7), none, none] []) (kE0 : ∀ (l5 : Int32) (M : q_Mem), stp = .inr (l5, M) → q_W K 10 Q 0 0 M 162 [none, none, none, none, none, some (.int l5), none, none, none, none] []) : q_W K 10 Q 0 0 M 64 [some (.ref l0), some (.int l1), some (.int l2), some (.int l3), some (.int l4), some (.int l5), some (.int l6), some (.int l7), none, none] [] := by
  unfold B_X12_probe_64 at h
  refine q_iload C dX12_probe_64 rfl ?_
  refine q_aload_n C dX12_probe_66 rfl ?_
  refine x_getI (ci := 12) (j := 26) C dX12_probe_67 lkF_X12_284 rfl h (fun v7 h => ?_)
  refine q_icmp_ge (tgt := 162) C dX12_probe_70 (by decide) h (fun _ h => ?_) (fun _ h => ?_)
  · refine x_iconst (v := (0 : Int32)) C dX12_probe_73 (by decide) ?_
    refine q_istore (L' := [some (.ref l0), some (.int l1), some (.int l2), some (.int l3), some (.int l4), some (.int l5), some (.int l6), some (.int l7), some (.int (0 : Int32)), none]) C dX12_probe_74 (by decide) rfl rfl ?_
    refine x_iconst (v := (0 : Int32)) C dX12_probe_76 (by decide) ?_
    refine q_istore (L' := [some (.ref l0), some (.int l1), some (.int l2), some (.int l3), some (.int l4), some (.int l5), some (.int l6), some (.int l7), some (.int (0 : Int32)), some (.int (0 : Int32))]) C dX12_probe_77 (by decide) rfl rfl ?_
    obtain ⟨e11, he, h⟩ := q_bind h
    refine q_msk [true, true, true, true, true, true, true, true, true, true] (lW_X12_probe_79 C l0 l1 l2 l3 l4 l5 l6 l7 q_fu _ _ _ _ he (fun w12 M13 hs => ?_))
    · have hs := hs.symm
      subst hs
      refine q_iload C dX12_probe_125 rfl ?_
      refine q_abs C dX12_probe_127 wd_1752 wd_990 wd_15 wd_991 (by decide) (Nat.le_of_ble_eq_true rfl) (by decide) ?_
      refine q_istore (L' := [some (.ref l0), some (.int l1), some (.int l2), some (.int l3), some (.int l4), some (.int l5), some (.int l6), some (.int l7), some (.int (q_ab w12)), none]) C dX12_probe_130 (by decide) rfl rfl ?_
      refine q_iload C dX12_probe_132 rfl ?_
      refine x_iconst (v := (-1 : Int32)) C dX12_probe_134 (by decide) ?_
      refine q_icmp_eq (tgt := 148) C dX12_probe_135 (by decide) h (fun _ h => ?_) (fun _ h => ?_)
      · exact q_msk [true, true, true, true, true, false, false, true, true, false] (jW_X12_probe_148_64 C l0 l1 l2 l3 l4 l7 (q_ab w12) M13 h kC kE0)
      · refine q_iload C dX12_probe_138 rfl ?_
        refine q_iload C dX12_probe_140 rfl ?_
        refine q_icmp_lt (tgt := 148) C dX12_probe_142 (by decide) h (fun _ h => ?_) (fun _ h => ?_)
        · exact q_msk [true, true, true, true, true, false, false, true, true, false] (jW_X12_probe_148_64 C l0 l1 l2 l3 l4 l7 (q_ab w12) M13 h kC kE0)
        · refine q_goto (tgt := 156) C dX12_probe_145 (by decide) ?_
          exact q_msk [true, true, true, true, true, true, true, true, false, false] (jW_X12_probe_156_64 C l0 l1 l2 l3 l4 l5 l6 l7 M13 h kC kE0)
  · exact q_msk [false, false, false, false, false, true, false, false, false, false] (kE0 _ _ (Option.some.inj h).symm)
set_option maxRecDepth 100000 in
set_option maxHeartbeats 4000000 in
theorem lW_X12_probe_64 {K : q_K} {Q : State → Prop} (C : q_C K yX12_probe cX12_probe 10 (Option.some Jvm.ClassFile.FieldType.int) 136 4 0) (l0 : Nat) (l1 : Int32) (l2 : Int32) (l3 : Int32) (l4 : Int32) (n : Nat) : ∀ (l5 : Int32) (l6 : Int32) (l7 : Int32) (M : q_Mem) (e : (Int32 × q_Mem)), q_lp (fun s => B_X12_probe_64 l0 l1 l2 l3 l4 s.1 s.2.1 s.2.2.1 s.2.2.2) n (l5, l6, l7, M) = some e → (∀ (l5 : Int32) (M : q_Mem), e = (l5, M) → q_W K 10 Q 0 0 M 162 [none, none, none, none, none, some (.int l5), none, none, none, none] []) → q_W K 10 Q 0 0 M 64 [some (.ref l0), some (.int l1), some (.int l2), some (.int l3), some (.int l4), some (.int l5), some (.int l6), some (.int l7), none, none] [] := by
  induction n with
  | zero => intro l5 l6 l7 M e h; cases h
  | succ n ih =>
    intro l5 l6 l7 M e h kE0
    obtain ⟨stp, e1, e2⟩ := q_bind h
    refine bW_X12_probe_64 C l0 l1 l2 l3 l4 l5 l6 l7 M e1 (fun a0 a1 a2 a3 hs => ?_) (fun b0 b1 hs => ?_)
    · subst hs; exact ih _ _ _ _ _ e2 kE0
    · subst hs; exact kE0 _ _ (Option.some.inj e2).symm
noncomputable def F_X12_probe (l0 : Nat) (l1 : Int32) (l2 : Int32) (l3 : Int32) (M : q_Mem) : Option (Int32 × q_Mem) := (q_pI M l0 12 0 (0 : Int32) (fun M1 => (q_ob M1 l0 12 ((F_X12_isGuest l0 l1 M1).bind (fun u2 => (if u2 = 0 then some ((-1 : Int32), M1) else ((F_X12_isIn l2.toInt64 (0 : Int64) (20 : Int64) M1).bind (fun u3 => (if u3 = 0 then some ((-1 : Int32), M1) else ((F_X12_isIn l3.toInt64 (-9 : Int64) (20 : Int64) M1).bind (fun u4 => (if u4 = 0 then some ((-1 : Int32), M1) else (q_ob M1 l0 12 ((F_X12_liked l0 l1 M1).bind (fun x => match x with | (u5, M6) => (if u5 = 0 then some ((-1 : Int32), M6) else (q_lp (fun s => B_X12_probe_64 l0 l1 l2 l3 u5 s.1 s.2.1 s.2.2.1 s.2.2.2) q_fu ((-1 : Int32), (0 : Int32), (0 : Int32), M6)).bind (fun e14 => match e14 with | (w15, M16) => some (w15, M16))))))))))))))))))
set_option maxRecDepth 100000 in
set_option maxHeartbeats 4000000 in
theorem c_X12_probe (l : Launch) (G : q_G) (l0 : Nat) (l1 : Int32) (l2 : Int32) (l3 : Int32) (M : q_Mem) {r : Int32} {M' : q_Mem} (h : F_X12_probe l0 l1 l2 l3 M = some (r, M')) : q_Met l G yX12_probe cX12_probe 10 (Option.some Jvm.ClassFile.FieldType.int) 136 4 0 [.ref l0, .int l1, .int l2, .int l3] M (some (.int r)) M' := by
  unfold F_X12_probe at h
  refine q_enter [some (.ref l0), some (.int l1), some (.int l2), some (.int l3), none, none, none, none, none, none] (by decide) (Nat.le_of_ble_eq_true rfl) rfl (fun K C => ?_)
  refine q_aload_n C dX12_probe_0 rfl ?_
  refine x_iconst (v := (0 : Int32)) C dX12_probe_1 (by decide) ?_
  refine x_putI (ci := 12) (j := 0) C dX12_probe_2 lkF_X12_92 (fun r hr => by cases hr; rfl) rfl h (fun M1 h => ?_)
  refine q_aload_n C dX12_probe_5 rfl ?_
  refine q_iload_n C dX12_probe_6 rfl ?_
  obtain ⟨hk, h⟩ := q_obE h
  obtain ⟨u2, e1, h⟩ := q_bind h
  refine x_callV0 C dX12_probe_7 lkM_X12_360 mV_X12_isGuest ⟨_, rfl, rfl⟩ hk (c_X12_isGuest _ _ _ _ _ e1) rfl rfl (Nat.le_of_ble_eq_true rfl) (by decide) (by decide) ?_
  refine q_if_eq (tgt := 39) C dX12_probe_10 (by decide) h (fun _ h => ?_) (fun _ h => ?_)
  · refine x_iconst (v := (-1 : Int32)) C dX12_probe_39 (by decide) ?_
    exact q_iret C dX12_probe_40 rfl (by decide) (by decide) (Option.some.inj h)
  · refine q_iload_n C dX12_probe_13 rfl ?_
    refine q_i2l C dX12_probe_14 ?_
    refine x_lconst (v := (0 : Int64)) C dX12_probe_15 (by decide) ?_
    refine q_ldc2 (v := (20 : Int64)) C dX12_probe_16 wd_1706 ?_
    obtain ⟨u3, e1, h⟩ := q_bind h
    refine x_callS0 C dX12_probe_19 lkM_X12_213 mS_X12_isIn (c_X12_isIn _ _ _ _ _ _ e1) rfl rfl (Nat.le_of_ble_eq_true rfl) (by decide) (by decide) ?_
    refine q_if_eq (tgt := 39) C dX12_probe_22 (by decide) h (fun _ h => ?_) (fun _ h => ?_)
    · refine x_iconst (v := (-1 : Int32)) C dX12_probe_39 (by decide) ?_
      exact q_iret C dX12_probe_40 rfl (by decide) (by decide) (Option.some.inj h)
    · refine q_iload_n C dX12_probe_25 rfl ?_
      refine q_i2l C dX12_probe_26 ?_
      refine q_ldc2 (v := (-9 : Int64)) C dX12_probe_27 wd_1735 ?_
      refine q_ldc2 (v := (20 : Int64)) C dX12_probe_30 wd_1706 ?_
      obtain ⟨u4, e1, h⟩ := q_bind h
      refine x_callS0 C dX12_probe_33 lkM_X12_213 mS_X12_isIn (c_X12_isIn _ _ _ _ _ _ e1) rfl rfl (Nat.le_of_ble_eq_true rfl) (by decide) (by decide) ?_
      refine q_if_ne (tgt := 41) C dX12_probe_36 (by decide) h (fun _ h => ?_) (fun _ h => ?_)
      · refine x_iconst (v := (-1 : Int32)) C dX12_probe_39 (by decide) ?_
        exact q_iret C dX12_probe_40 rfl (by decide) (by decide) (Option.some.inj h)
      · refine q_aload_n C dX12_probe_41 rfl ?_
        refine q_iload_n C dX12_probe_42 rfl ?_
        obtain ⟨hk, h⟩ := q_obE h
        obtain ⟨⟨u5, M6⟩, e1, h⟩ := q_bind h
        refine x_callV C dX12_probe_43 lkM_X12_434 mV_X12_liked ⟨_, rfl, rfl⟩ hk (c_X12_liked _ _ _ _ _ e1) rfl rfl (Nat.le_of_ble_eq_true rfl) (by decide) (by decide) ?_
        refine q_istore (L' := [some (.ref l0), some (.int l1), some (.int l2), some (.int l3), some (.int u5), none, none, none, none, none]) C dX12_probe_46 (by decide) rfl rfl ?_
        refine q_iload C dX12_probe_48 rfl ?_
        refine q_if_ne (tgt := 55) C dX12_probe_50 (by decide) h (fun _ h => ?_) (fun _ h => ?_)
        · refine x_iconst (v := (-1 : Int32)) C dX12_probe_53 (by decide) ?_
          exact q_iret C dX12_probe_54 rfl (by decide) (by decide) (Option.some.inj h)
        · refine x_iconst (v := (-1 : Int32)) C dX12_probe_55 (by decide) ?_
          refine q_istore (L' := [some (.ref l0), some (.int l1), some (.int l2), some (.int l3), some (.int u5), some (.int (-1 : Int32)), none, none, none, none]) C dX12_probe_56 (by decide) rfl rfl ?_
          refine x_iconst (v := (0 : Int32)) C dX12_probe_58 (by decide) ?_
          refine q_istore (L' := [some (.ref l0), some (.int l1), some (.int l2), some (.int l3), some (.int u5), some (.int (-1 : Int32)), some (.int (0 : Int32)), none, none, none]) C dX12_probe_59 (by decide) rfl rfl ?_
          refine x_iconst (v := (0 : Int32)) C dX12_probe_61 (by decide) ?_
          refine q_istore (L' := [some (.ref l0), some (.int l1), some (.int l2), some (.int l3), some (.int u5), some (.int (-1 : Int32)), some (.int (0 : Int32)), some (.int (0 : Int32)), none, none]) C dX12_probe_62 (by decide) rfl rfl ?_
          obtain ⟨e14, he, h⟩ := q_bind h
          refine q_msk [true, true, true, true, true, true, true, true, false, false] (lW_X12_probe_64 C l0 l1 l2 l3 u5 q_fu _ _ _ _ _ he (fun w15 M16 hs => ?_))
          · have hs := hs.symm
            subst hs
            refine q_iload C dX12_probe_162 rfl ?_
            exact q_iret C dX12_probe_164 rfl (by decide) (by decide) (Option.some.inj h)
noncomputable def B_X12_leaves_42 (l0 : Nat) (l1 : Int32) (l2 : Int32) (M : q_Mem) : Option ((Int32 × q_Mem) ⊕ ((Int32 × q_Mem) ⊕ (q_Mem))) := (if (60 : Int32) < l2 then some (.inr (.inr M)) else (q_gR M l0 12 33 (fun c12 => q_nn c12 (fun r13 => (q_ob M l0 12 ((F_X12_goDay l0 r13 M).bind (fun x => match x with | (u14, M15) => (q_gR M15 l0 12 33 (fun c16 => q_nn c16 (fun r17 => (q_lI M15 0 r17 (((4 : Int32) * l1) + (3 : Int32)) (fun v18 => (if v18 = (1 : Int32) then some (.inr (.inl (l2, M15))) else some (.inl ((l2 + (1 : Int32)), M15)))))))))))))))
set_option maxRecDepth 100000 in
set_option maxHeartbeats 4000000 in
theorem bW_X12_leaves_42 {K : q_K} {Q : State → Prop} (C : q_C K yX12_leaves cX12_leaves 4 (Option.some Jvm.ClassFile.FieldType.int) 135 2 0) (l0 : Nat) (l1 : Int32) (l2 : Int32) (M : q_Mem) {stp : (Int32 × q_Mem) ⊕ ((Int32 × q_Mem) ⊕ (q_Mem))} (h : B_X12_leaves_42 l0 l1 l2 M = some stp) (kC : ∀ (l2 : Int32) (M : q_Mem), stp = .inl (l2, M) → q_W K 4 Q 0 0 M 42 [some (.ref l0), some (.int l1), some (.int l2), none] []) (kE0 : ∀ (l2 : Int32) (M : q_Mem), stp = .inr (.inl (l2, M)) → q_W K 4 Q 0 0 M 71 [none, none, some (.int l2), none] []) (kE1 : ∀ (M : q_Mem), stp = .inr (.inr M) → q_W K 4 Q 0 0 M 79 [none, none, none, none] []) : q_W K 4 Q 0 0 M 42 [some (.ref l0), some (.int l1), some (.int l2), none] [] := by
  unfold B_X12_leaves_42 at h
  refine q_iload_n C dX12_leaves_42 rfl ?_
  refine x_bipush (v := (60 : Int32)) C dX12_leaves_43 (by decide) ?_
  refine q_icmp_gt (tgt := 79) C dX12_leaves_45 (by decide) h (fun _ h => ?_) (fun _ h => ?_)
  · exact q_msk [false, false, false, false] (kE1 _ (Option.some.inj h).symm)
  · refine q_aload_n C dX12_leaves_48 rfl ?_
    refine q_aload_n C dX12_leaves_49 rfl ?_
    refine x_getR (ci := 12) (j := 33) C dX12_leaves_50 lkF_X12_64 rfl h (fun c12 h => ?_)
    refine x_nn h (fun r13 h => ?_)
    obtain ⟨hk, h⟩ := q_obE h
    obtain ⟨⟨u14, M15⟩, e1, h⟩ := q_bind h
    refine x_callV C dX12_leaves_53 lkM_X12_370 mV_X12_goDay ⟨_, rfl, rfl⟩ hk (c_X12_goDay _ _ _ _ _ e1) rfl rfl (Nat.le_of_ble_eq_true rfl) (by decide) (by decide) ?_
    refine q_istore_n (L' := [some (.ref l0), some (.int l1), some (.int l2), some (.int u14)]) C dX12_leaves_56 (by decide) rfl rfl ?_
    refine q_aload_n C dX12_leaves_57 rfl ?_
    refine x_getR (ci := 12) (j := 33) C dX12_leaves_58 lkF_X12_64 rfl h (fun c16 h => ?_)
    refine x_nn h (fun r17 h => ?_)
    refine x_iconst (v := (4 : Int32)) C dX12_leaves_61 (by decide) ?_
    refine q_iload_n C dX12_leaves_62 rfl ?_
    refine q_imul C dX12_leaves_63 ?_
    refine x_iconst (v := (3 : Int32)) C dX12_leaves_64 (by decide) ?_
    refine q_iadd C dX12_leaves_65 ?_
    refine x_iald C dX12_leaves_66 h (fun v18 h => ?_)
    refine x_iconst (v := (1 : Int32)) C dX12_leaves_67 (by decide) ?_
    refine q_icmp_ne (tgt := 73) C dX12_leaves_68 (by decide) h (fun _ h => ?_) (fun _ h => ?_)
    · exact q_msk [false, false, true, false] (kE0 _ _ (Option.some.inj h).symm)
    · refine x_iinc (w := (1 : Int32)) (L' := [some (.ref l0), some (.int l1), some (.int (l2 + (1 : Int32))), some (.int u14)]) C dX12_leaves_73 rfl (by decide) (by decide) rfl rfl ?_
      refine q_goto (tgt := 42) C dX12_leaves_76 (by decide) ?_
      exact q_msk [true, true, true, false] (kC _ _ (Option.some.inj h).symm)
set_option maxRecDepth 100000 in
set_option maxHeartbeats 4000000 in
theorem lW_X12_leaves_42 {K : q_K} {Q : State → Prop} (C : q_C K yX12_leaves cX12_leaves 4 (Option.some Jvm.ClassFile.FieldType.int) 135 2 0) (l0 : Nat) (l1 : Int32) (n : Nat) : ∀ (l2 : Int32) (M : q_Mem) (e : ((Int32 × q_Mem) ⊕ (q_Mem))), q_lp (fun s => B_X12_leaves_42 l0 l1 s.1 s.2) n (l2, M) = some e → (∀ (l2 : Int32) (M : q_Mem), e = (.inl (l2, M)) → q_W K 4 Q 0 0 M 71 [none, none, some (.int l2), none] []) → (∀ (M : q_Mem), e = (.inr M) → q_W K 4 Q 0 0 M 79 [none, none, none, none] []) → q_W K 4 Q 0 0 M 42 [some (.ref l0), some (.int l1), some (.int l2), none] [] := by
  induction n with
  | zero => intro l2 M e h; cases h
  | succ n ih =>
    intro l2 M e h kE0 kE1
    obtain ⟨stp, e1, e2⟩ := q_bind h
    refine bW_X12_leaves_42 C l0 l1 l2 M e1 (fun a0 a1 hs => ?_) (fun b0 b1 hs => ?_) (fun b0 hs => ?_)
    · subst hs; exact ih _ _ _ e2 kE0 kE1
    · subst hs; exact kE0 _ _ (Option.some.inj e2).symm
    · subst hs; exact kE1 _ (Option.some.inj e2).symm
noncomputable def F_X12_leaves (l0 : Nat) (l1 : Int32) (M : q_Mem) : Option (Int32 × q_Mem) := (q_pI M l0 12 0 (0 : Int32) (fun M1 => (q_ob M1 l0 12 ((F_X12_isGuest l0 l1 M1).bind (fun u2 => (if u2 = 0 then some ((-1 : Int32), M1) else (q_gR M1 l0 12 32 (fun c3 => q_nn c3 (fun r4 => (q_lI M1 0 r4 (((4 : Int32) * l1) + (3 : Int32)) (fun v5 => (if v5 = (1 : Int32) then some ((-1 : Int32), M1) else (q_gR M1 l0 12 32 (fun c6 => q_nn c6 (fun r7 => (q_gR M1 l0 12 33 (fun c8 => q_nn c8 (fun r9 => ((F_X12_copy r7 r9 M1).bind (fun x => match x with | (_, M11) => (q_lp (fun s => B_X12_leaves_42 l0 l1 s.1 s.2) q_fu ((1 : Int32), M11)).bind (fun e19 => match e19 with | .inl (w20, M21) => some (w20, M21) | .inr M22 => some ((-1 : Int32), M22))))))))))))))))))))))
set_option maxRecDepth 100000 in
set_option maxHeartbeats 4000000 in
theorem c_X12_leaves (l : Launch) (G : q_G) (l0 : Nat) (l1 : Int32) (M : q_Mem) {r : Int32} {M' : q_Mem} (h : F_X12_leaves l0 l1 M = some (r, M')) : q_Met l G yX12_leaves cX12_leaves 4 (Option.some Jvm.ClassFile.FieldType.int) 135 2 0 [.ref l0, .int l1] M (some (.int r)) M' := by
  unfold F_X12_leaves at h
  refine q_enter [some (.ref l0), some (.int l1), none, none] (by decide) (Nat.le_of_ble_eq_true rfl) rfl (fun K C => ?_)
  refine q_aload_n C dX12_leaves_0 rfl ?_
  refine x_iconst (v := (0 : Int32)) C dX12_leaves_1 (by decide) ?_
  refine x_putI (ci := 12) (j := 0) C dX12_leaves_2 lkF_X12_92 (fun r hr => by cases hr; rfl) rfl h (fun M1 h => ?_)
  refine q_aload_n C dX12_leaves_5 rfl ?_
  refine q_iload_n C dX12_leaves_6 rfl ?_
  obtain ⟨hk, h⟩ := q_obE h
  obtain ⟨u2, e1, h⟩ := q_bind h
  refine x_callV0 C dX12_leaves_7 lkM_X12_360 mV_X12_isGuest ⟨_, rfl, rfl⟩ hk (c_X12_isGuest _ _ _ _ _ e1) rfl rfl (Nat.le_of_ble_eq_true rfl) (by decide) (by decide) ?_
  refine q_if_eq (tgt := 27) C dX12_leaves_10 (by decide) h (fun _ h => ?_) (fun _ h => ?_)
  · refine x_iconst (v := (-1 : Int32)) C dX12_leaves_27 (by decide) ?_
    exact q_iret C dX12_leaves_28 rfl (by decide) (by decide) (Option.some.inj h)
  · refine q_aload_n C dX12_leaves_13 rfl ?_
    refine x_getR (ci := 12) (j := 32) C dX12_leaves_14 lkF_X12_61 rfl h (fun c3 h => ?_)
    refine x_nn h (fun r4 h => ?_)
    refine x_iconst (v := (4 : Int32)) C dX12_leaves_17 (by decide) ?_
    refine q_iload_n C dX12_leaves_18 rfl ?_
    refine q_imul C dX12_leaves_19 ?_
    refine x_iconst (v := (3 : Int32)) C dX12_leaves_20 (by decide) ?_
    refine q_iadd C dX12_leaves_21 ?_
    refine x_iald C dX12_leaves_22 h (fun v5 h => ?_)
    refine x_iconst (v := (1 : Int32)) C dX12_leaves_23 (by decide) ?_
    refine q_icmp_ne (tgt := 29) C dX12_leaves_24 (by decide) h (fun _ h => ?_) (fun _ h => ?_)
    · refine x_iconst (v := (-1 : Int32)) C dX12_leaves_27 (by decide) ?_
      exact q_iret C dX12_leaves_28 rfl (by decide) (by decide) (Option.some.inj h)
    · refine q_aload_n C dX12_leaves_29 rfl ?_
      refine x_getR (ci := 12) (j := 32) C dX12_leaves_30 lkF_X12_61 rfl h (fun c6 h => ?_)
      refine x_nn h (fun r7 h => ?_)
      refine q_aload_n C dX12_leaves_33 rfl ?_
      refine x_getR (ci := 12) (j := 33) C dX12_leaves_34 lkF_X12_64 rfl h (fun c8 h => ?_)
      refine x_nn h (fun r9 h => ?_)
      obtain ⟨⟨_, M11⟩, e1, h⟩ := q_bind h
      refine x_callSv0 C dX12_leaves_37 lkM_X12_409 mS_X12_copy (c_X12_copy _ _ _ _ _ e1) rfl rfl (Nat.le_of_ble_eq_true rfl) (by decide) (by decide) ?_
      refine x_iconst (v := (1 : Int32)) C dX12_leaves_40 (by decide) ?_
      refine q_istore_n (L' := [some (.ref l0), some (.int l1), some (.int (1 : Int32)), none]) C dX12_leaves_41 (by decide) rfl rfl ?_
      obtain ⟨e19, he, h⟩ := q_bind h
      refine q_msk [true, true, true, false] (lW_X12_leaves_42 C l0 l1 q_fu _ _ _ he (fun w20 M21 hs => ?_) (fun M22 hs => ?_))
      · have hs := hs.symm
        subst hs
        refine q_iload_n C dX12_leaves_71 rfl ?_
        exact q_iret C dX12_leaves_72 rfl (by decide) (by decide) (Option.some.inj h)
      · have hs := hs.symm
        subst hs
        refine x_iconst (v := (-1 : Int32)) C dX12_leaves_79 (by decide) ?_
        exact q_iret C dX12_leaves_80 rfl (by decide) (by decide) (Option.some.inj h)
noncomputable def F_X12_isGame (l0 : Nat) (l1 : Int32) (l2 : Int32) (M : q_Mem) : Option (Int32) := (q_ob M l0 12 ((F_X12_isGuest l0 l1 M).bind (fun u1 => (if u1 = 0 then q_rq (0 : Int32) else (q_ob M l0 12 ((F_X12_isGuest l0 l2 M).bind (fun u2 => (if u2 = 0 then q_rq (0 : Int32) else (if l1 = l2 then q_rq (0 : Int32) else (q_gR M l0 12 32 (fun c3 => q_nn c3 (fun r4 => (q_lI M 0 r4 (((4 : Int32) * l1) + (3 : Int32)) (fun v5 => (q_gR M l0 12 32 (fun c6 => q_nn c6 (fun r7 => (q_lI M 0 r7 (((4 : Int32) * l2) + (3 : Int32)) (fun v8 => (if (v5 + v8) = 0 then q_rq (1 : Int32) else q_rq (0 : Int32)))))))))))))))))))))
set_option maxRecDepth 100000 in
set_option maxHeartbeats 4000000 in
theorem c_X12_isGame (l : Launch) (G : q_G) (l0 : Nat) (l1 : Int32) (l2 : Int32) (M : q_Mem) {r : Int32} (h : F_X12_isGame l0 l1 l2 M = some r) : q_Met l G yX12_isGame cX12_isGame 3 (Option.some Jvm.ClassFile.FieldType.boolean) 2 0 0 [.ref l0, .int l1, .int l2] M (some (.int r)) M := by
  unfold F_X12_isGame at h
  refine q_enter [some (.ref l0), some (.int l1), some (.int l2)] (by decide) (Nat.le_of_ble_eq_true rfl) rfl (fun K C => ?_)
  refine q_aload_n C dX12_isGame_0 rfl ?_
  refine q_iload_n C dX12_isGame_1 rfl ?_
  obtain ⟨hk, h⟩ := q_obE h
  obtain ⟨u1, e1, h⟩ := q_bind h
  refine x_callV0 C dX12_isGame_2 lkM_X12_360 mV_X12_isGuest ⟨_, rfl, rfl⟩ hk (c_X12_isGuest _ _ _ _ _ e1) rfl rfl (Nat.le_of_ble_eq_true rfl) (by decide) (by decide) ?_
  refine q_if_eq (tgt := 49) C dX12_isGame_5 (by decide) h (fun _ h => ?_) (fun _ h => ?_)
  · refine x_iconst (v := (0 : Int32)) C dX12_isGame_49 (by decide) ?_
    exact q_zret (res := (r, M)) C dX12_isGame_50 rfl (by decide) (by decide) (q_rqE h).1 (congrArg (fun z => (z, M)) (q_rqE h).2)
  · refine q_aload_n C dX12_isGame_8 rfl ?_
    refine q_iload_n C dX12_isGame_9 rfl ?_
    obtain ⟨hk, h⟩ := q_obE h
    obtain ⟨u2, e1, h⟩ := q_bind h
    refine x_callV0 C dX12_isGame_10 lkM_X12_360 mV_X12_isGuest ⟨_, rfl, rfl⟩ hk (c_X12_isGuest _ _ _ _ _ e1) rfl rfl (Nat.le_of_ble_eq_true rfl) (by decide) (by decide) ?_
    refine q_if_eq (tgt := 49) C dX12_isGame_13 (by decide) h (fun _ h => ?_) (fun _ h => ?_)
    · refine x_iconst (v := (0 : Int32)) C dX12_isGame_49 (by decide) ?_
      exact q_zret (res := (r, M)) C dX12_isGame_50 rfl (by decide) (by decide) (q_rqE h).1 (congrArg (fun z => (z, M)) (q_rqE h).2)
    · refine q_iload_n C dX12_isGame_16 rfl ?_
      refine q_iload_n C dX12_isGame_17 rfl ?_
      refine q_icmp_eq (tgt := 49) C dX12_isGame_18 (by decide) h (fun _ h => ?_) (fun _ h => ?_)
      · refine x_iconst (v := (0 : Int32)) C dX12_isGame_49 (by decide) ?_
        exact q_zret (res := (r, M)) C dX12_isGame_50 rfl (by decide) (by decide) (q_rqE h).1 (congrArg (fun z => (z, M)) (q_rqE h).2)
      · refine q_aload_n C dX12_isGame_21 rfl ?_
        refine x_getR (ci := 12) (j := 32) C dX12_isGame_22 lkF_X12_61 rfl h (fun c3 h => ?_)
        refine x_nn h (fun r4 h => ?_)
        refine x_iconst (v := (4 : Int32)) C dX12_isGame_25 (by decide) ?_
        refine q_iload_n C dX12_isGame_26 rfl ?_
        refine q_imul C dX12_isGame_27 ?_
        refine x_iconst (v := (3 : Int32)) C dX12_isGame_28 (by decide) ?_
        refine q_iadd C dX12_isGame_29 ?_
        refine x_iald C dX12_isGame_30 h (fun v5 h => ?_)
        refine q_aload_n C dX12_isGame_31 rfl ?_
        refine x_getR (ci := 12) (j := 32) C dX12_isGame_32 lkF_X12_61 rfl h (fun c6 h => ?_)
        refine x_nn h (fun r7 h => ?_)
        refine x_iconst (v := (4 : Int32)) C dX12_isGame_35 (by decide) ?_
        refine q_iload_n C dX12_isGame_36 rfl ?_
        refine q_imul C dX12_isGame_37 ?_
        refine x_iconst (v := (3 : Int32)) C dX12_isGame_38 (by decide) ?_
        refine q_iadd C dX12_isGame_39 ?_
        refine x_iald C dX12_isGame_40 h (fun v8 h => ?_)
        refine q_iadd C dX12_isGame_41 ?_
        refine q_if_ne (tgt := 49) C dX12_isGame_42 (by decide) h (fun _ h => ?_) (fun _ h => ?_)
        · refine x_iconst (v := (1 : Int32)) C dX12_isGame_45 (by decide) ?_
          refine q_goto (tgt := 50) C dX12_isGame_46 (by decide) ?_
          exact q_zret (res := (r, M)) C dX12_isGame_50 rfl (by decide) (by decide) (q_rqE h).1 (congrArg (fun z => (z, M)) (q_rqE h).2)
        · refine x_iconst (v := (0 : Int32)) C dX12_isGame_49 (by decide) ?_
          exact q_zret (res := (r, M)) C dX12_isGame_50 rfl (by decide) (by decide) (q_rqE h).1 (congrArg (fun z => (z, M)) (q_rqE h).2)
noncomputable def J_X12_gameOf_119_58 (l0 : Nat) (l6 : Int32) (l7 : Int32) (l8 : Int32) (M : q_Mem) : Option ((Int32 × Int32 × q_Mem) ⊕ (Int32 × q_Mem)) := some (.inl (l7, (l8 + (1 : Int32)), M))
set_option maxRecDepth 100000 in
set_option maxHeartbeats 4000000 in
theorem jW_X12_gameOf_119_58 {K : q_K} {Q : State → Prop} (C : q_C K yX12_gameOf cX12_gameOf 11 (Option.some Jvm.ClassFile.FieldType.int) 135 2 0) (l0 : Nat) (l6 : Int32) (l7 : Int32) (l8 : Int32) (M : q_Mem) {stp : (Int32 × Int32 × q_Mem) ⊕ (Int32 × q_Mem)} (h : J_X12_gameOf_119_58 l0 l6 l7 l8 M = some stp) (kC : ∀ (l7 : Int32) (l8 : Int32) (M : q_Mem), stp = .inl (l7, l8, M) → q_W K 11 Q 0 0 M 58 [some (.ref l0), none, none, none, none, none, some (.int l6), some (.int l7), some (.int l8), none, none] []) (kE0 : ∀ (l7 : Int32) (M : q_Mem), stp = .inr (l7, M) → q_W K 11 Q 0 0 M 125 [some (.ref l0), none, none, none, none, none, some (.int l6), some (.int l7), none, none, none] []) : q_W K 11 Q 0 0 M 119 [some (.ref l0), none, none, none, none, none, some (.int l6), some (.int l7), some (.int l8), none, none] [] := by
  unfold J_X12_gameOf_119_58 at h
  refine x_iinc (w := (1 : Int32)) (L' := [some (.ref l0), none, none, none, none, none, some (.int l6), some (.int l7), some (.int (l8 + (1 : Int32))), none, none]) C dX12_gameOf_119 rfl (by decide) (by decide) rfl rfl ?_
  refine q_goto (tgt := 58) C dX12_gameOf_122 (by decide) ?_
  exact q_msk [true, false, false, false, false, false, true, true, true, false, false] (kC _ _ _ (Option.some.inj h).symm)
noncomputable def J_X12_gameOf_109_58 (l0 : Nat) (l6 : Int32) (l8 : Int32) (s0 : Int32) (s1 : Int32) (M : q_Mem) : Option ((Int32 × Int32 × q_Mem) ⊕ (Int32 × q_Mem)) := (q_ob M l0 12 ((F_X12_pays l0 l6 M).bind (fun u23 => J_X12_gameOf_119_58 l0 l6 (s0 + (s1 - u23)) l8 M)))
set_option maxRecDepth 100000 in
set_option maxHeartbeats 4000000 in
theorem jW_X12_gameOf_109_58 {K : q_K} {Q : State → Prop} (C : q_C K yX12_gameOf cX12_gameOf 11 (Option.some Jvm.ClassFile.FieldType.int) 135 2 0) (l0 : Nat) (l6 : Int32) (l8 : Int32) (s0 : Int32) (s1 : Int32) (M : q_Mem) {stp : (Int32 × Int32 × q_Mem) ⊕ (Int32 × q_Mem)} (h : J_X12_gameOf_109_58 l0 l6 l8 s0 s1 M = some stp) (kC : ∀ (l7 : Int32) (l8 : Int32) (M : q_Mem), stp = .inl (l7, l8, M) → q_W K 11 Q 0 0 M 58 [some (.ref l0), none, none, none, none, none, some (.int l6), some (.int l7), some (.int l8), none, none] []) (kE0 : ∀ (l7 : Int32) (M : q_Mem), stp = .inr (l7, M) → q_W K 11 Q 0 0 M 125 [some (.ref l0), none, none, none, none, none, some (.int l6), some (.int l7), none, none, none] []) : q_W K 11 Q 0 0 M 109 [some (.ref l0), none, none, none, none, none, some (.int l6), none, some (.int l8), none, none] [.int s1, .int s0] := by
  unfold J_X12_gameOf_109_58 at h
  refine q_aload_n C dX12_gameOf_109 rfl ?_
  refine q_iload C dX12_gameOf_110 rfl ?_
  obtain ⟨hk, h⟩ := q_obE h
  obtain ⟨u23, e1, h⟩ := q_bind h
  refine x_callV0 C dX12_gameOf_112 lkM_X12_306 mV_X12_pays ⟨_, rfl, rfl⟩ hk (c_X12_pays _ _ _ _ _ e1) rfl rfl (Nat.le_of_ble_eq_true rfl) (by decide) (by decide) ?_
  refine q_isub C dX12_gameOf_115 ?_
  refine q_iadd C dX12_gameOf_116 ?_
  refine q_istore (L' := [some (.ref l0), none, none, none, none, none, some (.int l6), some (.int (s0 + (s1 - u23))), some (.int l8), none, none]) C dX12_gameOf_117 (by decide) rfl rfl ?_
  exact q_msk [true, false, false, false, false, false, true, true, true, false, false] (jW_X12_gameOf_119_58 C l0 l6 (s0 + (s1 - u23)) l8 M h kC kE0)
noncomputable def B_X12_gameOf_58 (l0 : Nat) (l6 : Int32) (l7 : Int32) (l8 : Int32) (M : q_Mem) : Option ((Int32 × Int32 × q_Mem) ⊕ (Int32 × q_Mem)) := (if l8 < (8 : Int32) then (q_gR M l0 12 33 (fun c15 => q_nn c15 (fun r16 => (q_ob M l0 12 ((F_X12_isThere l0 r16 l6 M).bind (fun u17 => (q_gR M l0 12 33 (fun c18 => q_nn c18 (fun r19 => (q_ob M l0 12 ((F_X12_goDay l0 r19 M).bind (fun x => match x with | (u20, M21) => (if u17 = 0 then J_X12_gameOf_119_58 l0 l6 l7 l8 M21 else ((F_X12_has u20 l6 M21).bind (fun u22 => (if u22 = 0 then J_X12_gameOf_109_58 l0 l6 l8 l7 (0 : Int32) M21 else J_X12_gameOf_109_58 l0 l6 l8 l7 (2 : Int32) M21)))))))))))))))) else some (.inr (l7, M)))
set_option maxRecDepth 100000 in
set_option maxHeartbeats 4000000 in
theorem bW_X12_gameOf_58 {K : q_K} {Q : State → Prop} (C : q_C K yX12_gameOf cX12_gameOf 11 (Option.some Jvm.ClassFile.FieldType.int) 135 2 0) (l0 : Nat) (l6 : Int32) (l7 : Int32) (l8 : Int32) (M : q_Mem) {stp : (Int32 × Int32 × q_Mem) ⊕ (Int32 × q_Mem)} (h : B_X12_gameOf_58 l0 l6 l7 l8 M = some stp) (kC : ∀ (l7 : Int32) (l8 : Int32) (M : q_Mem), stp = .inl (l7, l8, M) → q_W K 11 Q 0 0 M 58 [some (.ref l0), none, none, none, none, none, some (.int l6), some (.int l7), some (.int l8), none, none] []) (kE0 : ∀ (l7 : Int32) (M : q_Mem), stp = .inr (l7, M) → q_W K 11 Q 0 0 M 125 [some (.ref l0), none, none, none, none, none, some (.int l6), some (.int l7), none, none, none] []) : q_W K 11 Q 0 0 M 58 [some (.ref l0), none, none, none, none, none, some (.int l6), some (.int l7), some (.int l8), none, none] [] := by
  unfold B_X12_gameOf_58 at h
  refine q_iload C dX12_gameOf_58 rfl ?_
  refine x_bipush (v := (8 : Int32)) C dX12_gameOf_60 (by decide) ?_
  refine q_icmp_ge (tgt := 125) C dX12_gameOf_62 (by decide) h (fun _ h => ?_) (fun _ h => ?_)
  · refine q_aload_n C dX12_gameOf_65 rfl ?_
    refine q_aload_n C dX12_gameOf_66 rfl ?_
    refine x_getR (ci := 12) (j := 33) C dX12_gameOf_67 lkF_X12_64 rfl h (fun c15 h => ?_)
    refine x_nn h (fun r16 h => ?_)
    refine q_iload C dX12_gameOf_70 rfl ?_
    obtain ⟨hk, h⟩ := q_obE h
    obtain ⟨u17, e1, h⟩ := q_bind h
    refine x_callV0 C dX12_gameOf_72 lkM_X12_302 mV_X12_isThere ⟨_, rfl, rfl⟩ hk (c_X12_isThere _ _ _ _ _ _ e1) rfl rfl (Nat.le_of_ble_eq_true rfl) (by decide) (by decide) ?_
    refine q_istore (L' := [some (.ref l0), none, none, none, none, none, some (.int l6), some (.int l7), some (.int l8), some (.int u17), none]) C dX12_gameOf_75 (by decide) rfl rfl ?_
    refine q_aload_n C dX12_gameOf_77 rfl ?_
    refine q_aload_n C dX12_gameOf_78 rfl ?_
    refine x_getR (ci := 12) (j := 33) C dX12_gameOf_79 lkF_X12_64 rfl h (fun c18 h => ?_)
    refine x_nn h (fun r19 h => ?_)
    obtain ⟨hk, h⟩ := q_obE h
    obtain ⟨⟨u20, M21⟩, e1, h⟩ := q_bind h
    refine x_callV C dX12_gameOf_82 lkM_X12_370 mV_X12_goDay ⟨_, rfl, rfl⟩ hk (c_X12_goDay _ _ _ _ _ e1) rfl rfl (Nat.le_of_ble_eq_true rfl) (by decide) (by decide) ?_
    refine q_istore (L' := [some (.ref l0), none, none, none, none, none, some (.int l6), some (.int l7), some (.int l8), some (.int u17), some (.int u20)]) C dX12_gameOf_85 (by decide) rfl rfl ?_
    refine q_iload C dX12_gameOf_87 rfl ?_
    refine q_if_eq (tgt := 119) C dX12_gameOf_89 (by decide) h (fun _ h => ?_) (fun _ h => ?_)
    · exact q_msk [true, false, false, false, false, false, true, true, true, false, false] (jW_X12_gameOf_119_58 C l0 l6 l7 l8 M21 h kC kE0)
    · refine q_iload C dX12_gameOf_92 rfl ?_
      refine q_iload C dX12_gameOf_94 rfl ?_
      refine q_iload C dX12_gameOf_96 rfl ?_
      obtain ⟨u22, e1, h⟩ := q_bind h
      refine x_callS0 C dX12_gameOf_98 lkM_X12_225 mS_X12_has (c_X12_has _ _ _ _ _ e1) rfl rfl (Nat.le_of_ble_eq_true rfl) (by decide) (by decide) ?_
      refine q_if_eq (tgt := 108) C dX12_gameOf_101 (by decide) h (fun _ h => ?_) (fun _ h => ?_)
      · refine x_iconst (v := (0 : Int32)) C dX12_gameOf_108 (by decide) ?_
        exact q_msk [true, false, false, false, false, false, true, false, true, false, false] (jW_X12_gameOf_109_58 C l0 l6 l8 l7 (0 : Int32) M21 h kC kE0)
      · refine x_iconst (v := (2 : Int32)) C dX12_gameOf_104 (by decide) ?_
        refine q_goto (tgt := 109) C dX12_gameOf_105 (by decide) ?_
        exact q_msk [true, false, false, false, false, false, true, false, true, false, false] (jW_X12_gameOf_109_58 C l0 l6 l8 l7 (2 : Int32) M21 h kC kE0)
  · exact q_msk [true, false, false, false, false, false, true, true, false, false, false] (kE0 _ _ (Option.some.inj h).symm)
set_option maxRecDepth 100000 in
set_option maxHeartbeats 4000000 in
theorem lW_X12_gameOf_58 {K : q_K} {Q : State → Prop} (C : q_C K yX12_gameOf cX12_gameOf 11 (Option.some Jvm.ClassFile.FieldType.int) 135 2 0) (l0 : Nat) (l6 : Int32) (n : Nat) : ∀ (l7 : Int32) (l8 : Int32) (M : q_Mem) (e : (Int32 × q_Mem)), q_lp (fun s => B_X12_gameOf_58 l0 l6 s.1 s.2.1 s.2.2) n (l7, l8, M) = some e → (∀ (l7 : Int32) (M : q_Mem), e = (l7, M) → q_W K 11 Q 0 0 M 125 [some (.ref l0), none, none, none, none, none, some (.int l6), some (.int l7), none, none, none] []) → q_W K 11 Q 0 0 M 58 [some (.ref l0), none, none, none, none, none, some (.int l6), some (.int l7), some (.int l8), none, none] [] := by
  induction n with
  | zero => intro l7 l8 M e h; cases h
  | succ n ih =>
    intro l7 l8 M e h kE0
    obtain ⟨stp, e1, e2⟩ := q_bind h
    refine bW_X12_gameOf_58 C l0 l6 l7 l8 M e1 (fun a0 a1 a2 hs => ?_) (fun b0 b1 hs => ?_)
    · subst hs; exact ih _ _ _ _ e2 kE0
    · subst hs; exact kE0 _ _ (Option.some.inj e2).symm
noncomputable def J_X12_gameOf_50 (l0 : Nat) (s0 : Int32) (M : q_Mem) : Option (Int32 × q_Mem) := (q_lp (fun s => B_X12_gameOf_58 l0 s0 s.1 s.2.1 s.2.2) q_fu ((0 : Int32), (0 : Int32), M)).bind (fun e24 => match e24 with | (w25, M26) => (q_gR M26 l0 12 33 (fun c27 => q_nn c27 (fun r28 => (q_lI M26 0 r28 (((4 : Int32) * s0) + (2 : Int32)) (fun v29 => (q_gR M26 l0 12 32 (fun c30 => q_nn c30 (fun r31 => (q_lI M26 0 r31 (((4 : Int32) * s0) + (2 : Int32)) (fun v32 => some (((w25 + v29) - v32), M26))))))))))))
set_option maxRecDepth 100000 in
set_option maxHeartbeats 4000000 in
theorem jW_X12_gameOf_50 {K : q_K} (C : q_C K yX12_gameOf cX12_gameOf 11 (Option.some Jvm.ClassFile.FieldType.int) 135 2 0) (l0 : Nat) (s0 : Int32) (M : q_Mem) {r : Int32} {M' : q_Mem} (h : J_X12_gameOf_50 l0 s0 M = some (r, M')) : q_W K 11 (q_Q K (some (.int r)) M' 2 0) 0 0 M 50 [some (.ref l0), none, none, none, none, none, none, none, none, none, none] [.int s0] := by
  unfold J_X12_gameOf_50 at h
  refine q_istore (L' := [some (.ref l0), none, none, none, none, none, some (.int s0), none, none, none, none]) C dX12_gameOf_50 (by decide) rfl rfl ?_
  refine x_iconst (v := (0 : Int32)) C dX12_gameOf_52 (by decide) ?_
  refine q_istore (L' := [some (.ref l0), none, none, none, none, none, some (.int s0), some (.int (0 : Int32)), none, none, none]) C dX12_gameOf_53 (by decide) rfl rfl ?_
  refine x_iconst (v := (0 : Int32)) C dX12_gameOf_55 (by decide) ?_
  refine q_istore (L' := [some (.ref l0), none, none, none, none, none, some (.int s0), some (.int (0 : Int32)), some (.int (0 : Int32)), none, none]) C dX12_gameOf_56 (by decide) rfl rfl ?_
  obtain ⟨e24, he, h⟩ := q_bind h
  refine q_msk [true, false, false, false, false, false, true, true, true, false, false] (lW_X12_gameOf_58 C l0 s0 q_fu _ _ _ _ he (fun w25 M26 hs => ?_))
  · have hs := hs.symm
    subst hs
    refine q_iload C dX12_gameOf_125 rfl ?_
    refine q_aload_n C dX12_gameOf_127 rfl ?_
    refine x_getR (ci := 12) (j := 33) C dX12_gameOf_128 lkF_X12_64 rfl h (fun c27 h => ?_)
    refine x_nn h (fun r28 h => ?_)
    refine x_iconst (v := (4 : Int32)) C dX12_gameOf_131 (by decide) ?_
    refine q_iload C dX12_gameOf_132 rfl ?_
    refine q_imul C dX12_gameOf_134 ?_
    refine x_iconst (v := (2 : Int32)) C dX12_gameOf_135 (by decide) ?_
    refine q_iadd C dX12_gameOf_136 ?_
    refine x_iald C dX12_gameOf_137 h (fun v29 h => ?_)
    refine q_iadd C dX12_gameOf_138 ?_
    refine q_aload_n C dX12_gameOf_139 rfl ?_
    refine x_getR (ci := 12) (j := 32) C dX12_gameOf_140 lkF_X12_61 rfl h (fun c30 h => ?_)
    refine x_nn h (fun r31 h => ?_)
    refine x_iconst (v := (4 : Int32)) C dX12_gameOf_143 (by decide) ?_
    refine q_iload C dX12_gameOf_144 rfl ?_
    refine q_imul C dX12_gameOf_146 ?_
    refine x_iconst (v := (2 : Int32)) C dX12_gameOf_147 (by decide) ?_
    refine q_iadd C dX12_gameOf_148 ?_
    refine x_iald C dX12_gameOf_149 h (fun v32 h => ?_)
    refine q_isub C dX12_gameOf_150 ?_
    exact q_iret C dX12_gameOf_151 rfl (by decide) (by decide) (Option.some.inj h)
noncomputable def F_X12_gameOf (l0 : Nat) (l1 : Int32) (l2 : Int32) (l3 : Int32) (l4 : Int32) (l5 : Int32) (M : q_Mem) : Option (Int32 × q_Mem) := (q_gR M l0 12 32 (fun c1 => q_nn c1 (fun r2 => (q_gR M l0 12 33 (fun c3 => q_nn c3 (fun r4 => ((F_X12_copy r2 r4 M).bind (fun x => match x with | (_, M6) => (q_gR M6 l0 12 33 (fun c7 => q_nn c7 (fun r8 => (q_lI M6 0 r8 (((4 : Int32) * l1) + (0 : Int32)) (fun v9 => (q_tI M6 r8 (((4 : Int32) * l1) + (0 : Int32)) (v9 + l3) (fun M10 => (q_gR M10 l0 12 33 (fun c11 => q_nn c11 (fun r12 => (q_lI M10 0 r12 (((4 : Int32) * l2) + (0 : Int32)) (fun v13 => (q_tI M10 r12 (((4 : Int32) * l2) + (0 : Int32)) (v13 + l4) (fun M14 => (if l5 = 0 then J_X12_gameOf_50 l0 l1 M14 else J_X12_gameOf_50 l0 l2 M14)))))))))))))))))))))))
set_option maxRecDepth 100000 in
set_option maxHeartbeats 4000000 in
theorem c_X12_gameOf (l : Launch) (G : q_G) (l0 : Nat) (l1 : Int32) (l2 : Int32) (l3 : Int32) (l4 : Int32) (l5 : Int32) (M : q_Mem) {r : Int32} {M' : q_Mem} (h : F_X12_gameOf l0 l1 l2 l3 l4 l5 M = some (r, M')) : q_Met l G yX12_gameOf cX12_gameOf 11 (Option.some Jvm.ClassFile.FieldType.int) 135 2 0 [.ref l0, .int l1, .int l2, .int l3, .int l4, .int l5] M (some (.int r)) M' := by
  unfold F_X12_gameOf at h
  refine q_enter [some (.ref l0), some (.int l1), some (.int l2), some (.int l3), some (.int l4), some (.int l5), none, none, none, none, none] (by decide) (Nat.le_of_ble_eq_true rfl) rfl (fun K C => ?_)
  refine q_aload_n C dX12_gameOf_0 rfl ?_
  refine x_getR (ci := 12) (j := 32) C dX12_gameOf_1 lkF_X12_61 rfl h (fun c1 h => ?_)
  refine x_nn h (fun r2 h => ?_)
  refine q_aload_n C dX12_gameOf_4 rfl ?_
  refine x_getR (ci := 12) (j := 33) C dX12_gameOf_5 lkF_X12_64 rfl h (fun c3 h => ?_)
  refine x_nn h (fun r4 h => ?_)
  obtain ⟨⟨_, M6⟩, e1, h⟩ := q_bind h
  refine x_callSv0 C dX12_gameOf_8 lkM_X12_409 mS_X12_copy (c_X12_copy _ _ _ _ _ e1) rfl rfl (Nat.le_of_ble_eq_true rfl) (by decide) (by decide) ?_
  refine q_aload_n C dX12_gameOf_11 rfl ?_
  refine x_getR (ci := 12) (j := 33) C dX12_gameOf_12 lkF_X12_64 rfl h (fun c7 h => ?_)
  refine x_nn h (fun r8 h => ?_)
  refine x_iconst (v := (4 : Int32)) C dX12_gameOf_15 (by decide) ?_
  refine q_iload_n C dX12_gameOf_16 rfl ?_
  refine q_imul C dX12_gameOf_17 ?_
  refine x_iconst (v := (0 : Int32)) C dX12_gameOf_18 (by decide) ?_
  refine q_iadd C dX12_gameOf_19 ?_
  refine q_dup2 C dX12_gameOf_20 rfl rfl ?_
  refine x_iald C dX12_gameOf_21 h (fun v9 h => ?_)
  refine q_iload_n C dX12_gameOf_22 rfl ?_
  refine q_iadd C dX12_gameOf_23 ?_
  refine x_iast C dX12_gameOf_24 h (fun M10 h => ?_)
  refine q_aload_n C dX12_gameOf_25 rfl ?_
  refine x_getR (ci := 12) (j := 33) C dX12_gameOf_26 lkF_X12_64 rfl h (fun c11 h => ?_)
  refine x_nn h (fun r12 h => ?_)
  refine x_iconst (v := (4 : Int32)) C dX12_gameOf_29 (by decide) ?_
  refine q_iload_n C dX12_gameOf_30 rfl ?_
  refine q_imul C dX12_gameOf_31 ?_
  refine x_iconst (v := (0 : Int32)) C dX12_gameOf_32 (by decide) ?_
  refine q_iadd C dX12_gameOf_33 ?_
  refine q_dup2 C dX12_gameOf_34 rfl rfl ?_
  refine x_iald C dX12_gameOf_35 h (fun v13 h => ?_)
  refine q_iload C dX12_gameOf_36 rfl ?_
  refine q_iadd C dX12_gameOf_38 ?_
  refine x_iast C dX12_gameOf_39 h (fun M14 h => ?_)
  refine q_iload C dX12_gameOf_40 rfl ?_
  refine q_if_ne (tgt := 49) C dX12_gameOf_42 (by decide) h (fun _ h => ?_) (fun _ h => ?_)
  · refine q_iload_n C dX12_gameOf_45 rfl ?_
    refine q_goto (tgt := 50) C dX12_gameOf_46 (by decide) ?_
    exact q_msk [true, false, false, false, false, false, false, false, false, false, false] (jW_X12_gameOf_50 C l0 l1 M14 h)
  · refine q_iload_n C dX12_gameOf_49 rfl ?_
    exact q_msk [true, false, false, false, false, false, false, false, false, false, false] (jW_X12_gameOf_50 C l0 l2 M14 h)
noncomputable def F_X12_game (l0 : Nat) (l1 : Int32) (l2 : Int32) (l3 : Int32) (l4 : Int32) (l5 : Int32) (M : q_Mem) : Option (Int32 × q_Mem) := (q_pI M l0 12 0 (0 : Int32) (fun M1 => (q_ob M1 l0 12 ((F_X12_isGame l0 l1 l2 M1).bind (fun u2 => (if u2 = 0 then some ((-1000000 : Int32), M1) else ((F_X12_isIn l3.toInt64 (0 : Int64) (3 : Int64) M1).bind (fun u3 => (if u3 = 0 then some ((-1000000 : Int32), M1) else ((F_X12_isIn l4.toInt64 (0 : Int64) (3 : Int64) M1).bind (fun u4 => (if u4 = 0 then some ((-1000000 : Int32), M1) else ((F_X12_isIn l5.toInt64 (0 : Int64) (1 : Int64) M1).bind (fun u5 => (if u5 = 0 then some ((-1000000 : Int32), M1) else (q_ob M1 l0 12 ((F_X12_gameOf l0 l1 l2 l3 l4 l5 M1).bind (fun x => match x with | (u6, M7) => some (u6, M7)))))))))))))))))))
set_option maxRecDepth 100000 in
set_option maxHeartbeats 4000000 in
theorem c_X12_game (l : Launch) (G : q_G) (l0 : Nat) (l1 : Int32) (l2 : Int32) (l3 : Int32) (l4 : Int32) (l5 : Int32) (M : q_Mem) {r : Int32} {M' : q_Mem} (h : F_X12_game l0 l1 l2 l3 l4 l5 M = some (r, M')) : q_Met l G yX12_game cX12_game 6 (Option.some Jvm.ClassFile.FieldType.int) 136 2 0 [.ref l0, .int l1, .int l2, .int l3, .int l4, .int l5] M (some (.int r)) M' := by
  unfold F_X12_game at h
  refine q_enter [some (.ref l0), some (.int l1), some (.int l2), some (.int l3), some (.int l4), some (.int l5)] (by decide) (Nat.le_of_ble_eq_true rfl) rfl (fun K C => ?_)
  refine q_aload_n C dX12_game_0 rfl ?_
  refine x_iconst (v := (0 : Int32)) C dX12_game_1 (by decide) ?_
  refine x_putI (ci := 12) (j := 0) C dX12_game_2 lkF_X12_92 (fun r hr => by cases hr; rfl) rfl h (fun M1 h => ?_)
  refine q_aload_n C dX12_game_5 rfl ?_
  refine q_iload_n C dX12_game_6 rfl ?_
  refine q_iload_n C dX12_game_7 rfl ?_
  obtain ⟨hk, h⟩ := q_obE h
  obtain ⟨u2, e1, h⟩ := q_bind h
  refine x_callV0 C dX12_game_8 lkM_X12_440 mV_X12_isGame ⟨_, rfl, rfl⟩ hk (c_X12_isGame _ _ _ _ _ _ e1) rfl rfl (Nat.le_of_ble_eq_true rfl) (by decide) (by decide) ?_
  refine q_if_eq (tgt := 64) C dX12_game_11 (by decide) h (fun _ h => ?_) (fun _ h => ?_)
  · refine q_ldcw (v := (-1000000 : Int32)) C dX12_game_64 wd_1674 ?_
    exact q_iret C dX12_game_67 rfl (by decide) (by decide) (Option.some.inj h)
  · refine q_iload_n C dX12_game_14 rfl ?_
    refine q_i2l C dX12_game_15 ?_
    refine x_lconst (v := (0 : Int64)) C dX12_game_16 (by decide) ?_
    refine q_ldc2 (v := (3 : Int64)) C dX12_game_17 wd_1654 ?_
    obtain ⟨u3, e1, h⟩ := q_bind h
    refine x_callS0 C dX12_game_20 lkM_X12_213 mS_X12_isIn (c_X12_isIn _ _ _ _ _ _ e1) rfl rfl (Nat.le_of_ble_eq_true rfl) (by decide) (by decide) ?_
    refine q_if_eq (tgt := 64) C dX12_game_23 (by decide) h (fun _ h => ?_) (fun _ h => ?_)
    · refine q_ldcw (v := (-1000000 : Int32)) C dX12_game_64 wd_1674 ?_
      exact q_iret C dX12_game_67 rfl (by decide) (by decide) (Option.some.inj h)
    · refine q_iload C dX12_game_26 rfl ?_
      refine q_i2l C dX12_game_28 ?_
      refine x_lconst (v := (0 : Int64)) C dX12_game_29 (by decide) ?_
      refine q_ldc2 (v := (3 : Int64)) C dX12_game_30 wd_1654 ?_
      obtain ⟨u4, e1, h⟩ := q_bind h
      refine x_callS0 C dX12_game_33 lkM_X12_213 mS_X12_isIn (c_X12_isIn _ _ _ _ _ _ e1) rfl rfl (Nat.le_of_ble_eq_true rfl) (by decide) (by decide) ?_
      refine q_if_eq (tgt := 64) C dX12_game_36 (by decide) h (fun _ h => ?_) (fun _ h => ?_)
      · refine q_ldcw (v := (-1000000 : Int32)) C dX12_game_64 wd_1674 ?_
        exact q_iret C dX12_game_67 rfl (by decide) (by decide) (Option.some.inj h)
      · refine q_iload C dX12_game_39 rfl ?_
        refine q_i2l C dX12_game_41 ?_
        refine x_lconst (v := (0 : Int64)) C dX12_game_42 (by decide) ?_
        refine x_lconst (v := (1 : Int64)) C dX12_game_43 (by decide) ?_
        obtain ⟨u5, e1, h⟩ := q_bind h
        refine x_callS0 C dX12_game_44 lkM_X12_213 mS_X12_isIn (c_X12_isIn _ _ _ _ _ _ e1) rfl rfl (Nat.le_of_ble_eq_true rfl) (by decide) (by decide) ?_
        refine q_if_eq (tgt := 64) C dX12_game_47 (by decide) h (fun _ h => ?_) (fun _ h => ?_)
        · refine q_ldcw (v := (-1000000 : Int32)) C dX12_game_64 wd_1674 ?_
          exact q_iret C dX12_game_67 rfl (by decide) (by decide) (Option.some.inj h)
        · refine q_aload_n C dX12_game_50 rfl ?_
          refine q_iload_n C dX12_game_51 rfl ?_
          refine q_iload_n C dX12_game_52 rfl ?_
          refine q_iload_n C dX12_game_53 rfl ?_
          refine q_iload C dX12_game_54 rfl ?_
          refine q_iload C dX12_game_56 rfl ?_
          obtain ⟨hk, h⟩ := q_obE h
          obtain ⟨⟨u6, M7⟩, e1, h⟩ := q_bind h
          refine x_callV C dX12_game_58 lkM_X12_443 mV_X12_gameOf ⟨_, rfl, rfl⟩ hk (c_X12_gameOf _ _ _ _ _ _ _ _ _ e1) rfl rfl (Nat.le_of_ble_eq_true rfl) (by decide) (by decide) ?_
          refine q_goto (tgt := 67) C dX12_game_61 (by decide) ?_
          exact q_iret C dX12_game_67 rfl (by decide) (by decide) (Option.some.inj h)
noncomputable def B_X12_rests_24 (l0 : Nat) (l1 : Int32) (l2 : Int32) (l3 : Int32) (l4 : Int32) (M : q_Mem) : Option ((Int32 × q_Mem) ⊕ (q_Mem)) := (if l4 < (32 : Int32) then (q_gR M l0 12 46 (fun c3 => q_nn c3 (fun r4 => (q_dvi l4 (8 : Int32) (fun v5 => (q_dvi l4 (2 : Int32) (fun v6 => (q_rmi v6 (4 : Int32) (fun v7 => (q_rmi l4 (2 : Int32) (fun v8 => (q_ob M l0 12 ((F_X12_gameOf l0 l1 l2 v5 v7 v8 M).bind (fun x => match x with | (u9, M10) => (q_tI M10 r4 l4 u9 (fun M11 => some (.inl ((l4 + (1 : Int32)), M11)))))))))))))))))) else some (.inr M))
set_option maxRecDepth 100000 in
set_option maxHeartbeats 4000000 in
theorem bW_X12_rests_24 {K : q_K} {Q : State → Prop} (C : q_C K yX12_rests cX12_rests 9 (Option.some Jvm.ClassFile.FieldType.int) 136 2 0) (l0 : Nat) (l1 : Int32) (l2 : Int32) (l3 : Int32) (l4 : Int32) (M : q_Mem) {stp : (Int32 × q_Mem) ⊕ (q_Mem)} (h : B_X12_rests_24 l0 l1 l2 l3 l4 M = some stp) (kC : ∀ (l4 : Int32) (M : q_Mem), stp = .inl (l4, M) → q_W K 9 Q 0 0 M 24 [some (.ref l0), some (.int l1), some (.int l2), some (.int l3), some (.int l4), none, none, none, none] []) (kE0 : ∀ (M : q_Mem), stp = .inr M → q_W K 9 Q 0 0 M 65 [some (.ref l0), none, none, some (.int l3), none, none, none, none, none] []) : q_W K 9 Q 0 0 M 24 [some (.ref l0), some (.int l1), some (.int l2), some (.int l3), some (.int l4), none, none, none, none] [] := by
  unfold B_X12_rests_24 at h
  refine q_iload C dX12_rests_24 rfl ?_
  refine x_bipush (v := (32 : Int32)) C dX12_rests_26 (by decide) ?_
  refine q_icmp_ge (tgt := 65) C dX12_rests_28 (by decide) h (fun _ h => ?_) (fun _ h => ?_)
  · refine q_aload_n C dX12_rests_31 rfl ?_
    refine x_getR (ci := 12) (j := 46) C dX12_rests_32 lkF_X12_83 rfl h (fun c3 h => ?_)
    refine x_nn h (fun r4 h => ?_)
    refine q_iload C dX12_rests_35 rfl ?_
    refine q_aload_n C dX12_rests_37 rfl ?_
    refine q_iload_n C dX12_rests_38 rfl ?_
    refine q_iload_n C dX12_rests_39 rfl ?_
    refine q_iload C dX12_rests_40 rfl ?_
    refine x_bipush (v := (8 : Int32)) C dX12_rests_42 (by decide) ?_
    refine q_idiv C dX12_rests_44 h (fun v5 h => ?_)
    refine q_iload C dX12_rests_45 rfl ?_
    refine x_iconst (v := (2 : Int32)) C dX12_rests_47 (by decide) ?_
    refine q_idiv C dX12_rests_48 h (fun v6 h => ?_)
    refine x_iconst (v := (4 : Int32)) C dX12_rests_49 (by decide) ?_
    refine q_irem C dX12_rests_50 h (fun v7 h => ?_)
    refine q_iload C dX12_rests_51 rfl ?_
    refine x_iconst (v := (2 : Int32)) C dX12_rests_53 (by decide) ?_
    refine q_irem C dX12_rests_54 h (fun v8 h => ?_)
    obtain ⟨hk, h⟩ := q_obE h
    obtain ⟨⟨u9, M10⟩, e1, h⟩ := q_bind h
    refine x_callV C dX12_rests_55 lkM_X12_443 mV_X12_gameOf ⟨_, rfl, rfl⟩ hk (c_X12_gameOf _ _ _ _ _ _ _ _ _ e1) rfl rfl (Nat.le_of_ble_eq_true rfl) (by decide) (by decide) ?_
    refine x_iast C dX12_rests_58 h (fun M11 h => ?_)
    refine x_iinc (w := (1 : Int32)) (L' := [some (.ref l0), some (.int l1), some (.int l2), some (.int l3), some (.int (l4 + (1 : Int32))), none, none, none, none]) C dX12_rests_59 rfl (by decide) (by decide) rfl rfl ?_
    refine q_goto (tgt := 24) C dX12_rests_62 (by decide) ?_
    exact q_msk [true, true, true, true, true, false, false, false, false] (kC _ _ (Option.some.inj h).symm)
  · exact q_msk [true, false, false, true, false, false, false, false, false] (kE0 _ (Option.some.inj h).symm)
set_option maxRecDepth 100000 in
set_option maxHeartbeats 4000000 in
theorem lW_X12_rests_24 {K : q_K} {Q : State → Prop} (C : q_C K yX12_rests cX12_rests 9 (Option.some Jvm.ClassFile.FieldType.int) 136 2 0) (l0 : Nat) (l1 : Int32) (l2 : Int32) (l3 : Int32) (n : Nat) : ∀ (l4 : Int32) (M : q_Mem) (e : (q_Mem)), q_lp (fun s => B_X12_rests_24 l0 l1 l2 l3 s.1 s.2) n (l4, M) = some e → (∀ (M : q_Mem), e = M → q_W K 9 Q 0 0 M 65 [some (.ref l0), none, none, some (.int l3), none, none, none, none, none] []) → q_W K 9 Q 0 0 M 24 [some (.ref l0), some (.int l1), some (.int l2), some (.int l3), some (.int l4), none, none, none, none] [] := by
  induction n with
  | zero => intro l4 M e h; cases h
  | succ n ih =>
    intro l4 M e h kE0
    obtain ⟨stp, e1, e2⟩ := q_bind h
    refine bW_X12_rests_24 C l0 l1 l2 l3 l4 M e1 (fun a0 a1 hs => ?_) (fun b0 hs => ?_)
    · subst hs; exact ih _ _ _ e2 kE0
    · subst hs; exact kE0 _ (Option.some.inj e2).symm
noncomputable def J_X12_rests_178_92 (l0 : Nat) (l3 : Int32) (l4 : Int32) (l5 : Int32) (l6 : Int32) (l8 : Int32) (s0 : Int32) (M : q_Mem) : Option ((Int32 × Int32) ⊕ (Int32)) := some (.inl (s0, (l8 + (1 : Int32))))
set_option maxRecDepth 100000 in
set_option maxHeartbeats 4000000 in
theorem jW_X12_rests_178_92 {K : q_K} {Q : State → Prop} (C : q_C K yX12_rests cX12_rests 9 (Option.some Jvm.ClassFile.FieldType.int) 136 2 0) (l0 : Nat) (l3 : Int32) (l4 : Int32) (l5 : Int32) (l6 : Int32) (l8 : Int32) (s0 : Int32) (M : q_Mem) {stp : (Int32 × Int32) ⊕ (Int32)} (h : J_X12_rests_178_92 l0 l3 l4 l5 l6 l8 s0 M = some stp) (kC : ∀ (l7 : Int32) (l8 : Int32), stp = .inl (l7, l8) → q_W K 9 Q 0 0 M 92 [some (.ref l0), none, none, some (.int l3), some (.int l4), some (.int l5), some (.int l6), some (.int l7), some (.int l8)] []) (kE0 : ∀ (l7 : Int32), stp = .inr l7 → q_W K 9 Q 0 0 M 186 [some (.ref l0), none, none, some (.int l3), some (.int l4), some (.int l5), some (.int l6), some (.int l7), none] []) : q_W K 9 Q 0 0 M 178 [some (.ref l0), none, none, some (.int l3), some (.int l4), some (.int l5), some (.int l6), none, some (.int l8)] [.int s0] := by
  unfold J_X12_rests_178_92 at h
  refine q_istore (L' := [some (.ref l0), none, none, some (.int l3), some (.int l4), some (.int l5), some (.int l6), some (.int s0), some (.int l8)]) C dX12_rests_178 (by decide) rfl rfl ?_
  refine x_iinc (w := (1 : Int32)) (L' := [some (.ref l0), none, none, some (.int l3), some (.int l4), some (.int l5), some (.int l6), some (.int s0), some (.int (l8 + (1 : Int32)))]) C dX12_rests_180 rfl (by decide) (by decide) rfl rfl ?_
  refine q_goto (tgt := 92) C dX12_rests_183 (by decide) ?_
  exact q_msk [true, false, false, true, true, true, true, true, true] (kC _ _ (Option.some.inj h).symm)
noncomputable def J_X12_rests_177_92 (l0 : Nat) (l3 : Int32) (l4 : Int32) (l5 : Int32) (l6 : Int32) (l8 : Int32) (M : q_Mem) : Option ((Int32 × Int32) ⊕ (Int32)) := J_X12_rests_178_92 l0 l3 l4 l5 l6 l8 (0 : Int32) M
set_option maxRecDepth 100000 in
set_option maxHeartbeats 4000000 in
theorem jW_X12_rests_177_92 {K : q_K} {Q : State → Prop} (C : q_C K yX12_rests cX12_rests 9 (Option.some Jvm.ClassFile.FieldType.int) 136 2 0) (l0 : Nat) (l3 : Int32) (l4 : Int32) (l5 : Int32) (l6 : Int32) (l8 : Int32) (M : q_Mem) {stp : (Int32 × Int32) ⊕ (Int32)} (h : J_X12_rests_177_92 l0 l3 l4 l5 l6 l8 M = some stp) (kC : ∀ (l7 : Int32) (l8 : Int32), stp = .inl (l7, l8) → q_W K 9 Q 0 0 M 92 [some (.ref l0), none, none, some (.int l3), some (.int l4), some (.int l5), some (.int l6), some (.int l7), some (.int l8)] []) (kE0 : ∀ (l7 : Int32), stp = .inr l7 → q_W K 9 Q 0 0 M 186 [some (.ref l0), none, none, some (.int l3), some (.int l4), some (.int l5), some (.int l6), some (.int l7), none] []) : q_W K 9 Q 0 0 M 177 [some (.ref l0), none, none, some (.int l3), some (.int l4), some (.int l5), some (.int l6), none, some (.int l8)] [] := by
  unfold J_X12_rests_177_92 at h
  refine x_iconst (v := (0 : Int32)) C dX12_rests_177 (by decide) ?_
  exact q_msk [true, false, false, true, true, true, true, false, true] (jW_X12_rests_178_92 C l0 l3 l4 l5 l6 l8 (0 : Int32) M h kC kE0)
noncomputable def B_X12_rests_92 (l0 : Nat) (l3 : Int32) (l4 : Int32) (l5 : Int32) (l6 : Int32) (l7 : Int32) (l8 : Int32) (M : q_Mem) : Option ((Int32 × Int32) ⊕ (Int32)) := (if l8 < (4 : Int32) then (if l7 = 0 then J_X12_rests_177_92 l0 l3 l4 l5 l6 l8 M else (q_gR M l0 12 46 (fun c14 => q_nn c14 (fun r15 => (q_lI M 0 r15 (((8 : Int32) * l8) + ((2 : Int32) * l6)) (fun v16 => (q_gR M l0 12 46 (fun c17 => q_nn c17 (fun r18 => (q_lI M 0 r18 (((8 : Int32) * l5) + ((2 : Int32) * l6)) (fun v19 => (if v19 < v16 then J_X12_rests_177_92 l0 l3 l4 l5 l6 l8 M else (q_gR M l0 12 46 (fun c20 => q_nn c20 (fun r21 => (q_lI M 0 r21 ((((8 : Int32) * l5) + ((2 : Int32) * l8)) + (1 : Int32)) (fun v22 => (q_gR M l0 12 46 (fun c23 => q_nn c23 (fun r24 => (q_lI M 0 r24 ((((8 : Int32) * l5) + ((2 : Int32) * l6)) + (1 : Int32)) (fun v25 => (if v25 < v22 then J_X12_rests_177_92 l0 l3 l4 l5 l6 l8 M else J_X12_rests_178_92 l0 l3 l4 l5 l6 l8 (1 : Int32) M))))))))))))))))))))))) else some (.inr l7))
set_option maxRecDepth 100000 in
set_option maxHeartbeats 4000000 in
theorem bW_X12_rests_92 {K : q_K} {Q : State → Prop} (C : q_C K yX12_rests cX12_rests 9 (Option.some Jvm.ClassFile.FieldType.int) 136 2 0) (l0 : Nat) (l3 : Int32) (l4 : Int32) (l5 : Int32) (l6 : Int32) (l7 : Int32) (l8 : Int32) (M : q_Mem) {stp : (Int32 × Int32) ⊕ (Int32)} (h : B_X12_rests_92 l0 l3 l4 l5 l6 l7 l8 M = some stp) (kC : ∀ (l7 : Int32) (l8 : Int32), stp = .inl (l7, l8) → q_W K 9 Q 0 0 M 92 [some (.ref l0), none, none, some (.int l3), some (.int l4), some (.int l5), some (.int l6), some (.int l7), some (.int l8)] []) (kE0 : ∀ (l7 : Int32), stp = .inr l7 → q_W K 9 Q 0 0 M 186 [some (.ref l0), none, none, some (.int l3), some (.int l4), some (.int l5), some (.int l6), some (.int l7), none] []) : q_W K 9 Q 0 0 M 92 [some (.ref l0), none, none, some (.int l3), some (.int l4), some (.int l5), some (.int l6), some (.int l7), some (.int l8)] [] := by
  unfold B_X12_rests_92 at h
  refine q_iload C dX12_rests_92 rfl ?_
  refine x_iconst (v := (4 : Int32)) C dX12_rests_94 (by decide) ?_
  refine q_icmp_ge (tgt := 186) C dX12_rests_95 (by decide) h (fun _ h => ?_) (fun _ h => ?_)
  · refine q_iload C dX12_rests_98 rfl ?_
    refine q_if_eq (tgt := 177) C dX12_rests_100 (by decide) h (fun _ h => ?_) (fun _ h => ?_)
    · exact q_msk [true, false, false, true, true, true, true, false, true] (jW_X12_rests_177_92 C l0 l3 l4 l5 l6 l8 M h kC kE0)
    · refine q_aload_n C dX12_rests_103 rfl ?_
      refine x_getR (ci := 12) (j := 46) C dX12_rests_104 lkF_X12_83 rfl h (fun c14 h => ?_)
      refine x_nn h (fun r15 h => ?_)
      refine x_bipush (v := (8 : Int32)) C dX12_rests_107 (by decide) ?_
      refine q_iload C dX12_rests_109 rfl ?_
      refine q_imul C dX12_rests_111 ?_
      refine x_iconst (v := (2 : Int32)) C dX12_rests_112 (by decide) ?_
      refine q_iload C dX12_rests_113 rfl ?_
      refine q_imul C dX12_rests_115 ?_
      refine q_iadd C dX12_rests_116 ?_
      refine x_iald C dX12_rests_117 h (fun v16 h => ?_)
      refine q_aload_n C dX12_rests_118 rfl ?_
      refine x_getR (ci := 12) (j := 46) C dX12_rests_119 lkF_X12_83 rfl h (fun c17 h => ?_)
      refine x_nn h (fun r18 h => ?_)
      refine x_bipush (v := (8 : Int32)) C dX12_rests_122 (by decide) ?_
      refine q_iload C dX12_rests_124 rfl ?_
      refine q_imul C dX12_rests_126 ?_
      refine x_iconst (v := (2 : Int32)) C dX12_rests_127 (by decide) ?_
      refine q_iload C dX12_rests_128 rfl ?_
      refine q_imul C dX12_rests_130 ?_
      refine q_iadd C dX12_rests_131 ?_
      refine x_iald C dX12_rests_132 h (fun v19 h => ?_)
      refine q_icmp_gt (tgt := 177) C dX12_rests_133 (by decide) h (fun _ h => ?_) (fun _ h => ?_)
      · exact q_msk [true, false, false, true, true, true, true, false, true] (jW_X12_rests_177_92 C l0 l3 l4 l5 l6 l8 M h kC kE0)
      · refine q_aload_n C dX12_rests_136 rfl ?_
        refine x_getR (ci := 12) (j := 46) C dX12_rests_137 lkF_X12_83 rfl h (fun c20 h => ?_)
        refine x_nn h (fun r21 h => ?_)
        refine x_bipush (v := (8 : Int32)) C dX12_rests_140 (by decide) ?_
        refine q_iload C dX12_rests_142 rfl ?_
        refine q_imul C dX12_rests_144 ?_
        refine x_iconst (v := (2 : Int32)) C dX12_rests_145 (by decide) ?_
        refine q_iload C dX12_rests_146 rfl ?_
        refine q_imul C dX12_rests_148 ?_
        refine q_iadd C dX12_rests_149 ?_
        refine x_iconst (v := (1 : Int32)) C dX12_rests_150 (by decide) ?_
        refine q_iadd C dX12_rests_151 ?_
        refine x_iald C dX12_rests_152 h (fun v22 h => ?_)
        refine q_aload_n C dX12_rests_153 rfl ?_
        refine x_getR (ci := 12) (j := 46) C dX12_rests_154 lkF_X12_83 rfl h (fun c23 h => ?_)
        refine x_nn h (fun r24 h => ?_)
        refine x_bipush (v := (8 : Int32)) C dX12_rests_157 (by decide) ?_
        refine q_iload C dX12_rests_159 rfl ?_
        refine q_imul C dX12_rests_161 ?_
        refine x_iconst (v := (2 : Int32)) C dX12_rests_162 (by decide) ?_
        refine q_iload C dX12_rests_163 rfl ?_
        refine q_imul C dX12_rests_165 ?_
        refine q_iadd C dX12_rests_166 ?_
        refine x_iconst (v := (1 : Int32)) C dX12_rests_167 (by decide) ?_
        refine q_iadd C dX12_rests_168 ?_
        refine x_iald C dX12_rests_169 h (fun v25 h => ?_)
        refine q_icmp_gt (tgt := 177) C dX12_rests_170 (by decide) h (fun _ h => ?_) (fun _ h => ?_)
        · exact q_msk [true, false, false, true, true, true, true, false, true] (jW_X12_rests_177_92 C l0 l3 l4 l5 l6 l8 M h kC kE0)
        · refine x_iconst (v := (1 : Int32)) C dX12_rests_173 (by decide) ?_
          refine q_goto (tgt := 178) C dX12_rests_174 (by decide) ?_
          exact q_msk [true, false, false, true, true, true, true, false, true] (jW_X12_rests_178_92 C l0 l3 l4 l5 l6 l8 (1 : Int32) M h kC kE0)
  · exact q_msk [true, false, false, true, true, true, true, true, false] (kE0 _ (Option.some.inj h).symm)
set_option maxRecDepth 100000 in
set_option maxHeartbeats 4000000 in
theorem lW_X12_rests_92 {K : q_K} {Q : State → Prop} (C : q_C K yX12_rests cX12_rests 9 (Option.some Jvm.ClassFile.FieldType.int) 136 2 0) (l0 : Nat) (l3 : Int32) (l4 : Int32) (l5 : Int32) (l6 : Int32) (M : q_Mem) (n : Nat) : ∀ (l7 : Int32) (l8 : Int32) (e : (Int32)), q_lp (fun s => B_X12_rests_92 l0 l3 l4 l5 l6 s.1 s.2 M) n (l7, l8) = some e → (∀ (l7 : Int32), e = l7 → q_W K 9 Q 0 0 M 186 [some (.ref l0), none, none, some (.int l3), some (.int l4), some (.int l5), some (.int l6), some (.int l7), none] []) → q_W K 9 Q 0 0 M 92 [some (.ref l0), none, none, some (.int l3), some (.int l4), some (.int l5), some (.int l6), some (.int l7), some (.int l8)] [] := by
  induction n with
  | zero => intro l7 l8 e h; cases h
  | succ n ih =>
    intro l7 l8 e h kE0
    obtain ⟨stp, e1, e2⟩ := q_bind h
    refine bW_X12_rests_92 C l0 l3 l4 l5 l6 l7 l8 M e1 (fun a0 a1 hs => ?_) (fun b0 hs => ?_)
    · subst hs; exact ih _ _ _ e2 kE0
    · subst hs; exact kE0 _ (Option.some.inj e2).symm
noncomputable def J_X12_rests_212_80 (l0 : Nat) (l3 : Int32) (l4 : Int32) (l5 : Int32) (l6 : Int32) (M : q_Mem) : Option ((Int32 × Int32) ⊕ ((Int32) ⊕ (Int32))) := some (.inl (l4, (l6 + (1 : Int32))))
set_option maxRecDepth 100000 in
set_option maxHeartbeats 4000000 in
theorem jW_X12_rests_212_80 {K : q_K} {Q : State → Prop} (C : q_C K yX12_rests cX12_rests 9 (Option.some Jvm.ClassFile.FieldType.int) 136 2 0) (l0 : Nat) (l3 : Int32) (l4 : Int32) (l5 : Int32) (l6 : Int32) (M : q_Mem) {stp : (Int32 × Int32) ⊕ ((Int32) ⊕ (Int32))} (h : J_X12_rests_212_80 l0 l3 l4 l5 l6 M = some stp) (kC : ∀ (l4 : Int32) (l6 : Int32), stp = .inl (l4, l6) → q_W K 9 Q 0 0 M 80 [some (.ref l0), none, none, some (.int l3), some (.int l4), some (.int l5), some (.int l6), none, none] []) (kE0 : ∀ (l6 : Int32), stp = .inr (.inl l6) → q_W K 9 Q 0 0 M 200 [none, none, none, none, none, some (.int l5), some (.int l6), none, none] []) (kE1 : ∀ (l4 : Int32), stp = .inr (.inr l4) → q_W K 9 Q 0 0 M 218 [some (.ref l0), none, none, some (.int l3), some (.int l4), some (.int l5), none, none, none] []) : q_W K 9 Q 0 0 M 212 [some (.ref l0), none, none, some (.int l3), some (.int l4), some (.int l5), some (.int l6), none, none] [] := by
  unfold J_X12_rests_212_80 at h
  refine x_iinc (w := (1 : Int32)) (L' := [some (.ref l0), none, none, some (.int l3), some (.int l4), some (.int l5), some (.int (l6 + (1 : Int32))), none, none]) C dX12_rests_212 rfl (by decide) (by decide) rfl rfl ?_
  refine q_goto (tgt := 80) C dX12_rests_215 (by decide) ?_
  exact q_msk [true, false, false, true, true, true, true, false, false] (kC _ _ (Option.some.inj h).symm)
noncomputable def B_X12_rests_80 (l0 : Nat) (l3 : Int32) (l5 : Int32) (l4 : Int32) (l6 : Int32) (M : q_Mem) : Option ((Int32 × Int32) ⊕ ((Int32) ⊕ (Int32))) := (if l6 < (4 : Int32) then (q_lp (fun s => B_X12_rests_92 l0 l3 l4 l5 l6 s.1 s.2 M) q_fu ((1 : Int32), (0 : Int32))).bind (fun e26 => match e26 with | w27 => (if w27 = 0 then J_X12_rests_212_80 l0 l3 l4 l5 l6 M else (if l4 = l3 then some (.inr (.inl l6)) else J_X12_rests_212_80 l0 l3 (l4 + (1 : Int32)) l5 l6 M))) else some (.inr (.inr l4)))
set_option maxRecDepth 100000 in
set_option maxHeartbeats 4000000 in
theorem bW_X12_rests_80 {K : q_K} {Q : State → Prop} (C : q_C K yX12_rests cX12_rests 9 (Option.some Jvm.ClassFile.FieldType.int) 136 2 0) (l0 : Nat) (l3 : Int32) (l4 : Int32) (l5 : Int32) (l6 : Int32) (M : q_Mem) {stp : (Int32 × Int32) ⊕ ((Int32) ⊕ (Int32))} (h : B_X12_rests_80 l0 l3 l5 l4 l6 M = some stp) (kC : ∀ (l4 : Int32) (l6 : Int32), stp = .inl (l4, l6) → q_W K 9 Q 0 0 M 80 [some (.ref l0), none, none, some (.int l3), some (.int l4), some (.int l5), some (.int l6), none, none] []) (kE0 : ∀ (l6 : Int32), stp = .inr (.inl l6) → q_W K 9 Q 0 0 M 200 [none, none, none, none, none, some (.int l5), some (.int l6), none, none] []) (kE1 : ∀ (l4 : Int32), stp = .inr (.inr l4) → q_W K 9 Q 0 0 M 218 [some (.ref l0), none, none, some (.int l3), some (.int l4), some (.int l5), none, none, none] []) : q_W K 9 Q 0 0 M 80 [some (.ref l0), none, none, some (.int l3), some (.int l4), some (.int l5), some (.int l6), none, none] [] := by
  unfold B_X12_rests_80 at h
  refine q_iload C dX12_rests_80 rfl ?_
  refine x_iconst (v := (4 : Int32)) C dX12_rests_82 (by decide) ?_
  refine q_icmp_ge (tgt := 218) C dX12_rests_83 (by decide) h (fun _ h => ?_) (fun _ h => ?_)
  · refine x_iconst (v := (1 : Int32)) C dX12_rests_86 (by decide) ?_
    refine q_istore (L' := [some (.ref l0), none, none, some (.int l3), some (.int l4), some (.int l5), some (.int l6), some (.int (1 : Int32)), none]) C dX12_rests_87 (by decide) rfl rfl ?_
    refine x_iconst (v := (0 : Int32)) C dX12_rests_89 (by decide) ?_
    refine q_istore (L' := [some (.ref l0), none, none, some (.int l3), some (.int l4), some (.int l5), some (.int l6), some (.int (1 : Int32)), some (.int (0 : Int32))]) C dX12_rests_90 (by decide) rfl rfl ?_
    obtain ⟨e26, he, h⟩ := q_bind h
    refine q_msk [true, false, false, true, true, true, true, true, true] (lW_X12_rests_92 C l0 l3 l4 l5 l6 M q_fu _ _ _ he (fun w27 hs => ?_))
    · have hs := hs.symm
      subst hs
      refine q_iload C dX12_rests_186 rfl ?_
      refine q_if_ne (tgt := 194) C dX12_rests_188 (by decide) h (fun _ h => ?_) (fun _ h => ?_)
      · refine q_goto (tgt := 212) C dX12_rests_191 (by decide) ?_
        exact q_msk [true, false, false, true, true, true, true, false, false] (jW_X12_rests_212_80 C l0 l3 l4 l5 l6 M h kC kE0 kE1)
      · refine q_iload C dX12_rests_194 rfl ?_
        refine q_iload_n C dX12_rests_196 rfl ?_
        refine q_icmp_ne (tgt := 209) C dX12_rests_197 (by decide) h (fun _ h => ?_) (fun _ h => ?_)
        · exact q_msk [false, false, false, false, false, true, true, false, false] (kE0 _ (Option.some.inj h).symm)
        · refine x_iinc (w := (1 : Int32)) (L' := [some (.ref l0), none, none, some (.int l3), some (.int (l4 + (1 : Int32))), some (.int l5), some (.int l6), some (.int w27), none]) C dX12_rests_209 rfl (by decide) (by decide) rfl rfl ?_
          exact q_msk [true, false, false, true, true, true, true, false, false] (jW_X12_rests_212_80 C l0 l3 (l4 + (1 : Int32)) l5 l6 M h kC kE0 kE1)
  · exact q_msk [true, false, false, true, true, true, false, false, false] (kE1 _ (Option.some.inj h).symm)
set_option maxRecDepth 100000 in
set_option maxHeartbeats 4000000 in
theorem lW_X12_rests_80 {K : q_K} {Q : State → Prop} (C : q_C K yX12_rests cX12_rests 9 (Option.some Jvm.ClassFile.FieldType.int) 136 2 0) (l0 : Nat) (l3 : Int32) (l5 : Int32) (M : q_Mem) (n : Nat) : ∀ (l4 : Int32) (l6 : Int32) (e : ((Int32) ⊕ (Int32))), q_lp (fun s => B_X12_rests_80 l0 l3 l5 s.1 s.2 M) n (l4, l6) = some e → (∀ (l6 : Int32), e = (.inl l6) → q_W K 9 Q 0 0 M 200 [none, none, none, none, none, some (.int l5), some (.int l6), none, none] []) → (∀ (l4 : Int32), e = (.inr l4) → q_W K 9 Q 0 0 M 218 [some (.ref l0), none, none, some (.int l3), some (.int l4), some (.int l5), none, none, none] []) → q_W K 9 Q 0 0 M 80 [some (.ref l0), none, none, some (.int l3), some (.int l4), some (.int l5), some (.int l6), none, none] [] := by
  induction n with
  | zero => intro l4 l6 e h; cases h
  | succ n ih =>
    intro l4 l6 e h kE0 kE1
    obtain ⟨stp, e1, e2⟩ := q_bind h
    refine bW_X12_rests_80 C l0 l3 l4 l5 l6 M e1 (fun a0 a1 hs => ?_) (fun b0 hs => ?_) (fun b0 hs => ?_)
    · subst hs; exact ih _ _ _ e2 kE0 kE1
    · subst hs; exact kE0 _ (Option.some.inj e2).symm
    · subst hs; exact kE1 _ (Option.some.inj e2).symm
noncomputable def B_X12_rests_71 (l0 : Nat) (l3 : Int32) (l4 : Int32) (l5 : Int32) (M : q_Mem) : Option ((Int32 × Int32) ⊕ ((Int32 × Int32) ⊕ (Int32))) := (if l5 < (4 : Int32) then (q_lp (fun s => B_X12_rests_80 l0 l3 l5 s.1 s.2 M) q_fu (l4, (0 : Int32))).bind (fun e28 => match e28 with | .inl w29 => some (.inr (.inl (l5, w29))) | .inr w30 => some (.inl (w30, (l5 + (1 : Int32))))) else some (.inr (.inr l4)))
set_option maxRecDepth 100000 in
set_option maxHeartbeats 4000000 in
theorem bW_X12_rests_71 {K : q_K} {Q : State → Prop} (C : q_C K yX12_rests cX12_rests 9 (Option.some Jvm.ClassFile.FieldType.int) 136 2 0) (l0 : Nat) (l3 : Int32) (l4 : Int32) (l5 : Int32) (M : q_Mem) {stp : (Int32 × Int32) ⊕ ((Int32 × Int32) ⊕ (Int32))} (h : B_X12_rests_71 l0 l3 l4 l5 M = some stp) (kC : ∀ (l4 : Int32) (l5 : Int32), stp = .inl (l4, l5) → q_W K 9 Q 0 0 M 71 [some (.ref l0), none, none, some (.int l3), some (.int l4), some (.int l5), none, none, none] []) (kE0 : ∀ (l5 : Int32) (l6 : Int32), stp = .inr (.inl (l5, l6)) → q_W K 9 Q 0 0 M 200 [none, none, none, none, none, some (.int l5), some (.int l6), none, none] []) (kE1 : ∀ (l4 : Int32), stp = .inr (.inr l4) → q_W K 9 Q 0 0 M 224 [none, none, none, some (.int l3), some (.int l4), none, none, none, none] []) : q_W K 9 Q 0 0 M 71 [some (.ref l0), none, none, some (.int l3), some (.int l4), some (.int l5), none, none, none] [] := by
  unfold B_X12_rests_71 at h
  refine q_iload C dX12_rests_71 rfl ?_
  refine x_iconst (v := (4 : Int32)) C dX12_rests_73 (by decide) ?_
  refine q_icmp_ge (tgt := 224) C dX12_rests_74 (by decide) h (fun _ h => ?_) (fun _ h => ?_)
  · refine x_iconst (v := (0 : Int32)) C dX12_rests_77 (by decide) ?_
    refine q_istore (L' := [some (.ref l0), none, none, some (.int l3), some (.int l4), some (.int l5), some (.int (0 : Int32)), none, none]) C dX12_rests_78 (by decide) rfl rfl ?_
    obtain ⟨e28, he, h⟩ := q_bind h
    refine q_msk [true, false, false, true, true, true, true, false, false] (lW_X12_rests_80 C l0 l3 l5 M q_fu _ _ _ he (fun w29 hs => ?_) (fun w30 hs => ?_))
    · have hs := hs.symm
      subst hs
      exact q_msk [false, false, false, false, false, true, true, false, false] (kE0 _ _ (Option.some.inj h).symm)
    · have hs := hs.symm
      subst hs
      refine x_iinc (w := (1 : Int32)) (L' := [some (.ref l0), none, none, some (.int l3), some (.int w30), some (.int (l5 + (1 : Int32))), none, none, none]) C dX12_rests_218 rfl (by decide) (by decide) rfl rfl ?_
      refine q_goto (tgt := 71) C dX12_rests_221 (by decide) ?_
      exact q_msk [true, false, false, true, true, true, false, false, false] (kC _ _ (Option.some.inj h).symm)
  · exact q_msk [false, false, false, true, true, false, false, false, false] (kE1 _ (Option.some.inj h).symm)
set_option maxRecDepth 100000 in
set_option maxHeartbeats 4000000 in
theorem lW_X12_rests_71 {K : q_K} {Q : State → Prop} (C : q_C K yX12_rests cX12_rests 9 (Option.some Jvm.ClassFile.FieldType.int) 136 2 0) (l0 : Nat) (l3 : Int32) (M : q_Mem) (n : Nat) : ∀ (l4 : Int32) (l5 : Int32) (e : ((Int32 × Int32) ⊕ (Int32))), q_lp (fun s => B_X12_rests_71 l0 l3 s.1 s.2 M) n (l4, l5) = some e → (∀ (l5 : Int32) (l6 : Int32), e = (.inl (l5, l6)) → q_W K 9 Q 0 0 M 200 [none, none, none, none, none, some (.int l5), some (.int l6), none, none] []) → (∀ (l4 : Int32), e = (.inr l4) → q_W K 9 Q 0 0 M 224 [none, none, none, some (.int l3), some (.int l4), none, none, none, none] []) → q_W K 9 Q 0 0 M 71 [some (.ref l0), none, none, some (.int l3), some (.int l4), some (.int l5), none, none, none] [] := by
  induction n with
  | zero => intro l4 l5 e h; cases h
  | succ n ih =>
    intro l4 l5 e h kE0 kE1
    obtain ⟨stp, e1, e2⟩ := q_bind h
    refine bW_X12_rests_71 C l0 l3 l4 l5 M e1 (fun a0 a1 hs => ?_) (fun b0 b1 hs => ?_) (fun b0 hs => ?_)
    · subst hs; exact ih _ _ _ e2 kE0 kE1
    · subst hs; exact kE0 _ _ (Option.some.inj e2).symm
    · subst hs; exact kE1 _ (Option.some.inj e2).symm
noncomputable def F_X12_rests (l0 : Nat) (l1 : Int32) (l2 : Int32) (l3 : Int32) (M : q_Mem) : Option (Int32 × q_Mem) := (q_pI M l0 12 0 (0 : Int32) (fun M1 => (q_ob M1 l0 12 ((F_X12_isGame l0 l1 l2 M1).bind (fun u2 => (if u2 = 0 then some ((-1 : Int32), M1) else (if l3 < (-1 : Int32) then some ((-1 : Int32), M1) else (q_lp (fun s => B_X12_rests_24 l0 l1 l2 l3 s.1 s.2) q_fu ((0 : Int32), M1)).bind (fun e12 => match e12 with | M13 => (q_lp (fun s => B_X12_rests_71 l0 l3 s.1 s.2 M13) q_fu ((0 : Int32), (0 : Int32))).bind (fun e31 => match e31 with | .inl (w32, w33) => some ((((10 : Int32) * w32) + w33), M13) | .inr w34 => (if l3 = (-1 : Int32) then some (w34, M13) else some ((-1 : Int32), M13)))))))))))
set_option maxRecDepth 100000 in
set_option maxHeartbeats 4000000 in
theorem c_X12_rests (l : Launch) (G : q_G) (l0 : Nat) (l1 : Int32) (l2 : Int32) (l3 : Int32) (M : q_Mem) {r : Int32} {M' : q_Mem} (h : F_X12_rests l0 l1 l2 l3 M = some (r, M')) : q_Met l G yX12_rests cX12_rests 9 (Option.some Jvm.ClassFile.FieldType.int) 136 2 0 [.ref l0, .int l1, .int l2, .int l3] M (some (.int r)) M' := by
  unfold F_X12_rests at h
  refine q_enter [some (.ref l0), some (.int l1), some (.int l2), some (.int l3), none, none, none, none, none] (by decide) (Nat.le_of_ble_eq_true rfl) rfl (fun K C => ?_)
  refine q_aload_n C dX12_rests_0 rfl ?_
  refine x_iconst (v := (0 : Int32)) C dX12_rests_1 (by decide) ?_
  refine x_putI (ci := 12) (j := 0) C dX12_rests_2 lkF_X12_92 (fun r hr => by cases hr; rfl) rfl h (fun M1 h => ?_)
  refine q_aload_n C dX12_rests_5 rfl ?_
  refine q_iload_n C dX12_rests_6 rfl ?_
  refine q_iload_n C dX12_rests_7 rfl ?_
  obtain ⟨hk, h⟩ := q_obE h
  obtain ⟨u2, e1, h⟩ := q_bind h
  refine x_callV0 C dX12_rests_8 lkM_X12_440 mV_X12_isGame ⟨_, rfl, rfl⟩ hk (c_X12_isGame _ _ _ _ _ _ e1) rfl rfl (Nat.le_of_ble_eq_true rfl) (by decide) (by decide) ?_
  refine q_if_eq (tgt := 19) C dX12_rests_11 (by decide) h (fun _ h => ?_) (fun _ h => ?_)
  · refine x_iconst (v := (-1 : Int32)) C dX12_rests_19 (by decide) ?_
    exact q_iret C dX12_rests_20 rfl (by decide) (by decide) (Option.some.inj h)
  · refine q_iload_n C dX12_rests_14 rfl ?_
    refine x_iconst (v := (-1 : Int32)) C dX12_rests_15 (by decide) ?_
    refine q_icmp_ge (tgt := 21) C dX12_rests_16 (by decide) h (fun _ h => ?_) (fun _ h => ?_)
    · refine x_iconst (v := (-1 : Int32)) C dX12_rests_19 (by decide) ?_
      exact q_iret C dX12_rests_20 rfl (by decide) (by decide) (Option.some.inj h)
    · refine x_iconst (v := (0 : Int32)) C dX12_rests_21 (by decide) ?_
      refine q_istore (L' := [some (.ref l0), some (.int l1), some (.int l2), some (.int l3), some (.int (0 : Int32)), none, none, none, none]) C dX12_rests_22 (by decide) rfl rfl ?_
      obtain ⟨e12, he, h⟩ := q_bind h
      refine q_msk [true, true, true, true, true, false, false, false, false] (lW_X12_rests_24 C l0 l1 l2 l3 q_fu _ _ _ he (fun M13 hs => ?_))
      · have hs := hs.symm
        subst hs
        refine x_iconst (v := (0 : Int32)) C dX12_rests_65 (by decide) ?_
        refine q_istore (L' := [some (.ref l0), none, none, some (.int l3), some (.int (0 : Int32)), none, none, none, none]) C dX12_rests_66 (by decide) rfl rfl ?_
        refine x_iconst (v := (0 : Int32)) C dX12_rests_68 (by decide) ?_
        refine q_istore (L' := [some (.ref l0), none, none, some (.int l3), some (.int (0 : Int32)), some (.int (0 : Int32)), none, none, none]) C dX12_rests_69 (by decide) rfl rfl ?_
        obtain ⟨e31, he, h⟩ := q_bind h
        refine q_msk [true, false, false, true, true, true, false, false, false] (lW_X12_rests_71 C l0 l3 M13 q_fu _ _ _ he (fun w32 w33 hs => ?_) (fun w34 hs => ?_))
        · have hs := hs.symm
          subst hs
          refine x_bipush (v := (10 : Int32)) C dX12_rests_200 (by decide) ?_
          refine q_iload C dX12_rests_202 rfl ?_
          refine q_imul C dX12_rests_204 ?_
          refine q_iload C dX12_rests_205 rfl ?_
          refine q_iadd C dX12_rests_207 ?_
          exact q_iret C dX12_rests_208 rfl (by decide) (by decide) (Option.some.inj h)
        · have hs := hs.symm
          subst hs
          refine q_iload_n C dX12_rests_224 rfl ?_
          refine x_iconst (v := (-1 : Int32)) C dX12_rests_225 (by decide) ?_
          refine q_icmp_ne (tgt := 234) C dX12_rests_226 (by decide) h (fun _ h => ?_) (fun _ h => ?_)
          · refine q_iload C dX12_rests_229 rfl ?_
            refine q_goto (tgt := 235) C dX12_rests_231 (by decide) ?_
            exact q_iret C dX12_rests_235 rfl (by decide) (by decide) (Option.some.inj h)
          · refine x_iconst (v := (-1 : Int32)) C dX12_rests_234 (by decide) ?_
            exact q_iret C dX12_rests_235 rfl (by decide) (by decide) (Option.some.inj h)
def Hr_X12_oddsFrom (n0 : Nat) (rec : (Nat → Nat → Int32 → Int32 → Int32 → Int32 → q_Mem → Option (Int32 × q_Mem))) : Prop := ∀ (l : Launch) (G : q_G), (∀ (a0 : Nat) (a1 : Int32) (a2 : Int32) (a3 : Int32) (a4 : Int32) (M : q_Mem) (r : Int32) (M' : q_Mem), rec 0 a0 a1 a2 a3 a4 M = some (r, M') → q_Met l G yX12_oddsFrom cX12_oddsFrom 9 (Option.some Jvm.ClassFile.FieldType.int) (n0 + 135) 0 0 [.ref a0, .int a1, .int a2, .int a3, .int a4] M (some (.int r)) M')
noncomputable def B_X12_oddsFrom_45 (rec : (Nat → Nat → Int32 → Int32 → Int32 → Int32 → q_Mem → Option (Int32 × q_Mem))) (l0 : Nat) (l1 : Int32) (l2 : Int32) (l3 : Int32) (l4 : Int32) (l5 : Int32) (M : q_Mem) : Option ((Int32 × q_Mem) ⊕ (q_Mem)) := (if (36 : Int32) < l5 then some (.inr M) else (q_gR M l0 12 47 (fun c11 => q_nn c11 (fun r12 => (q_gR M l0 12 33 (fun c13 => q_nn c13 (fun r14 => (q_lI M 0 r14 l5 (fun v15 => (q_tI M r12 (((37 : Int32) * l2) + l5) v15 (fun M16 => some (.inl ((l5 + (1 : Int32)), M16)))))))))))))
set_option maxRecDepth 100000 in
set_option maxHeartbeats 4000000 in
theorem bW_X12_oddsFrom_45 {K : q_K} {Q : State → Prop} {n0 : Nat} (C : q_C K yX12_oddsFrom cX12_oddsFrom 9 (Option.some Jvm.ClassFile.FieldType.int) (n0 + 135 + 1) 4 0) {rec : (Nat → Nat → Int32 → Int32 → Int32 → Int32 → q_Mem → Option (Int32 × q_Mem))} (hr : Hr_X12_oddsFrom n0 rec) (l0 : Nat) (l1 : Int32) (l2 : Int32) (l3 : Int32) (l4 : Int32) (l5 : Int32) (M : q_Mem) {stp : (Int32 × q_Mem) ⊕ (q_Mem)} (h : B_X12_oddsFrom_45 rec l0 l1 l2 l3 l4 l5 M = some stp) (kC : ∀ (l5 : Int32) (M : q_Mem), stp = .inl (l5, M) → q_W K 9 Q 0 0 M 45 [some (.ref l0), some (.int l1), some (.int l2), some (.int l3), some (.int l4), some (.int l5), none, none, none] []) (kE0 : ∀ (M : q_Mem), stp = .inr M → q_W K 9 Q 0 0 M 77 [some (.ref l0), some (.int l1), some (.int l2), some (.int l3), some (.int l4), none, none, none, none] []) : q_W K 9 Q 0 0 M 45 [some (.ref l0), some (.int l1), some (.int l2), some (.int l3), some (.int l4), some (.int l5), none, none, none] [] := by
  unfold B_X12_oddsFrom_45 at h
  refine q_iload C dX12_oddsFrom_45 rfl ?_
  refine x_bipush (v := (36 : Int32)) C dX12_oddsFrom_47 (by decide) ?_
  refine q_icmp_gt (tgt := 77) C dX12_oddsFrom_49 (by decide) h (fun _ h => ?_) (fun _ h => ?_)
  · exact q_msk [true, true, true, true, true, false, false, false, false] (kE0 _ (Option.some.inj h).symm)
  · refine q_aload_n C dX12_oddsFrom_52 rfl ?_
    refine x_getR (ci := 12) (j := 47) C dX12_oddsFrom_53 lkF_X12_86 rfl h (fun c11 h => ?_)
    refine x_nn h (fun r12 h => ?_)
    refine x_bipush (v := (37 : Int32)) C dX12_oddsFrom_56 (by decide) ?_
    refine q_iload_n C dX12_oddsFrom_58 rfl ?_
    refine q_imul C dX12_oddsFrom_59 ?_
    refine q_iload C dX12_oddsFrom_60 rfl ?_
    refine q_iadd C dX12_oddsFrom_62 ?_
    refine q_aload_n C dX12_oddsFrom_63 rfl ?_
    refine x_getR (ci := 12) (j := 33) C dX12_oddsFrom_64 lkF_X12_64 rfl h (fun c13 h => ?_)
    refine x_nn h (fun r14 h => ?_)
    refine q_iload C dX12_oddsFrom_67 rfl ?_
    refine x_iald C dX12_oddsFrom_69 h (fun v15 h => ?_)
    refine x_iast C dX12_oddsFrom_70 h (fun M16 h => ?_)
    refine x_iinc (w := (1 : Int32)) (L' := [some (.ref l0), some (.int l1), some (.int l2), some (.int l3), some (.int l4), some (.int (l5 + (1 : Int32))), none, none, none]) C dX12_oddsFrom_71 rfl (by decide) (by decide) rfl rfl ?_
    refine q_goto (tgt := 45) C dX12_oddsFrom_74 (by decide) ?_
    exact q_msk [true, true, true, true, true, true, false, false, false] (kC _ _ (Option.some.inj h).symm)
set_option maxRecDepth 100000 in
set_option maxHeartbeats 4000000 in
theorem lW_X12_oddsFrom_45 {K : q_K} {Q : State → Prop} {n0 : Nat} (C : q_C K yX12_oddsFrom cX12_oddsFrom 9 (Option.some Jvm.ClassFile.FieldType.int) (n0 + 135 + 1) 4 0) {rec : (Nat → Nat → Int32 → Int32 → Int32 → Int32 → q_Mem → Option (Int32 × q_Mem))} (hr : Hr_X12_oddsFrom n0 rec) (l0 : Nat) (l1 : Int32) (l2 : Int32) (l3 : Int32) (l4 : Int32) (n : Nat) : ∀ (l5 : Int32) (M : q_Mem) (e : (q_Mem)), q_lp (fun s => B_X12_oddsFrom_45 rec l0 l1 l2 l3 l4 s.1 s.2) n (l5, M) = some e → (∀ (M : q_Mem), e = M → q_W K 9 Q 0 0 M 77 [some (.ref l0), some (.int l1), some (.int l2), some (.int l3), some (.int l4), none, none, none, none] []) → q_W K 9 Q 0 0 M 45 [some (.ref l0), some (.int l1), some (.int l2), some (.int l3), some (.int l4), some (.int l5), none, none, none] [] := by
  induction n with
  | zero => intro l5 M e h; cases h
  | succ n ih =>
    intro l5 M e h kE0
    obtain ⟨stp, e1, e2⟩ := q_bind h
    refine bW_X12_oddsFrom_45 C hr l0 l1 l2 l3 l4 l5 M e1 (fun a0 a1 hs => ?_) (fun b0 hs => ?_)
    · subst hs; exact ih _ _ _ e2 kE0
    · subst hs; exact kE0 _ (Option.some.inj e2).symm
noncomputable def B_X12_oddsFrom_138 (rec : (Nat → Nat → Int32 → Int32 → Int32 → Int32 → q_Mem → Option (Int32 × q_Mem))) (l0 : Nat) (l1 : Int32) (l2 : Int32) (l3 : Int32) (l5 : Int32) (l7 : Int32) (l8 : Int32) (M : q_Mem) : Option ((Int32 × q_Mem) ⊕ (q_Mem)) := (if (36 : Int32) < l8 then some (.inr M) else (q_gR M l0 12 33 (fun c28 => q_nn c28 (fun r29 => (q_gR M l0 12 47 (fun c30 => q_nn c30 (fun r31 => (q_lI M 0 r31 (((37 : Int32) * l2) + l8) (fun v32 => (q_tI M r29 l8 v32 (fun M33 => some (.inl ((l8 + (1 : Int32)), M33)))))))))))))
set_option maxRecDepth 100000 in
set_option maxHeartbeats 4000000 in
theorem bW_X12_oddsFrom_138 {K : q_K} {Q : State → Prop} {n0 : Nat} (C : q_C K yX12_oddsFrom cX12_oddsFrom 9 (Option.some Jvm.ClassFile.FieldType.int) (n0 + 135 + 1) 4 0) {rec : (Nat → Nat → Int32 → Int32 → Int32 → Int32 → q_Mem → Option (Int32 × q_Mem))} (hr : Hr_X12_oddsFrom n0 rec) (l0 : Nat) (l1 : Int32) (l2 : Int32) (l3 : Int32) (l5 : Int32) (l7 : Int32) (l8 : Int32) (M : q_Mem) {stp : (Int32 × q_Mem) ⊕ (q_Mem)} (h : B_X12_oddsFrom_138 rec l0 l1 l2 l3 l5 l7 l8 M = some stp) (kC : ∀ (l8 : Int32) (M : q_Mem), stp = .inl (l8, M) → q_W K 9 Q 0 0 M 138 [some (.ref l0), some (.int l1), some (.int l2), some (.int l3), none, some (.int l5), none, some (.int l7), some (.int l8)] []) (kE0 : ∀ (M : q_Mem), stp = .inr M → q_W K 9 Q 0 0 M 170 [some (.ref l0), some (.int l1), some (.int l2), some (.int l3), none, some (.int l5), none, some (.int l7), none] []) : q_W K 9 Q 0 0 M 138 [some (.ref l0), some (.int l1), some (.int l2), some (.int l3), none, some (.int l5), none, some (.int l7), some (.int l8)] [] := by
  unfold B_X12_oddsFrom_138 at h
  refine q_iload C dX12_oddsFrom_138 rfl ?_
  refine x_bipush (v := (36 : Int32)) C dX12_oddsFrom_140 (by decide) ?_
  refine q_icmp_gt (tgt := 170) C dX12_oddsFrom_142 (by decide) h (fun _ h => ?_) (fun _ h => ?_)
  · exact q_msk [true, true, true, true, false, true, false, true, false] (kE0 _ (Option.some.inj h).symm)
  · refine q_aload_n C dX12_oddsFrom_145 rfl ?_
    refine x_getR (ci := 12) (j := 33) C dX12_oddsFrom_146 lkF_X12_64 rfl h (fun c28 h => ?_)
    refine x_nn h (fun r29 h => ?_)
    refine q_iload C dX12_oddsFrom_149 rfl ?_
    refine q_aload_n C dX12_oddsFrom_151 rfl ?_
    refine x_getR (ci := 12) (j := 47) C dX12_oddsFrom_152 lkF_X12_86 rfl h (fun c30 h => ?_)
    refine x_nn h (fun r31 h => ?_)
    refine x_bipush (v := (37 : Int32)) C dX12_oddsFrom_155 (by decide) ?_
    refine q_iload_n C dX12_oddsFrom_157 rfl ?_
    refine q_imul C dX12_oddsFrom_158 ?_
    refine q_iload C dX12_oddsFrom_159 rfl ?_
    refine q_iadd C dX12_oddsFrom_161 ?_
    refine x_iald C dX12_oddsFrom_162 h (fun v32 h => ?_)
    refine x_iast C dX12_oddsFrom_163 h (fun M33 h => ?_)
    refine x_iinc (w := (1 : Int32)) (L' := [some (.ref l0), some (.int l1), some (.int l2), some (.int l3), none, some (.int l5), none, some (.int l7), some (.int (l8 + (1 : Int32)))]) C dX12_oddsFrom_164 rfl (by decide) (by decide) rfl rfl ?_
    refine q_goto (tgt := 138) C dX12_oddsFrom_167 (by decide) ?_
    exact q_msk [true, true, true, true, false, true, false, true, true] (kC _ _ (Option.some.inj h).symm)
set_option maxRecDepth 100000 in
set_option maxHeartbeats 4000000 in
theorem lW_X12_oddsFrom_138 {K : q_K} {Q : State → Prop} {n0 : Nat} (C : q_C K yX12_oddsFrom cX12_oddsFrom 9 (Option.some Jvm.ClassFile.FieldType.int) (n0 + 135 + 1) 4 0) {rec : (Nat → Nat → Int32 → Int32 → Int32 → Int32 → q_Mem → Option (Int32 × q_Mem))} (hr : Hr_X12_oddsFrom n0 rec) (l0 : Nat) (l1 : Int32) (l2 : Int32) (l3 : Int32) (l5 : Int32) (l7 : Int32) (n : Nat) : ∀ (l8 : Int32) (M : q_Mem) (e : (q_Mem)), q_lp (fun s => B_X12_oddsFrom_138 rec l0 l1 l2 l3 l5 l7 s.1 s.2) n (l8, M) = some e → (∀ (M : q_Mem), e = M → q_W K 9 Q 0 0 M 170 [some (.ref l0), some (.int l1), some (.int l2), some (.int l3), none, some (.int l5), none, some (.int l7), none] []) → q_W K 9 Q 0 0 M 138 [some (.ref l0), some (.int l1), some (.int l2), some (.int l3), none, some (.int l5), none, some (.int l7), some (.int l8)] [] := by
  induction n with
  | zero => intro l8 M e h; cases h
  | succ n ih =>
    intro l8 M e h kE0
    obtain ⟨stp, e1, e2⟩ := q_bind h
    refine bW_X12_oddsFrom_138 C hr l0 l1 l2 l3 l5 l7 l8 M e1 (fun a0 a1 hs => ?_) (fun b0 hs => ?_)
    · subst hs; exact ih _ _ _ e2 kE0
    · subst hs; exact kE0 _ (Option.some.inj e2).symm
noncomputable def J_X12_oddsFrom_102 (rec : (Nat → Nat → Int32 → Int32 → Int32 → Int32 → q_Mem → Option (Int32 × q_Mem))) (l0 : Nat) (l1 : Int32) (l2 : Int32) (l3 : Int32) (l4 : Int32) (s0 : Int32) (M : q_Mem) : Option (Int32 × q_Mem) := (q_gR M l0 12 33 (fun c22 => q_nn c22 (fun r23 => (q_ob M l0 12 ((F_X12_goDay l0 r23 M).bind (fun x => match x with | (u24, M25) => (q_ob M25 l0 12 ((rec 0 l0 l1 (l2 - (1 : Int32)) l3 (l4 - s0) M25).bind (fun x => match x with | (u26, M27) => (if 0 < s0 then (q_lp (fun s => B_X12_oddsFrom_138 rec l0 l1 l2 l3 s0 u26 s.1 s.2) q_fu ((0 : Int32), M27)).bind (fun e34 => match e34 with | M35 => (q_gR M35 l0 12 33 (fun c36 => q_nn c36 (fun r37 => (q_lI M35 0 r37 (32 : Int32) (fun v38 => (q_tI M35 r37 (32 : Int32) (v38 + (1 : Int32)) (fun M39 => (q_gR M39 l0 12 33 (fun c40 => q_nn c40 (fun r41 => (q_ob M39 l0 12 ((F_X12_goDay l0 r41 M39).bind (fun x => match x with | (u42, M43) => (q_ob M43 l0 12 ((rec 0 l0 l1 (l2 - (1 : Int32)) l3 s0 M43).bind (fun x => match x with | (u44, M45) => some ((u26 + u44), M45)))))))))))))))))) else some (u26, M27)))))))))))
set_option maxRecDepth 100000 in
set_option maxHeartbeats 4000000 in
theorem jW_X12_oddsFrom_102 {K : q_K} {n0 : Nat} (C : q_C K yX12_oddsFrom cX12_oddsFrom 9 (Option.some Jvm.ClassFile.FieldType.int) (n0 + 135 + 1) 4 0) {rec : (Nat → Nat → Int32 → Int32 → Int32 → Int32 → q_Mem → Option (Int32 × q_Mem))} (hr : Hr_X12_oddsFrom n0 rec) (l0 : Nat) (l1 : Int32) (l2 : Int32) (l3 : Int32) (l4 : Int32) (s0 : Int32) (M : q_Mem) {r : Int32} {M' : q_Mem} (h : J_X12_oddsFrom_102 rec l0 l1 l2 l3 l4 s0 M = some (r, M')) : q_W K 9 (q_Q K (some (.int r)) M' 4 0) 0 0 M 102 [some (.ref l0), some (.int l1), some (.int l2), some (.int l3), some (.int l4), none, none, none, none] [.int s0] := by
  unfold J_X12_oddsFrom_102 at h
  refine q_istore (L' := [some (.ref l0), some (.int l1), some (.int l2), some (.int l3), some (.int l4), some (.int s0), none, none, none]) C dX12_oddsFrom_102 (by decide) rfl rfl ?_
  refine q_aload_n C dX12_oddsFrom_104 rfl ?_
  refine q_aload_n C dX12_oddsFrom_105 rfl ?_
  refine x_getR (ci := 12) (j := 33) C dX12_oddsFrom_106 lkF_X12_64 rfl h (fun c22 h => ?_)
  refine x_nn h (fun r23 h => ?_)
  obtain ⟨hk, h⟩ := q_obE h
  obtain ⟨⟨u24, M25⟩, e1, h⟩ := q_bind h
  refine x_callV C dX12_oddsFrom_109 lkM_X12_370 mV_X12_goDay ⟨_, rfl, rfl⟩ hk (c_X12_goDay _ _ _ _ _ e1) rfl rfl (Nat.le_of_ble_eq_true rfl) (⟨by omega, by decide⟩) (by decide) ?_
  refine q_istore (L' := [some (.ref l0), some (.int l1), some (.int l2), some (.int l3), some (.int l4), some (.int s0), some (.int u24), none, none]) C dX12_oddsFrom_112 (by decide) rfl rfl ?_
  refine q_aload_n C dX12_oddsFrom_114 rfl ?_
  refine q_iload_n C dX12_oddsFrom_115 rfl ?_
  refine q_iload_n C dX12_oddsFrom_116 rfl ?_
  refine x_iconst (v := (1 : Int32)) C dX12_oddsFrom_117 (by decide) ?_
  refine q_isub C dX12_oddsFrom_118 ?_
  refine q_iload_n C dX12_oddsFrom_119 rfl ?_
  refine q_iload C dX12_oddsFrom_120 rfl ?_
  refine q_iload C dX12_oddsFrom_122 rfl ?_
  refine q_isub C dX12_oddsFrom_124 ?_
  obtain ⟨hk, h⟩ := q_obE h
  obtain ⟨⟨u26, M27⟩, e1, h⟩ := q_bind h
  refine x_callV C dX12_oddsFrom_125 lkM_X12_449 mV_X12_oddsFrom ⟨_, rfl, rfl⟩ hk ((hr _ _) _ _ _ _ _ _ _ _ e1) rfl rfl (Nat.le_of_ble_eq_true rfl) (⟨by omega, by decide⟩) (by decide) ?_
  refine q_istore (L' := [some (.ref l0), some (.int l1), some (.int l2), some (.int l3), some (.int l4), some (.int s0), some (.int u24), some (.int u26), none]) C dX12_oddsFrom_128 (by decide) rfl rfl ?_
  refine q_iload C dX12_oddsFrom_130 rfl ?_
  refine q_if_le (tgt := 207) C dX12_oddsFrom_132 (by decide) h (fun _ h => ?_) (fun _ h => ?_)
  · refine x_iconst (v := (0 : Int32)) C dX12_oddsFrom_135 (by decide) ?_
    refine q_istore (L' := [some (.ref l0), some (.int l1), some (.int l2), some (.int l3), some (.int l4), some (.int s0), some (.int u24), some (.int u26), some (.int (0 : Int32))]) C dX12_oddsFrom_136 (by decide) rfl rfl ?_
    obtain ⟨e34, he, h⟩ := q_bind h
    refine q_msk [true, true, true, true, false, true, false, true, true] (lW_X12_oddsFrom_138 C hr l0 l1 l2 l3 s0 u26 q_fu _ _ _ he (fun M35 hs => ?_))
    · have hs := hs.symm
      subst hs
      refine q_aload_n C dX12_oddsFrom_170 rfl ?_
      refine x_getR (ci := 12) (j := 33) C dX12_oddsFrom_171 lkF_X12_64 rfl h (fun c36 h => ?_)
      refine x_nn h (fun r37 h => ?_)
      refine x_bipush (v := (32 : Int32)) C dX12_oddsFrom_174 (by decide) ?_
      refine q_dup2 C dX12_oddsFrom_176 rfl rfl ?_
      refine x_iald C dX12_oddsFrom_177 h (fun v38 h => ?_)
      refine x_iconst (v := (1 : Int32)) C dX12_oddsFrom_178 (by decide) ?_
      refine q_iadd C dX12_oddsFrom_179 ?_
      refine x_iast C dX12_oddsFrom_180 h (fun M39 h => ?_)
      refine q_aload_n C dX12_oddsFrom_181 rfl ?_
      refine q_aload_n C dX12_oddsFrom_182 rfl ?_
      refine x_getR (ci := 12) (j := 33) C dX12_oddsFrom_183 lkF_X12_64 rfl h (fun c40 h => ?_)
      refine x_nn h (fun r41 h => ?_)
      obtain ⟨hk, h⟩ := q_obE h
      obtain ⟨⟨u42, M43⟩, e1, h⟩ := q_bind h
      refine x_callV C dX12_oddsFrom_186 lkM_X12_370 mV_X12_goDay ⟨_, rfl, rfl⟩ hk (c_X12_goDay _ _ _ _ _ e1) rfl rfl (Nat.le_of_ble_eq_true rfl) (⟨by omega, by decide⟩) (by decide) ?_
      refine q_istore (L' := [some (.ref l0), some (.int l1), some (.int l2), some (.int l3), none, some (.int s0), some (.int u42), some (.int u26), none]) C dX12_oddsFrom_189 (by decide) rfl rfl ?_
      refine q_iload C dX12_oddsFrom_191 rfl ?_
      refine q_aload_n C dX12_oddsFrom_193 rfl ?_
      refine q_iload_n C dX12_oddsFrom_194 rfl ?_
      refine q_iload_n C dX12_oddsFrom_195 rfl ?_
      refine x_iconst (v := (1 : Int32)) C dX12_oddsFrom_196 (by decide) ?_
      refine q_isub C dX12_oddsFrom_197 ?_
      refine q_iload_n C dX12_oddsFrom_198 rfl ?_
      refine q_iload C dX12_oddsFrom_199 rfl ?_
      obtain ⟨hk, h⟩ := q_obE h
      obtain ⟨⟨u44, M45⟩, e1, h⟩ := q_bind h
      refine x_callV C dX12_oddsFrom_201 lkM_X12_449 mV_X12_oddsFrom ⟨_, rfl, rfl⟩ hk ((hr _ _) _ _ _ _ _ _ _ _ e1) rfl rfl (Nat.le_of_ble_eq_true rfl) (⟨by omega, by decide⟩) (by decide) ?_
      refine q_iadd C dX12_oddsFrom_204 ?_
      refine q_istore (L' := [some (.ref l0), some (.int l1), some (.int l2), some (.int l3), none, some (.int s0), some (.int u42), some (.int (u26 + u44)), none]) C dX12_oddsFrom_205 (by decide) rfl rfl ?_
      refine q_iload C dX12_oddsFrom_207 rfl ?_
      exact q_iret C dX12_oddsFrom_209 rfl (by decide) (by decide) (Option.some.inj h)
  · refine q_iload C dX12_oddsFrom_207 rfl ?_
    exact q_iret C dX12_oddsFrom_209 rfl (by decide) (by decide) (Option.some.inj h)
noncomputable def F_X12_oddsFrom (rec : (Nat → Nat → Int32 → Int32 → Int32 → Int32 → q_Mem → Option (Int32 × q_Mem))) (l0 : Nat) (l1 : Int32) (l2 : Int32) (l3 : Int32) (l4 : Int32) (M : q_Mem) : Option (Int32 × q_Mem) := (if l2 = 0 then (q_gR M l0 12 33 (fun c1 => q_nn c1 (fun r2 => (q_ob M l0 12 ((F_X12_isThere l0 r2 l1 M).bind (fun u3 => (if u3 = 0 then some ((0 : Int32), M) else (q_gR M l0 12 33 (fun c4 => q_nn c4 (fun r5 => (q_ob M l0 12 ((F_X12_goTable l0 r5 M).bind (fun x => match x with | (_, M7) => (q_gR M7 l0 12 36 (fun c8 => q_nn c8 (fun r9 => (q_lI M7 0 r9 l1 (fun v10 => (if 0 < v10 then some (l4, M7) else some ((0 : Int32), M7)))))))))))))))))))) else (q_lp (fun s => B_X12_oddsFrom_45 rec l0 l1 l2 l3 l4 s.1 s.2) q_fu ((0 : Int32), M)).bind (fun e17 => match e17 with | M18 => (q_gR M18 l0 12 33 (fun c19 => q_nn c19 (fun r20 => ((F_X12_canBeIll r20 M18).bind (fun u21 => (if u21 = 0 then J_X12_oddsFrom_102 rec l0 l1 l2 l3 l4 (0 : Int32) M18 else (q_dvl (l4.toInt64 * l3.toInt64) (100 : Int64) (fun v46 => J_X12_oddsFrom_102 rec l0 l1 l2 l3 l4 v46.toInt32 M18))))))))))
set_option maxRecDepth 100000 in
set_option maxHeartbeats 4000000 in
theorem cr_X12_oddsFrom {l : Launch} {G : q_G} {n0 : Nat} {rec : (Nat → Nat → Int32 → Int32 → Int32 → Int32 → q_Mem → Option (Int32 × q_Mem))} (hr : Hr_X12_oddsFrom n0 rec) (l0 : Nat) (l1 : Int32) (l2 : Int32) (l3 : Int32) (l4 : Int32) (M : q_Mem) {r : Int32} {M' : q_Mem} (h : F_X12_oddsFrom rec l0 l1 l2 l3 l4 M = some (r, M')) : q_Met l G yX12_oddsFrom cX12_oddsFrom 9 (Option.some Jvm.ClassFile.FieldType.int) (n0 + 135 + 1) 4 0 [.ref l0, .int l1, .int l2, .int l3, .int l4] M (some (.int r)) M' := by
  unfold F_X12_oddsFrom at h
  refine q_enter [some (.ref l0), some (.int l1), some (.int l2), some (.int l3), some (.int l4), none, none, none, none] (by decide) (Nat.le_of_ble_eq_true rfl) rfl (fun K C => ?_)
  refine q_iload_n C dX12_oddsFrom_0 rfl ?_
  refine q_if_ne (tgt := 42) C dX12_oddsFrom_1 (by decide) h (fun _ h => ?_) (fun _ h => ?_)
  · refine q_aload_n C dX12_oddsFrom_4 rfl ?_
    refine q_aload_n C dX12_oddsFrom_5 rfl ?_
    refine x_getR (ci := 12) (j := 33) C dX12_oddsFrom_6 lkF_X12_64 rfl h (fun c1 h => ?_)
    refine x_nn h (fun r2 h => ?_)
    refine q_iload_n C dX12_oddsFrom_9 rfl ?_
    obtain ⟨hk, h⟩ := q_obE h
    obtain ⟨u3, e1, h⟩ := q_bind h
    refine x_callV0 C dX12_oddsFrom_10 lkM_X12_302 mV_X12_isThere ⟨_, rfl, rfl⟩ hk (c_X12_isThere _ _ _ _ _ _ e1) rfl rfl (Nat.le_of_ble_eq_true rfl) (⟨by omega, by decide⟩) (by decide) ?_
    refine q_if_ne (tgt := 18) C dX12_oddsFrom_13 (by decide) h (fun _ h => ?_) (fun _ h => ?_)
    · refine x_iconst (v := (0 : Int32)) C dX12_oddsFrom_16 (by decide) ?_
      exact q_iret C dX12_oddsFrom_17 rfl (by decide) (by decide) (Option.some.inj h)
    · refine q_aload_n C dX12_oddsFrom_18 rfl ?_
      refine q_aload_n C dX12_oddsFrom_19 rfl ?_
      refine x_getR (ci := 12) (j := 33) C dX12_oddsFrom_20 lkF_X12_64 rfl h (fun c4 h => ?_)
      refine x_nn h (fun r5 h => ?_)
      obtain ⟨hk, h⟩ := q_obE h
      obtain ⟨⟨_, M7⟩, e1, h⟩ := q_bind h
      refine x_callVv0 C dX12_oddsFrom_23 lkM_X12_341 mV_X12_goTable ⟨_, rfl, rfl⟩ hk (c_X12_goTable _ _ _ _ _ e1) rfl rfl (Nat.le_of_ble_eq_true rfl) (⟨by omega, by decide⟩) (by decide) ?_
      refine q_aload_n C dX12_oddsFrom_26 rfl ?_
      refine x_getR (ci := 12) (j := 36) C dX12_oddsFrom_27 lkF_X12_74 rfl h (fun c8 h => ?_)
      refine x_nn h (fun r9 h => ?_)
      refine q_iload_n C dX12_oddsFrom_30 rfl ?_
      refine x_iald C dX12_oddsFrom_31 h (fun v10 h => ?_)
      refine q_if_le (tgt := 40) C dX12_oddsFrom_32 (by decide) h (fun _ h => ?_) (fun _ h => ?_)
      · refine q_iload C dX12_oddsFrom_35 rfl ?_
        refine q_goto (tgt := 41) C dX12_oddsFrom_37 (by decide) ?_
        exact q_iret C dX12_oddsFrom_41 rfl (by decide) (by decide) (Option.some.inj h)
      · refine x_iconst (v := (0 : Int32)) C dX12_oddsFrom_40 (by decide) ?_
        exact q_iret C dX12_oddsFrom_41 rfl (by decide) (by decide) (Option.some.inj h)
  · refine x_iconst (v := (0 : Int32)) C dX12_oddsFrom_42 (by decide) ?_
    refine q_istore (L' := [some (.ref l0), some (.int l1), some (.int l2), some (.int l3), some (.int l4), some (.int (0 : Int32)), none, none, none]) C dX12_oddsFrom_43 (by decide) rfl rfl ?_
    obtain ⟨e17, he, h⟩ := q_bind h
    refine q_msk [true, true, true, true, true, true, false, false, false] (lW_X12_oddsFrom_45 C hr l0 l1 l2 l3 l4 q_fu _ _ _ he (fun M18 hs => ?_))
    · have hs := hs.symm
      subst hs
      refine q_aload_n C dX12_oddsFrom_77 rfl ?_
      refine x_getR (ci := 12) (j := 33) C dX12_oddsFrom_78 lkF_X12_64 rfl h (fun c19 h => ?_)
      refine x_nn h (fun r20 h => ?_)
      obtain ⟨u21, e1, h⟩ := q_bind h
      refine x_callS0 C dX12_oddsFrom_81 lkM_X12_376 mS_X12_canBeIll (c_X12_canBeIll _ _ _ _ e1) rfl rfl (Nat.le_of_ble_eq_true rfl) (⟨by omega, by decide⟩) (by decide) ?_
      refine q_if_eq (tgt := 101) C dX12_oddsFrom_84 (by decide) h (fun _ h => ?_) (fun _ h => ?_)
      · refine x_iconst (v := (0 : Int32)) C dX12_oddsFrom_101 (by decide) ?_
        exact q_msk [true, true, true, true, true, false, false, false, false] (jW_X12_oddsFrom_102 C hr l0 l1 l2 l3 l4 (0 : Int32) M18 h)
      · refine q_iload C dX12_oddsFrom_87 rfl ?_
        refine q_i2l C dX12_oddsFrom_89 ?_
        refine q_iload_n C dX12_oddsFrom_90 rfl ?_
        refine q_i2l C dX12_oddsFrom_91 ?_
        refine q_lmul C dX12_oddsFrom_92 ?_
        refine q_ldc2 (v := (100 : Int64)) C dX12_oddsFrom_93 wd_1778 ?_
        refine q_ldiv C dX12_oddsFrom_96 h (fun v46 h => ?_)
        refine q_l2i C dX12_oddsFrom_97 ?_
        refine q_goto (tgt := 102) C dX12_oddsFrom_98 (by decide) ?_
        exact q_msk [true, true, true, true, true, false, false, false, false] (jW_X12_oddsFrom_102 C hr l0 l1 l2 l3 l4 v46.toInt32 M18 h)
noncomputable def R_X12_oddsFrom : Nat → Nat → Nat → Int32 → Int32 → Int32 → Int32 → q_Mem → Option (Int32 × q_Mem)
  | 0 => fun _ _ _ _ _ _ _ => none
  | n + 1 => fun tag a0 b0 b1 b2 b3 M => match tag with | _ => F_X12_oddsFrom (R_X12_oddsFrom n) a0 b0 b1 b2 b3 M
set_option maxRecDepth 100000 in
theorem Rok_X12_oddsFrom (n : Nat) : Hr_X12_oddsFrom n (R_X12_oddsFrom n) := by
  induction n with
  | zero => exact fun l G => (fun a0 a1 a2 a3 a4 M r M' h => by cases h)
  | succ n ih => exact fun l G => (fun a0 a1 a2 a3 a4 M r M' h => cr_X12_oddsFrom ih a0 a1 a2 a3 a4 M h)
theorem c_X12_oddsFrom (l : Launch) (G : q_G) (a0 : Nat) (a1 : Int32) (a2 : Int32) (a3 : Int32) (a4 : Int32) (M : q_Mem) {r : Int32} {M' : q_Mem} (h : R_X12_oddsFrom 60 0 a0 a1 a2 a3 a4 M = some (r, M')) : q_Met l G yX12_oddsFrom cX12_oddsFrom 9 (Option.some Jvm.ClassFile.FieldType.int) 195 0 0 [.ref a0, .int a1, .int a2, .int a3, .int a4] M (some (.int r)) M' := (Rok_X12_oddsFrom 60 l G) a0 a1 a2 a3 a4 M r M' h
