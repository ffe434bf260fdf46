noncomputable def J_X4_worth_208_4 (l0 : Nat) (l1 : Nat) (l2 : Int32) (l3 : Int32) (M : q_Mem) : Option ((Int32 × Int32 × q_Mem) ⊕ ((q_Mem) ⊕ ((Int32 × q_Mem) ⊕ ((q_Mem) ⊕ ((q_Mem) ⊕ (q_Mem)))))) := some (.inl (l2, (l3 + (1 : Int32)), M))
set_option maxRecDepth 100000 in
set_option maxHeartbeats 4000000 in
theorem jW_X4_worth_208_4 {K : q_K} {Q : State → Prop} (C : q_C K yX4_worth cX4_worth 5 (Option.some Jvm.ClassFile.FieldType.int) 2 0 0) (l0 : Nat) (l1 : Nat) (l2 : Int32) (l3 : Int32) (M : q_Mem) {stp : (Int32 × Int32 × q_Mem) ⊕ ((q_Mem) ⊕ ((Int32 × q_Mem) ⊕ ((q_Mem) ⊕ ((q_Mem) ⊕ (q_Mem)))))} (h : J_X4_worth_208_4 l0 l1 l2 l3 M = some stp) (kC : ∀ (l2 : Int32) (l3 : Int32) (M : q_Mem), stp = .inl (l2, l3, M) → q_W K 5 Q 0 0 M 4 [some (.ref l0), some (.ref l1), some (.int l2), some (.int l3), none] []) (kE0 : ∀ (M : q_Mem), stp = .inr (.inl M) → q_W K 5 Q 0 0 M 34 [none, none, none, none, none] []) (kE1 : ∀ (l2 : Int32) (M : q_Mem), stp = .inr (.inr (.inl (l2, M))) → q_W K 5 Q 0 0 M 72 [some (.ref l0), none, some (.int l2), none, none] []) (kE2 : ∀ (M : q_Mem), stp = .inr (.inr (.inr (.inl M))) → q_W K 5 Q 0 0 M 94 [none, none, none, none, none] []) (kE3 : ∀ (M : q_Mem), stp = .inr (.inr (.inr (.inr (.inl M)))) → q_W K 5 Q 0 0 M 176 [none, none, none, none, none] []) (kE4 : ∀ (M : q_Mem), stp = .inr (.inr (.inr (.inr (.inr M)))) → q_W K 5 Q 0 0 M 214 [none, none, none, none, none] []) : q_W K 5 Q 0 0 M 208 [some (.ref l0), some (.ref l1), some (.int l2), some (.int l3), none] [] := by
  unfold J_X4_worth_208_4 at h
  refine x_iinc (w := (1 : Int32)) (L' := [some (.ref l0), some (.ref l1), some (.int l2), some (.int (l3 + (1 : Int32))), none]) C dX4_worth_208 rfl (by decide) (by decide) rfl rfl ?_
  refine q_goto (tgt := 4) C dX4_worth_211 (by decide) ?_
  exact q_msk [true, true, true, true, false] (kC _ _ _ (Option.some.inj h).symm)
noncomputable def J_X4_worth_58_4 (l0 : Nat) (l1 : Nat) (l2 : Int32) (l3 : Int32) (s0 : Nat) (s1 : Int32) (s2 : Int32) (M : q_Mem) : Option ((Int32 × Int32 × q_Mem) ⊕ ((q_Mem) ⊕ ((Int32 × q_Mem) ⊕ ((q_Mem) ⊕ ((q_Mem) ⊕ (q_Mem)))))) := (q_tI M s0 s1 s2 (fun M35 => J_X4_worth_208_4 l0 l1 (l2 + (1 : Int32)) l3 M35))
set_option maxRecDepth 100000 in
set_option maxHeartbeats 4000000 in
theorem jW_X4_worth_58_4 {K : q_K} {Q : State → Prop} (C : q_C K yX4_worth cX4_worth 5 (Option.some Jvm.ClassFile.FieldType.int) 2 0 0) (l0 : Nat) (l1 : Nat) (l2 : Int32) (l3 : Int32) (s0 : Nat) (s1 : Int32) (s2 : Int32) (M : q_Mem) {stp : (Int32 × Int32 × q_Mem) ⊕ ((q_Mem) ⊕ ((Int32 × q_Mem) ⊕ ((q_Mem) ⊕ ((q_Mem) ⊕ (q_Mem)))))} (h : J_X4_worth_58_4 l0 l1 l2 l3 s0 s1 s2 M = some stp) (kC : ∀ (l2 : Int32) (l3 : Int32) (M : q_Mem), stp = .inl (l2, l3, M) → q_W K 5 Q 0 0 M 4 [some (.ref l0), some (.ref l1), some (.int l2), some (.int l3), none] []) (kE0 : ∀ (M : q_Mem), stp = .inr (.inl M) → q_W K 5 Q 0 0 M 34 [none, none, none, none, none] []) (kE1 : ∀ (l2 : Int32) (M : q_Mem), stp = .inr (.inr (.inl (l2, M))) → q_W K 5 Q 0 0 M 72 [some (.ref l0), none, some (.int l2), none, none] []) (kE2 : ∀ (M : q_Mem), stp = .inr (.inr (.inr (.inl M))) → q_W K 5 Q 0 0 M 94 [none, none, none, none, none] []) (kE3 : ∀ (M : q_Mem), stp = .inr (.inr (.inr (.inr (.inl M)))) → q_W K 5 Q 0 0 M 176 [none, none, none, none, none] []) (kE4 : ∀ (M : q_Mem), stp = .inr (.inr (.inr (.inr (.inr M)))) → q_W K 5 Q 0 0 M 214 [none, none, none, none, none] []) : q_W K 5 Q 0 0 M 58 [some (.ref l0), some (.ref l1), some (.int l2), some (.int l3), none] [.int s2, .int s1, .ref s0] := by
  unfold J_X4_worth_58_4 at h
  refine x_iast C dX4_worth_58 h (fun M35 h => ?_)
  refine x_iinc (w := (1 : Int32)) (L' := [some (.ref l0), some (.ref l1), some (.int (l2 + (1 : Int32))), some (.int l3), none]) C dX4_worth_59 rfl (by decide) (by decide) rfl rfl ?_
  refine q_goto (tgt := 208) C dX4_worth_62 (by decide) ?_
  exact q_msk [true, true, true, true, false] (jW_X4_worth_208_4 C l0 l1 (l2 + (1 : Int32)) l3 M35 h kC kE0 kE1 kE2 kE3 kE4)
noncomputable def B_X4_worth_4 (l0 : Nat) (l1 : Nat) (l2 : Int32) (l3 : Int32) (M : q_Mem) : Option ((Int32 × Int32 × q_Mem) ⊕ ((q_Mem) ⊕ ((Int32 × q_Mem) ⊕ ((q_Mem) ⊕ ((q_Mem) ⊕ (q_Mem)))))) := (q_gR M l0 4 0 (fun c1 => q_nn c1 (fun r2 => (q_al M r2 (fun v3 => (if l3 < v3 then (q_gR M l0 4 0 (fun c4 => q_nn c4 (fun r5 => (q_lI M 0 r5 l3 (fun v6 => (if v6 < (-6 : Int32) then (if v6 = (-18 : Int32) then some (.inr (.inr (.inl (l2, M)))) else (if l2 < (1 : Int32) then some (.inr (.inr (.inr (.inl M)))) else (if v6 = (-16 : Int32) then (q_gR M l0 4 1 (fun c7 => q_nn c7 (fun r8 => (q_gR M l0 4 1 (fun c9 => q_nn c9 (fun r10 => (q_lI M 0 r10 (l2 - (1 : Int32)) (fun v11 => (q_tI M r8 (l2 - (1 : Int32)) ((1 : Int32) - v11) (fun M12 => J_X4_worth_208_4 l0 l1 l2 l3 M12)))))))))) else (if v6 = (-17 : Int32) then (q_gR M l0 4 1 (fun c13 => q_nn c13 (fun r14 => (q_lI M 0 r14 (l2 + (-1 : Int32)) (fun v15 => (if v15 = 0 then (q_gR M l0 4 0 (fun c16 => q_nn c16 (fun r17 => (q_al M r17 (fun v18 => (if (l3 + (1 : Int32)) < v18 then (q_gR M l0 4 0 (fun c19 => q_nn c19 (fun r20 => (q_lI M 0 r20 (l3 + (1 : Int32)) (fun v21 => J_X4_worth_208_4 l0 l1 (l2 + (-1 : Int32)) (q_mx (l3 + (1 : Int32)) (v21 - (1 : Int32))) M))))) else J_X4_worth_208_4 l0 l1 (l2 + (-1 : Int32)) (l3 + (1 : Int32)) M)))))) else J_X4_worth_208_4 l0 l1 (l2 + (-1 : Int32)) (l3 + (1 : Int32)) M)))))) else (if l2 < (2 : Int32) then some (.inr (.inr (.inr (.inr (.inl M))))) else (q_gR M l0 4 1 (fun c22 => q_nn c22 (fun r23 => (q_gR M l0 4 1 (fun c24 => q_nn c24 (fun r25 => (q_lI M 0 r25 ((l2 + (-1 : Int32)) - (1 : Int32)) (fun v26 => (q_gR M l0 4 1 (fun c27 => q_nn c27 (fun r28 => (q_lI M 0 r28 (l2 + (-1 : Int32)) (fun v29 => ((F_X4_joined v6 v26 v29 M).bind (fun u30 => (q_tI M r23 ((l2 + (-1 : Int32)) - (1 : Int32)) u30 (fun M31 => J_X4_worth_208_4 l0 l1 (l2 + (-1 : Int32)) l3 M31)))))))))))))))))))))) else (if l2 < (32 : Int32) then (q_gR M l0 4 1 (fun c32 => q_nn c32 (fun r33 => (if v6 < 0 then (q_lI M 0 l1 (v6 - (-6 : Int32)) (fun v34 => J_X4_worth_58_4 l0 l1 l2 l3 r33 l2 v34 M)) else J_X4_worth_58_4 l0 l1 l2 l3 r33 l2 v6 M)))) else some (.inr (.inl M))))))))) else some (.inr (.inr (.inr (.inr (.inr M)))))))))))
set_option maxRecDepth 100000 in
set_option maxHeartbeats 4000000 in
theorem bW_X4_worth_4 {K : q_K} {Q : State → Prop} (C : q_C K yX4_worth cX4_worth 5 (Option.some Jvm.ClassFile.FieldType.int) 2 0 0) (l0 : Nat) (l1 : Nat) (l2 : Int32) (l3 : Int32) (M : q_Mem) {stp : (Int32 × Int32 × q_Mem) ⊕ ((q_Mem) ⊕ ((Int32 × q_Mem) ⊕ ((q_Mem) ⊕ ((q_Mem) ⊕ (q_Mem)))))} (h : B_X4_worth_4 l0 l1 l2 l3 M = some stp) (kC : ∀ (l2 : Int32) (l3 : Int32) (M : q_Mem), stp = .inl (l2, l3, M) → q_W K 5 Q 0 0 M 4 [some (.ref l0), some (.ref l1), some (.int l2), some (.int l3), none] []) (kE0 : ∀ (M : q_Mem), stp = .inr (.inl M) → q_W K 5 Q 0 0 M 34 [none, none, none, none, none] []) (kE1 : ∀ (l2 : Int32) (M : q_Mem), stp = .inr (.inr (.inl (l2, M))) → q_W K 5 Q 0 0 M 72 [some (.ref l0), none, some (.int l2), none, none] []) (kE2 : ∀ (M : q_Mem), stp = .inr (.inr (.inr (.inl M))) → q_W K 5 Q 0 0 M 94 [none, none, none, none, none] []) (kE3 : ∀ (M : q_Mem), stp = .inr (.inr (.inr (.inr (.inl M)))) → q_W K 5 Q 0 0 M 176 [none, none, none, none, none] []) (kE4 : ∀ (M : q_Mem), stp = .inr (.inr (.inr (.inr (.inr M)))) → q_W K 5 Q 0 0 M 214 [none, none, none, none, none] []) : q_W K 5 Q 0 0 M 4 [some (.ref l0), some (.ref l1), some (.int l2), some (.int l3), none] [] := by
  unfold B_X4_worth_4 at h
  refine q_iload_n C dX4_worth_4 rfl ?_
  refine q_aload_n C dX4_worth_5 rfl ?_
  refine x_getR (ci := 4) (j := 0) C dX4_worth_6 lkF_X4_15 rfl h (fun c1 h => ?_)
  refine x_nn h (fun r2 h => ?_)
  refine x_alen C dX4_worth_9 h (fun v3 h => ?_)
  refine q_icmp_ge (tgt := 214) C dX4_worth_10 (by decide) h (fun _ h => ?_) (fun _ h => ?_)
  · refine q_aload_n C dX4_worth_13 rfl ?_
    refine x_getR (ci := 4) (j := 0) C dX4_worth_14 lkF_X4_15 rfl h (fun c4 h => ?_)
    refine x_nn h (fun r5 h => ?_)
    refine q_iload_n C dX4_worth_17 rfl ?_
    refine x_iald C dX4_worth_18 h (fun v6 h => ?_)
    refine q_istore (L' := [some (.ref l0), some (.ref l1), some (.int l2), some (.int l3), some (.int v6)]) C dX4_worth_19 (by decide) rfl rfl ?_
    refine q_iload C dX4_worth_21 rfl ?_
    refine x_bipush (v := (-6 : Int32)) C dX4_worth_23 (by decide) ?_
    refine q_icmp_lt (tgt := 65) C dX4_worth_25 (by decide) h (fun _ h => ?_) (fun _ h => ?_)
    · refine q_iload C dX4_worth_65 rfl ?_
      refine x_bipush (v := (-18 : Int32)) C dX4_worth_67 (by decide) ?_
      refine q_icmp_ne (tgt := 89) C dX4_worth_69 (by decide) h (fun _ h => ?_) (fun _ h => ?_)
      · exact q_msk [true, false, true, false, false] (kE1 _ _ (Option.some.inj h).symm)
      · refine q_iload_n C dX4_worth_89 rfl ?_
        refine x_iconst (v := (1 : Int32)) C dX4_worth_90 (by decide) ?_
        refine q_icmp_ge (tgt := 96) C dX4_worth_91 (by decide) h (fun _ h => ?_) (fun _ h => ?_)
        · exact q_msk [false, false, false, false, false] (kE2 _ (Option.some.inj h).symm)
        · refine q_iload C dX4_worth_96 rfl ?_
          refine x_bipush (v := (-16 : Int32)) C dX4_worth_98 (by decide) ?_
          refine q_icmp_ne (tgt := 124) C dX4_worth_100 (by decide) h (fun _ h => ?_) (fun _ h => ?_)
          · refine q_aload_n C dX4_worth_103 rfl ?_
            refine x_getR (ci := 4) (j := 1) C dX4_worth_104 lkF_X4_9 rfl h (fun c7 h => ?_)
            refine x_nn h (fun r8 h => ?_)
            refine q_iload_n C dX4_worth_107 rfl ?_
            refine x_iconst (v := (1 : Int32)) C dX4_worth_108 (by decide) ?_
            refine q_isub C dX4_worth_109 ?_
            refine x_iconst (v := (1 : Int32)) C dX4_worth_110 (by decide) ?_
            refine q_aload_n C dX4_worth_111 rfl ?_
            refine x_getR (ci := 4) (j := 1) C dX4_worth_112 lkF_X4_9 rfl h (fun c9 h => ?_)
            refine x_nn h (fun r10 h => ?_)
            refine q_iload_n C dX4_worth_115 rfl ?_
            refine x_iconst (v := (1 : Int32)) C dX4_worth_116 (by decide) ?_
            refine q_isub C dX4_worth_117 ?_
            refine x_iald C dX4_worth_118 h (fun v11 h => ?_)
            refine q_isub C dX4_worth_119 ?_
            refine x_iast C dX4_worth_120 h (fun M12 h => ?_)
            refine q_goto (tgt := 208) C dX4_worth_121 (by decide) ?_
            exact q_msk [true, true, true, true, false] (jW_X4_worth_208_4 C l0 l1 l2 l3 M12 h kC kE0 kE1 kE2 kE3 kE4)
          · refine q_iload C dX4_worth_124 rfl ?_
            refine x_bipush (v := (-17 : Int32)) C dX4_worth_126 (by decide) ?_
            refine q_icmp_ne (tgt := 171) C dX4_worth_128 (by decide) h (fun _ h => ?_) (fun _ h => ?_)
            · refine x_iinc (w := (-1 : Int32)) (L' := [some (.ref l0), some (.ref l1), some (.int (l2 + (-1 : Int32))), some (.int l3), some (.int v6)]) C dX4_worth_131 rfl (by decide) (by decide) rfl rfl ?_
              refine x_iinc (w := (1 : Int32)) (L' := [some (.ref l0), some (.ref l1), some (.int (l2 + (-1 : Int32))), some (.int (l3 + (1 : Int32))), some (.int v6)]) C dX4_worth_134 rfl (by decide) (by decide) rfl rfl ?_
              refine q_aload_n C dX4_worth_137 rfl ?_
              refine x_getR (ci := 4) (j := 1) C dX4_worth_138 lkF_X4_9 rfl h (fun c13 h => ?_)
              refine x_nn h (fun r14 h => ?_)
              refine q_iload_n C dX4_worth_141 rfl ?_
              refine x_iald C dX4_worth_142 h (fun v15 h => ?_)
              refine q_if_ne (tgt := 208) C dX4_worth_143 (by decide) h (fun _ h => ?_) (fun _ h => ?_)
              · refine q_iload_n C dX4_worth_146 rfl ?_
                refine q_aload_n C dX4_worth_147 rfl ?_
                refine x_getR (ci := 4) (j := 0) C dX4_worth_148 lkF_X4_15 rfl h (fun c16 h => ?_)
                refine x_nn h (fun r17 h => ?_)
                refine x_alen C dX4_worth_151 h (fun v18 h => ?_)
                refine q_icmp_ge (tgt := 208) C dX4_worth_152 (by decide) h (fun _ h => ?_) (fun _ h => ?_)
                · refine q_iload_n C dX4_worth_155 rfl ?_
                  refine q_aload_n C dX4_worth_156 rfl ?_
                  refine x_getR (ci := 4) (j := 0) C dX4_worth_157 lkF_X4_15 rfl h (fun c19 h => ?_)
                  refine x_nn h (fun r20 h => ?_)
                  refine q_iload_n C dX4_worth_160 rfl ?_
                  refine x_iald C dX4_worth_161 h (fun v21 h => ?_)
                  refine x_iconst (v := (1 : Int32)) C dX4_worth_162 (by decide) ?_
                  refine q_isub C dX4_worth_163 ?_
                  refine q_max C dX4_worth_164 wd_765 wd_467 wd_15 wd_468 (by decide) (Nat.le_of_ble_eq_true rfl) (by decide) ?_
                  refine q_istore_n (L' := [some (.ref l0), some (.ref l1), some (.int (l2 + (-1 : Int32))), some (.int (q_mx (l3 + (1 : Int32)) (v21 - (1 : Int32)))), some (.int v6)]) C dX4_worth_167 (by decide) rfl rfl ?_
                  refine q_goto (tgt := 208) C dX4_worth_168 (by decide) ?_
                  exact q_msk [true, true, true, true, false] (jW_X4_worth_208_4 C l0 l1 (l2 + (-1 : Int32)) (q_mx (l3 + (1 : Int32)) (v21 - (1 : Int32))) M h kC kE0 kE1 kE2 kE3 kE4)
                · exact q_msk [true, true, true, true, false] (jW_X4_worth_208_4 C l0 l1 (l2 + (-1 : Int32)) (l3 + (1 : Int32)) M h kC kE0 kE1 kE2 kE3 kE4)
              · exact q_msk [true, true, true, true, false] (jW_X4_worth_208_4 C l0 l1 (l2 + (-1 : Int32)) (l3 + (1 : Int32)) M h kC kE0 kE1 kE2 kE3 kE4)
            · refine q_iload_n C dX4_worth_171 rfl ?_
              refine x_iconst (v := (2 : Int32)) C dX4_worth_172 (by decide) ?_
              refine q_icmp_ge (tgt := 178) C dX4_worth_173 (by decide) h (fun _ h => ?_) (fun _ h => ?_)
              · exact q_msk [false, false, false, false, false] (kE3 _ (Option.some.inj h).symm)
              · refine x_iinc (w := (-1 : Int32)) (L' := [some (.ref l0), some (.ref l1), some (.int (l2 + (-1 : Int32))), some (.int l3), some (.int v6)]) C dX4_worth_178 rfl (by decide) (by decide) rfl rfl ?_
                refine q_aload_n C dX4_worth_181 rfl ?_
                refine x_getR (ci := 4) (j := 1) C dX4_worth_182 lkF_X4_9 rfl h (fun c22 h => ?_)
                refine x_nn h (fun r23 h => ?_)
                refine q_iload_n C dX4_worth_185 rfl ?_
                refine x_iconst (v := (1 : Int32)) C dX4_worth_186 (by decide) ?_
                refine q_isub C dX4_worth_187 ?_
                refine q_iload C dX4_worth_188 rfl ?_
                refine q_aload_n C dX4_worth_190 rfl ?_
                refine x_getR (ci := 4) (j := 1) C dX4_worth_191 lkF_X4_9 rfl h (fun c24 h => ?_)
                refine x_nn h (fun r25 h => ?_)
                refine q_iload_n C dX4_worth_194 rfl ?_
                refine x_iconst (v := (1 : Int32)) C dX4_worth_195 (by decide) ?_
                refine q_isub C dX4_worth_196 ?_
                refine x_iald C dX4_worth_197 h (fun v26 h => ?_)
                refine q_aload_n C dX4_worth_198 rfl ?_
                refine x_getR (ci := 4) (j := 1) C dX4_worth_199 lkF_X4_9 rfl h (fun c27 h => ?_)
                refine x_nn h (fun r28 h => ?_)
                refine q_iload_n C dX4_worth_202 rfl ?_
                refine x_iald C dX4_worth_203 h (fun v29 h => ?_)
                obtain ⟨u30, e1, h⟩ := q_bind h
                refine x_callS0 C dX4_worth_204 lkM_X4_24 mS_X4_joined (c_X4_joined _ _ _ _ _ _ e1) rfl rfl (Nat.le_of_ble_eq_true rfl) (by decide) (by decide) ?_
                refine x_iast C dX4_worth_207 h (fun M31 h => ?_)
                exact q_msk [true, true, true, true, false] (jW_X4_worth_208_4 C l0 l1 (l2 + (-1 : Int32)) l3 M31 h kC kE0 kE1 kE2 kE3 kE4)
    · refine q_iload_n C dX4_worth_28 rfl ?_
      refine x_bipush (v := (32 : Int32)) C dX4_worth_29 (by decide) ?_
      refine q_icmp_lt (tgt := 36) C dX4_worth_31 (by decide) h (fun _ h => ?_) (fun _ h => ?_)
      · refine q_aload_n C dX4_worth_36 rfl ?_
        refine x_getR (ci := 4) (j := 1) C dX4_worth_37 lkF_X4_9 rfl h (fun c32 h => ?_)
        refine x_nn h (fun r33 h => ?_)
        refine q_iload_n C dX4_worth_40 rfl ?_
        refine q_iload C dX4_worth_41 rfl ?_
        refine q_if_lt (tgt := 51) C dX4_worth_43 (by decide) h (fun _ h => ?_) (fun _ h => ?_)
        · refine q_aload_n C dX4_worth_51 rfl ?_
          refine q_iload C dX4_worth_52 rfl ?_
          refine x_bipush (v := (-6 : Int32)) C dX4_worth_54 (by decide) ?_
          refine q_isub C dX4_worth_56 ?_
          refine x_iald C dX4_worth_57 h (fun v34 h => ?_)
          exact q_msk [true, true, true, true, false] (jW_X4_worth_58_4 C l0 l1 l2 l3 r33 l2 v34 M h kC kE0 kE1 kE2 kE3 kE4)
        · refine q_iload C dX4_worth_46 rfl ?_
          refine q_goto (tgt := 58) C dX4_worth_48 (by decide) ?_
          exact q_msk [true, true, true, true, false] (jW_X4_worth_58_4 C l0 l1 l2 l3 r33 l2 v6 M h kC kE0 kE1 kE2 kE3 kE4)
      · exact q_msk [false, false, false, false, false] (kE0 _ (Option.some.inj h).symm)
  · exact q_msk [false, false, false, false, false] (kE4 _ (Option.some.inj h).symm)
set_option maxRecDepth 100000 in
set_option maxHeartbeats 4000000 in
theorem lW_X4_worth_4 {K : q_K} {Q : State → Prop} (C : q_C K yX4_worth cX4_worth 5 (Option.some Jvm.ClassFile.FieldType.int) 2 0 0) (l0 : Nat) (l1 : Nat) (n : Nat) : ∀ (l2 : Int32) (l3 : Int32) (M : q_Mem) (e : ((q_Mem) ⊕ ((Int32 × q_Mem) ⊕ ((q_Mem) ⊕ ((q_Mem) ⊕ (q_Mem)))))), q_lp (fun s => B_X4_worth_4 l0 l1 s.1 s.2.1 s.2.2) n (l2, l3, M) = some e → (∀ (M : q_Mem), e = (.inl M) → q_W K 5 Q 0 0 M 34 [none, none, none, none, none] []) → (∀ (l2 : Int32) (M : q_Mem), e = (.inr (.inl (l2, M))) → q_W K 5 Q 0 0 M 72 [some (.ref l0), none, some (.int l2), none, none] []) → (∀ (M : q_Mem), e = (.inr (.inr (.inl M))) → q_W K 5 Q 0 0 M 94 [none, none, none, none, none] []) → (∀ (M : q_Mem), e = (.inr (.inr (.inr (.inl M)))) → q_W K 5 Q 0 0 M 176 [none, none, none, none, none] []) → (∀ (M : q_Mem), e = (.inr (.inr (.inr (.inr M)))) → q_W K 5 Q 0 0 M 214 [none, none, none, none, none] []) → q_W K 5 Q 0 0 M 4 [some (.ref l0), some (.ref l1), some (.int l2), some (.int l3), none] [] := by
  induction n with
  | zero => intro l2 l3 M e h; cases h
  | succ n ih =>
    intro l2 l3 M e h kE0 kE1 kE2 kE3 kE4
    obtain ⟨stp, e1, e2⟩ := q_bind h
    refine bW_X4_worth_4 C l0 l1 l2 l3 M e1 (fun a0 a1 a2 hs => ?_) (fun b0 hs => ?_) (fun b0 b1 hs => ?_) (fun b0 hs => ?_) (fun b0 hs => ?_) (fun b0 hs => ?_)
    · subst hs; exact ih _ _ _ _ e2 kE0 kE1 kE2 kE3 kE4
    · subst hs; exact kE0 _ (Option.some.inj e2).symm
    · subst hs; exact kE1 _ _ (Option.some.inj e2).symm
    · subst hs; exact kE2 _ (Option.some.inj e2).symm
    · subst hs; exact kE3 _ (Option.some.inj e2).symm
    · subst hs; exact kE4 _ (Option.some.inj e2).symm
noncomputable def F_X4_worth (l0 : Nat) (l1 : Nat) (M : q_Mem) : Option (Int32 × q_Mem) := (q_lp (fun s => B_X4_worth_4 l0 l1 s.1 s.2.1 s.2.2) q_fu ((0 : Int32), (0 : Int32), M)).bind (fun e36 => match e36 with | .inl M37 => some ((0 : Int32), M37) | .inr (.inl (w38, M39)) => (if 0 < w38 then (q_gR M39 l0 4 1 (fun c40 => q_nn c40 (fun r41 => (q_lI M39 0 r41 (w38 - (1 : Int32)) (fun v42 => some (v42, M39)))))) else some ((0 : Int32), M39)) | .inr (.inr (.inl M43)) => some ((0 : Int32), M43) | .inr (.inr (.inr (.inl M44))) => some ((0 : Int32), M44) | .inr (.inr (.inr (.inr M45))) => some ((0 : Int32), M45))
set_option maxRecDepth 100000 in
set_option maxHeartbeats 4000000 in
theorem c_X4_worth (l : Launch) (G : q_G) (l0 : Nat) (l1 : Nat) (M : q_Mem) {r : Int32} {M' : q_Mem} (h : F_X4_worth l0 l1 M = some (r, M')) : q_Met l G yX4_worth cX4_worth 5 (Option.some Jvm.ClassFile.FieldType.int) 2 0 0 [.ref l0, .ref l1] M (some (.int r)) M' := by
  unfold F_X4_worth at h
  refine q_enter [some (.ref l0), some (.ref l1), none, none, none] (by decide) (Nat.le_of_ble_eq_true rfl) rfl (fun K C => ?_)
  refine x_iconst (v := (0 : Int32)) C dX4_worth_0 (by decide) ?_
  refine q_istore_n (L' := [some (.ref l0), some (.ref l1), some (.int (0 : Int32)), none, none]) C dX4_worth_1 (by decide) rfl rfl ?_
  refine x_iconst (v := (0 : Int32)) C dX4_worth_2 (by decide) ?_
  refine q_istore_n (L' := [some (.ref l0), some (.ref l1), some (.int (0 : Int32)), some (.int (0 : Int32)), none]) C dX4_worth_3 (by decide) rfl rfl ?_
  obtain ⟨e36, he, h⟩ := q_bind h
  refine q_msk [true, true, true, true, false] (lW_X4_worth_4 C l0 l1 q_fu _ _ _ _ he (fun M37 hs => ?_) (fun w38 M39 hs => ?_) (fun M43 hs => ?_) (fun M44 hs => ?_) (fun M45 hs => ?_))
  · have hs := hs.symm
    subst hs
    refine x_iconst (v := (0 : Int32)) C dX4_worth_34 (by decide) ?_
    exact q_iret C dX4_worth_35 rfl (by decide) (by decide) (Option.some.inj h)
  · have hs := hs.symm
    subst hs
    refine q_iload_n C dX4_worth_72 rfl ?_
    refine q_if_le (tgt := 87) C dX4_worth_73 (by decide) h (fun _ h => ?_) (fun _ h => ?_)
    · refine q_aload_n C dX4_worth_76 rfl ?_
      refine x_getR (ci := 4) (j := 1) C dX4_worth_77 lkF_X4_9 rfl h (fun c40 h => ?_)
      refine x_nn h (fun r41 h => ?_)
      refine q_iload_n C dX4_worth_80 rfl ?_
      refine x_iconst (v := (1 : Int32)) C dX4_worth_81 (by decide) ?_
      refine q_isub C dX4_worth_82 ?_
      refine x_iald C dX4_worth_83 h (fun v42 h => ?_)
      refine q_goto (tgt := 88) C dX4_worth_84 (by decide) ?_
      exact q_iret C dX4_worth_88 rfl (by decide) (by decide) (Option.some.inj h)
    · refine x_iconst (v := (0 : Int32)) C dX4_worth_87 (by decide) ?_
      exact q_iret C dX4_worth_88 rfl (by decide) (by decide) (Option.some.inj h)
  · have hs := hs.symm
    subst hs
    refine x_iconst (v := (0 : Int32)) C dX4_worth_94 (by decide) ?_
    exact q_iret C dX4_worth_95 rfl (by decide) (by decide) (Option.some.inj h)
  · have hs := hs.symm
    subst hs
    refine x_iconst (v := (0 : Int32)) C dX4_worth_176 (by decide) ?_
    exact q_iret C dX4_worth_177 rfl (by decide) (by decide) (Option.some.inj h)
  · have hs := hs.symm
    subst hs
    refine x_iconst (v := (0 : Int32)) C dX4_worth_214 (by decide) ?_
    exact q_iret C dX4_worth_215 rfl (by decide) (by decide) (Option.some.inj h)
noncomputable def J_X1_joyBy_51 (l0 : Nat) (l3 : Int32) (l4 : Int32) (l5 : Int32) (l6 : Int32) (s0 : Nat) (s1 : Int32) (s2 : Int32) (M : q_Mem) : Option (Int32 × q_Mem) := (q_tI M s0 s1 s2 (fun M9 => (q_gR M9 l0 1 2 (fun c10 => q_nn c10 (fun r11 => (q_tI M9 r11 (2 : Int32) l3 (fun M12 => (q_gR M12 l0 1 2 (fun c13 => q_nn c13 (fun r14 => (q_tI M12 r14 (3 : Int32) l4 (fun M15 => (q_gR M15 l0 1 2 (fun c16 => q_nn c16 (fun r17 => (q_tI M15 r17 (4 : Int32) l5 (fun M18 => (q_gR M18 l0 1 2 (fun c19 => q_nn c19 (fun r20 => (q_tI M18 r20 (5 : Int32) l6 (fun M21 => (q_gR M21 l0 1 3 (fun c22 => q_nn c22 (fun r23 => (q_gR M21 l0 1 2 (fun c24 => q_nn c24 (fun r25 => (q_ob M21 r23 4 ((F_X4_worth r23 r25 M21).bind (fun x => match x with | (u26, M27) => some ((q_mx (-9 : Int32) (q_mn (20 : Int32) u26)), M27))))))))))))))))))))))))))))))))
set_option maxRecDepth 100000 in
set_option maxHeartbeats 4000000 in
theorem jW_X1_joyBy_51 {K : q_K} (C : q_C K yX1_joyBy cX1_joyBy 8 (Option.some Jvm.ClassFile.FieldType.int) 3 0 0) (l0 : Nat) (l3 : Int32) (l4 : Int32) (l5 : Int32) (l6 : Int32) (s0 : Nat) (s1 : Int32) (s2 : Int32) (M : q_Mem) {r : Int32} {M' : q_Mem} (h : J_X1_joyBy_51 l0 l3 l4 l5 l6 s0 s1 s2 M = some (r, M')) : q_W K 8 (q_Q K (some (.int r)) M' 0 0) 0 0 M 51 [some (.ref l0), none, none, some (.int l3), some (.int l4), some (.int l5), some (.int l6), none] [.int s2, .int s1, .ref s0] := by
  unfold J_X1_joyBy_51 at h
  refine x_iast C dX1_joyBy_51 h (fun M9 h => ?_)
  refine q_aload_n C dX1_joyBy_52 rfl ?_
  refine x_getR (ci := 1) (j := 2) C dX1_joyBy_53 lkF_X1_15 rfl h (fun c10 h => ?_)
  refine x_nn h (fun r11 h => ?_)
  refine x_iconst (v := (2 : Int32)) C dX1_joyBy_56 (by decide) ?_
  refine q_iload_n C dX1_joyBy_57 rfl ?_
  refine x_iast C dX1_joyBy_58 h (fun M12 h => ?_)
  refine q_aload_n C dX1_joyBy_59 rfl ?_
  refine x_getR (ci := 1) (j := 2) C dX1_joyBy_60 lkF_X1_15 rfl h (fun c13 h => ?_)
  refine x_nn h (fun r14 h => ?_)
  refine x_iconst (v := (3 : Int32)) C dX1_joyBy_63 (by decide) ?_
  refine q_iload C dX1_joyBy_64 rfl ?_
  refine x_iast C dX1_joyBy_66 h (fun M15 h => ?_)
  refine q_aload_n C dX1_joyBy_67 rfl ?_
  refine x_getR (ci := 1) (j := 2) C dX1_joyBy_68 lkF_X1_15 rfl h (fun c16 h => ?_)
  refine x_nn h (fun r17 h => ?_)
  refine x_iconst (v := (4 : Int32)) C dX1_joyBy_71 (by decide) ?_
  refine q_iload C dX1_joyBy_72 rfl ?_
  refine x_iast C dX1_joyBy_74 h (fun M18 h => ?_)
  refine q_aload_n C dX1_joyBy_75 rfl ?_
  refine x_getR (ci := 1) (j := 2) C dX1_joyBy_76 lkF_X1_15 rfl h (fun c19 h => ?_)
  refine x_nn h (fun r20 h => ?_)
  refine x_iconst (v := (5 : Int32)) C dX1_joyBy_79 (by decide) ?_
  refine q_iload C dX1_joyBy_80 rfl ?_
  refine x_iast C dX1_joyBy_82 h (fun M21 h => ?_)
  refine q_aload_n C dX1_joyBy_83 rfl ?_
  refine x_getR (ci := 1) (j := 3) C dX1_joyBy_84 lkF_X1_18 rfl h (fun c22 h => ?_)
  refine x_nn h (fun r23 h => ?_)
  refine q_aload_n C dX1_joyBy_87 rfl ?_
  refine x_getR (ci := 1) (j := 2) C dX1_joyBy_88 lkF_X1_15 rfl h (fun c24 h => ?_)
  refine x_nn h (fun r25 h => ?_)
  obtain ⟨hk, h⟩ := q_obE h
  obtain ⟨⟨u26, M27⟩, e1, h⟩ := q_bind h
  refine x_callV0 C dX1_joyBy_91 lkM_X1_117 mV_X4_worth ⟨_, rfl, rfl⟩ hk (c_X4_worth _ _ _ _ _ e1) rfl rfl (Nat.le_of_ble_eq_true rfl) (by decide) (by decide) ?_
  refine q_istore (L' := [some (.ref l0), none, none, some (.int l3), some (.int l4), some (.int l5), some (.int l6), some (.int u26)]) C dX1_joyBy_94 (by decide) rfl rfl ?_
  refine x_bipush (v := (-9 : Int32)) C dX1_joyBy_96 (by decide) ?_
  refine x_bipush (v := (20 : Int32)) C dX1_joyBy_98 (by decide) ?_
  refine q_iload C dX1_joyBy_100 rfl ?_
  refine q_min C dX1_joyBy_102 wd_771 wd_470 wd_15 wd_471 (by decide) (Nat.le_of_ble_eq_true rfl) (by decide) ?_
  refine q_max C dX1_joyBy_105 wd_748 wd_467 wd_15 wd_468 (by decide) (Nat.le_of_ble_eq_true rfl) (by decide) ?_
  exact q_iret C dX1_joyBy_108 rfl (by decide) (by decide) (Option.some.inj h)
noncomputable def F_X1_joyBy (l0 : Nat) (l1 : Int32) (l2 : Int32) (l3 : Int32) (l4 : Int32) (l5 : Int32) (l6 : Int32) (M : q_Mem) : Option (Int32 × q_Mem) := (q_gR M l0 1 3 (fun c1 => (match c1 with | 0 => (if l3 = 0 then some ((-2 : Int32), M) else (q_dvi l1 (3 : Int32) (fun v3 => (if l2 = 0 then some ((v3 + (0 : Int32)), M) else some ((v3 + (3 : Int32)), M))))) | r2 + 1 => (q_gR M l0 1 2 (fun c4 => q_nn c4 (fun r5 => (q_tI M r5 (0 : Int32) l1 (fun M6 => (q_gR M6 l0 1 2 (fun c7 => q_nn c7 (fun r8 => (if l2 = 0 then J_X1_joyBy_51 l0 l3 l4 l5 l6 r8 (1 : Int32) (0 : Int32) M6 else J_X1_joyBy_51 l0 l3 l4 l5 l6 r8 (1 : Int32) (1 : Int32) M6))))))))))))
set_option maxRecDepth 100000 in
set_option maxHeartbeats 4000000 in
theorem c_X1_joyBy (l : Launch) (G : q_G) (l0 : Nat) (l1 : Int32) (l2 : Int32) (l3 : Int32) (l4 : Int32) (l5 : Int32) (l6 : Int32) (M : q_Mem) {r : Int32} {M' : q_Mem} (h : F_X1_joyBy l0 l1 l2 l3 l4 l5 l6 M = some (r, M')) : q_Met l G yX1_joyBy cX1_joyBy 8 (Option.some Jvm.ClassFile.FieldType.int) 3 0 0 [.ref l0, .int l1, .int l2, .int l3, .int l4, .int l5, .int l6] M (some (.int r)) M' := by
  unfold F_X1_joyBy at h
  refine q_enter [some (.ref l0), some (.int l1), some (.int l2), some (.int l3), some (.int l4), some (.int l5), some (.int l6), none] (by decide) (Nat.le_of_ble_eq_true rfl) rfl (fun K C => ?_)
  refine q_aload_n C dX1_joyBy_0 rfl ?_
  refine x_getR (ci := 1) (j := 3) C dX1_joyBy_1 lkF_X1_18 rfl h (fun c1 h => ?_)
  refine q_ifnonnull (tgt := 30) C dX1_joyBy_4 (by decide) h (fun hn h => ?_) (fun r2 hn h => ?_)
  · subst hn
    refine q_iload_n C dX1_joyBy_7 rfl ?_
    refine q_if_ne (tgt := 16) C dX1_joyBy_8 (by decide) h (fun _ h => ?_) (fun _ h => ?_)
    · refine x_bipush (v := (-2 : Int32)) C dX1_joyBy_11 (by decide) ?_
      refine q_goto (tgt := 29) C dX1_joyBy_13 (by decide) ?_
      exact q_iret C dX1_joyBy_29 rfl (by decide) (by decide) (Option.some.inj h)
    · refine q_iload_n C dX1_joyBy_16 rfl ?_
      refine x_iconst (v := (3 : Int32)) C dX1_joyBy_17 (by decide) ?_
      refine q_idiv C dX1_joyBy_18 h (fun v3 h => ?_)
      refine q_iload_n C dX1_joyBy_19 rfl ?_
      refine q_if_eq (tgt := 27) C dX1_joyBy_20 (by decide) h (fun _ h => ?_) (fun _ h => ?_)
      · refine x_iconst (v := (0 : Int32)) C dX1_joyBy_27 (by decide) ?_
        refine q_iadd C dX1_joyBy_28 ?_
        exact q_iret C dX1_joyBy_29 rfl (by decide) (by decide) (Option.some.inj h)
      · refine x_iconst (v := (3 : Int32)) C dX1_joyBy_23 (by decide) ?_
        refine q_goto (tgt := 28) C dX1_joyBy_24 (by decide) ?_
        refine q_iadd C dX1_joyBy_28 ?_
        exact q_iret C dX1_joyBy_29 rfl (by decide) (by decide) (Option.some.inj h)
  · subst hn
    refine q_aload_n C dX1_joyBy_30 rfl ?_
    refine x_getR (ci := 1) (j := 2) C dX1_joyBy_31 lkF_X1_15 rfl h (fun c4 h => ?_)
    refine x_nn h (fun r5 h => ?_)
    refine x_iconst (v := (0 : Int32)) C dX1_joyBy_34 (by decide) ?_
    refine q_iload_n C dX1_joyBy_35 rfl ?_
    refine x_iast C dX1_joyBy_36 h (fun M6 h => ?_)
    refine q_aload_n C dX1_joyBy_37 rfl ?_
    refine x_getR (ci := 1) (j := 2) C dX1_joyBy_38 lkF_X1_15 rfl h (fun c7 h => ?_)
    refine x_nn h (fun r8 h => ?_)
    refine x_iconst (v := (1 : Int32)) C dX1_joyBy_41 (by decide) ?_
    refine q_iload_n C dX1_joyBy_42 rfl ?_
    refine q_if_eq (tgt := 50) C dX1_joyBy_43 (by decide) h (fun _ h => ?_) (fun _ h => ?_)
    · refine x_iconst (v := (0 : Int32)) C dX1_joyBy_50 (by decide) ?_
      exact q_msk [true, false, false, true, true, true, true, false] (jW_X1_joyBy_51 C l0 l3 l4 l5 l6 r8 (1 : Int32) (0 : Int32) M6 h)
    · refine x_iconst (v := (1 : Int32)) C dX1_joyBy_46 (by decide) ?_
      refine q_goto (tgt := 51) C dX1_joyBy_47 (by decide) ?_
      exact q_msk [true, false, false, true, true, true, true, false] (jW_X1_joyBy_51 C l0 l3 l4 l5 l6 r8 (1 : Int32) (1 : Int32) M6 h)
noncomputable def J_X1_gladden_37 (l0 : Nat) (l1 : Nat) (l2 : Int32) (s0 : Int32) (M : q_Mem) : Option (Unit × q_Mem) := (q_gR M l0 1 0 (fun c2 => q_nn c2 (fun r3 => (q_ob M r3 3 ((F_X3_ofGuest r3 l2 (3 : Int32) M).bind (fun u4 => (q_gR M l1 8 0 (fun c5 => q_nn c5 (fun r6 => (q_lI M 0 r6 (0 : Int32) (fun v7 => (q_gI M l0 1 8 (fun v8 => (q_gR M l0 1 1 (fun c9 => q_nn c9 (fun r10 => (q_lI M 0 r10 l2 (fun v11 => (q_gR M l0 1 0 (fun c12 => q_nn c12 (fun r13 => (q_ob M r13 3 ((F_X3_ofGuest r13 l2 (0 : Int32) M).bind (fun u14 => (q_ob M l0 1 ((F_X1_joyBy l0 v8 s0 v11 (v7 - u14) u4 v7 M).bind (fun x => match x with | (u15, M16) => (q_gR M16 l1 8 0 (fun c17 => q_nn c17 (fun r18 => (q_lI M16 0 r18 ((25 : Int32) + l2) (fun v19 => (q_gR M16 l1 8 0 (fun c20 => q_nn c20 (fun r21 => (q_tI M16 r21 ((25 : Int32) + l2) (q_mx (-99 : Int32) (q_mn (999 : Int32) (v19 + u15))) (fun M22 => (q_gR M22 l1 8 0 (fun c23 => q_nn c23 (fun r24 => (q_gR M22 l1 8 0 (fun c25 => q_nn c25 (fun r26 => (q_lI M22 0 r26 (2 : Int32) (fun v27 => (q_tI M22 r24 (2 : Int32) (q_mn (999 : Int32) (v27 + u4)) (fun M28 => (if (-10 : Int32) < (q_mx (-99 : Int32) (q_mn (999 : Int32) (v19 + u15))) then some ((), M28) else (q_gR M28 l1 8 0 (fun c29 => q_nn c29 (fun r30 => (q_lI M28 0 r30 (4 : Int32) (fun v31 => (q_tI M28 r30 (4 : Int32) (v31 ||| ((1 : Int32) <<< (l2 &&& 31))) (fun M32 => some ((), M32))))))))))))))))))))))))))))))))))))))))))))))))))))))))
set_option maxRecDepth 100000 in
set_option maxHeartbeats 4000000 in
theorem jW_X1_gladden_37 {K : q_K} (C : q_C K yX1_gladden cX1_gladden 8 (Option.none : Option Jvm.ClassFile.FieldType) 4 0 0) (l0 : Nat) (l1 : Nat) (l2 : Int32) (s0 : Int32) (M : q_Mem) {r : Unit} {M' : q_Mem} (h : J_X1_gladden_37 l0 l1 l2 s0 M = some (r, M')) : q_W K 8 (q_Q K none M' 0 0) 0 0 M 37 [some (.ref l0), some (.ref l1), some (.int l2), none, none, none, none, none] [.int s0] := by
  unfold J_X1_gladden_37 at h
  refine q_istore_n (L' := [some (.ref l0), some (.ref l1), some (.int l2), some (.int s0), none, none, none, none]) C dX1_gladden_37 (by decide) rfl rfl ?_
  refine q_aload_n C dX1_gladden_38 rfl ?_
  refine x_getR (ci := 1) (j := 0) C dX1_gladden_39 lkF_X1_47 rfl h (fun c2 h => ?_)
  refine x_nn h (fun r3 h => ?_)
  refine q_iload_n C dX1_gladden_42 rfl ?_
  refine x_iconst (v := (3 : Int32)) C dX1_gladden_43 (by decide) ?_
  obtain ⟨hk, h⟩ := q_obE h
  obtain ⟨u4, e1, h⟩ := q_bind h
  refine x_callV0 C dX1_gladden_44 lkM_X1_56 mV_X3_ofGuest ⟨_, rfl, rfl⟩ hk (c_X3_ofGuest _ _ _ _ _ _ e1) rfl rfl (Nat.le_of_ble_eq_true rfl) (by decide) (by decide) ?_
  refine q_istore (L' := [some (.ref l0), some (.ref l1), some (.int l2), some (.int s0), some (.int u4), none, none, none]) C dX1_gladden_47 (by decide) rfl rfl ?_
  refine q_aload_n C dX1_gladden_49 rfl ?_
  refine x_getR (ci := 8) (j := 0) C dX1_gladden_50 lkF_X1_51 rfl h (fun c5 h => ?_)
  refine x_nn h (fun r6 h => ?_)
  refine x_iconst (v := (0 : Int32)) C dX1_gladden_53 (by decide) ?_
  refine x_iald C dX1_gladden_54 h (fun v7 h => ?_)
  refine q_istore (L' := [some (.ref l0), some (.ref l1), some (.int l2), some (.int s0), some (.int u4), some (.int v7), none, none]) C dX1_gladden_55 (by decide) rfl rfl ?_
  refine q_aload_n C dX1_gladden_57 rfl ?_
  refine q_aload_n C dX1_gladden_58 rfl ?_
  refine x_getI (ci := 1) (j := 8) C dX1_gladden_59 lkF_X1_35 rfl h (fun v8 h => ?_)
  refine q_iload_n C dX1_gladden_62 rfl ?_
  refine q_aload_n C dX1_gladden_63 rfl ?_
  refine x_getR (ci := 1) (j := 1) C dX1_gladden_64 lkF_X1_9 rfl h (fun c9 h => ?_)
  refine x_nn h (fun r10 h => ?_)
  refine q_iload_n C dX1_gladden_67 rfl ?_
  refine x_iald C dX1_gladden_68 h (fun v11 h => ?_)
  refine q_iload C dX1_gladden_69 rfl ?_
  refine q_aload_n C dX1_gladden_71 rfl ?_
  refine x_getR (ci := 1) (j := 0) C dX1_gladden_72 lkF_X1_47 rfl h (fun c12 h => ?_)
  refine x_nn h (fun r13 h => ?_)
  refine q_iload_n C dX1_gladden_75 rfl ?_
  refine x_iconst (v := (0 : Int32)) C dX1_gladden_76 (by decide) ?_
  obtain ⟨hk, h⟩ := q_obE h
  obtain ⟨u14, e1, h⟩ := q_bind h
  refine x_callV0 C dX1_gladden_77 lkM_X1_56 mV_X3_ofGuest ⟨_, rfl, rfl⟩ hk (c_X3_ofGuest _ _ _ _ _ _ e1) rfl rfl (Nat.le_of_ble_eq_true rfl) (by decide) (by decide) ?_
  refine q_isub C dX1_gladden_80 ?_
  refine q_iload C dX1_gladden_81 rfl ?_
  refine q_iload C dX1_gladden_83 rfl ?_
  obtain ⟨hk, h⟩ := q_obE h
  obtain ⟨⟨u15, M16⟩, e1, h⟩ := q_bind h
  refine x_callV0 C dX1_gladden_85 lkM_X1_110 mV_X1_joyBy ⟨_, rfl, rfl⟩ hk (c_X1_joyBy _ _ _ _ _ _ _ _ _ _ e1) rfl rfl (Nat.le_of_ble_eq_true rfl) (by decide) (by decide) ?_
  refine q_istore (L' := [some (.ref l0), some (.ref l1), some (.int l2), some (.int s0), some (.int u4), some (.int v7), some (.int u15), none]) C dX1_gladden_88 (by decide) rfl rfl ?_
  refine x_bipush (v := (-99 : Int32)) C dX1_gladden_90 (by decide) ?_
  refine x_sipush (v := (999 : Int32)) C dX1_gladden_92 (by decide) ?_
  refine q_aload_n C dX1_gladden_95 rfl ?_
  refine x_getR (ci := 8) (j := 0) C dX1_gladden_96 lkF_X1_51 rfl h (fun c17 h => ?_)
  refine x_nn h (fun r18 h => ?_)
  refine x_bipush (v := (25 : Int32)) C dX1_gladden_99 (by decide) ?_
  refine q_iload_n C dX1_gladden_101 rfl ?_
  refine q_iadd C dX1_gladden_102 ?_
  refine x_iald C dX1_gladden_103 h (fun v19 h => ?_)
  refine q_iload C dX1_gladden_104 rfl ?_
  refine q_iadd C dX1_gladden_106 ?_
  refine q_min C dX1_gladden_107 wd_771 wd_470 wd_15 wd_471 (by decide) (Nat.le_of_ble_eq_true rfl) (by decide) ?_
  refine q_max C dX1_gladden_110 wd_748 wd_467 wd_15 wd_468 (by decide) (Nat.le_of_ble_eq_true rfl) (by decide) ?_
  refine q_istore (L' := [some (.ref l0), some (.ref l1), some (.int l2), some (.int s0), some (.int u4), some (.int v7), some (.int u15), some (.int (q_mx (-99 : Int32) (q_mn (999 : Int32) (v19 + u15))))]) C dX1_gladden_113 (by decide) rfl rfl ?_
  refine q_aload_n C dX1_gladden_115 rfl ?_
  refine x_getR (ci := 8) (j := 0) C dX1_gladden_116 lkF_X1_51 rfl h (fun c20 h => ?_)
  refine x_nn h (fun r21 h => ?_)
  refine x_bipush (v := (25 : Int32)) C dX1_gladden_119 (by decide) ?_
  refine q_iload_n C dX1_gladden_121 rfl ?_
  refine q_iadd C dX1_gladden_122 ?_
  refine q_iload C dX1_gladden_123 rfl ?_
  refine x_iast C dX1_gladden_125 h (fun M22 h => ?_)
  refine q_aload_n C dX1_gladden_126 rfl ?_
  refine x_getR (ci := 8) (j := 0) C dX1_gladden_127 lkF_X1_51 rfl h (fun c23 h => ?_)
  refine x_nn h (fun r24 h => ?_)
  refine x_iconst (v := (2 : Int32)) C dX1_gladden_130 (by decide) ?_
  refine x_sipush (v := (999 : Int32)) C dX1_gladden_131 (by decide) ?_
  refine q_aload_n C dX1_gladden_134 rfl ?_
  refine x_getR (ci := 8) (j := 0) C dX1_gladden_135 lkF_X1_51 rfl h (fun c25 h => ?_)
  refine x_nn h (fun r26 h => ?_)
  refine x_iconst (v := (2 : Int32)) C dX1_gladden_138 (by decide) ?_
  refine x_iald C dX1_gladden_139 h (fun v27 h => ?_)
  refine q_iload C dX1_gladden_140 rfl ?_
  refine q_iadd C dX1_gladden_142 ?_
  refine q_min C dX1_gladden_143 wd_771 wd_470 wd_15 wd_471 (by decide) (Nat.le_of_ble_eq_true rfl) (by decide) ?_
  refine x_iast C dX1_gladden_146 h (fun M28 h => ?_)
  refine q_iload C dX1_gladden_147 rfl ?_
  refine x_bipush (v := (-10 : Int32)) C dX1_gladden_149 (by decide) ?_
  refine q_icmp_gt (tgt := 166) C dX1_gladden_151 (by decide) h (fun _ h => ?_) (fun _ h => ?_)
  · exact q_vret C dX1_gladden_166 rfl (by decide) (by decide) (Option.some.inj h)
  · refine q_aload_n C dX1_gladden_154 rfl ?_
    refine x_getR (ci := 8) (j := 0) C dX1_gladden_155 lkF_X1_51 rfl h (fun c29 h => ?_)
    refine x_nn h (fun r30 h => ?_)
    refine x_iconst (v := (4 : Int32)) C dX1_gladden_158 (by decide) ?_
    refine q_dup2 C dX1_gladden_159 rfl rfl ?_
    refine x_iald C dX1_gladden_160 h (fun v31 h => ?_)
    refine x_iconst (v := (1 : Int32)) C dX1_gladden_161 (by decide) ?_
    refine q_iload_n C dX1_gladden_162 rfl ?_
    refine q_ishl C dX1_gladden_163 ?_
    refine q_ior C dX1_gladden_164 ?_
    refine x_iast C dX1_gladden_165 h (fun M32 h => ?_)
    exact q_vret C dX1_gladden_166 rfl (by decide) (by decide) (Option.some.inj h)
noncomputable def J_X1_gladden_36 (l0 : Nat) (l1 : Nat) (l2 : Int32) (M : q_Mem) : Option (Unit × q_Mem) := J_X1_gladden_37 l0 l1 l2 (0 : Int32) M
set_option maxRecDepth 100000 in
set_option maxHeartbeats 4000000 in
theorem jW_X1_gladden_36 {K : q_K} (C : q_C K yX1_gladden cX1_gladden 8 (Option.none : Option Jvm.ClassFile.FieldType) 4 0 0) (l0 : Nat) (l1 : Nat) (l2 : Int32) (M : q_Mem) {r : Unit} {M' : q_Mem} (h : J_X1_gladden_36 l0 l1 l2 M = some (r, M')) : q_W K 8 (q_Q K none M' 0 0) 0 0 M 36 [some (.ref l0), some (.ref l1), some (.int l2), none, none, none, none, none] [] := by
  unfold J_X1_gladden_36 at h
  refine x_iconst (v := (0 : Int32)) C dX1_gladden_36 (by decide) ?_
  exact q_msk [true, true, true, false, false, false, false, false] (jW_X1_gladden_37 C l0 l1 l2 (0 : Int32) M h)
noncomputable def F_X1_gladden (l0 : Nat) (l1 : Nat) (l2 : Int32) (M : q_Mem) : Option (Unit × q_Mem) := (q_gI M l0 1 7 (fun v1 => (if v1 = (-1 : Int32) then J_X1_gladden_36 l0 l1 l2 M else (q_gR M l0 1 0 (fun c33 => q_nn c33 (fun r34 => (q_gI M l0 1 7 (fun v35 => (q_ob M r34 3 ((F_X3_ofDish r34 v35 (2 : Int32) M).bind (fun u36 => (q_gR M l1 8 0 (fun c37 => q_nn c37 (fun r38 => (q_lI M 0 r38 ((19 : Int32) + l2) (fun v39 => (if u36 = v39 then J_X1_gladden_37 l0 l1 l2 (1 : Int32) M else J_X1_gladden_36 l0 l1 l2 M)))))))))))))))))
set_option maxRecDepth 100000 in
set_option maxHeartbeats 4000000 in
theorem c_X1_gladden (l : Launch) (G : q_G) (l0 : Nat) (l1 : Nat) (l2 : Int32) (M : q_Mem) {r : Unit} {M' : q_Mem} (h : F_X1_gladden l0 l1 l2 M = some (r, M')) : q_Met l G yX1_gladden cX1_gladden 8 (Option.none : Option Jvm.ClassFile.FieldType) 4 0 0 [.ref l0, .ref l1, .int l2] M none M' := by
  unfold F_X1_gladden at h
  refine q_enter [some (.ref l0), some (.ref l1), some (.int l2), none, none, none, none, none] (by decide) (Nat.le_of_ble_eq_true rfl) rfl (fun K C => ?_)
  refine q_aload_n C dX1_gladden_0 rfl ?_
  refine x_getI (ci := 1) (j := 7) C dX1_gladden_1 lkF_X1_32 rfl h (fun v1 h => ?_)
  refine x_iconst (v := (-1 : Int32)) C dX1_gladden_4 (by decide) ?_
  refine q_icmp_eq (tgt := 36) C dX1_gladden_5 (by decide) h (fun _ h => ?_) (fun _ h => ?_)
  · exact q_msk [true, true, true, false, false, false, false, false] (jW_X1_gladden_36 C l0 l1 l2 M h)
  · refine q_aload_n C dX1_gladden_8 rfl ?_
    refine x_getR (ci := 1) (j := 0) C dX1_gladden_9 lkF_X1_47 rfl h (fun c33 h => ?_)
    refine x_nn h (fun r34 h => ?_)
    refine q_aload_n C dX1_gladden_12 rfl ?_
    refine x_getI (ci := 1) (j := 7) C dX1_gladden_13 lkF_X1_32 rfl h (fun v35 h => ?_)
    refine x_iconst (v := (2 : Int32)) C dX1_gladden_16 (by decide) ?_
    obtain ⟨hk, h⟩ := q_obE h
    obtain ⟨u36, e1, h⟩ := q_bind h
    refine x_callV0 C dX1_gladden_17 lkM_X1_89 mV_X3_ofDish ⟨_, rfl, rfl⟩ hk (c_X3_ofDish _ _ _ _ _ _ e1) rfl rfl (Nat.le_of_ble_eq_true rfl) (by decide) (by decide) ?_
    refine q_aload_n C dX1_gladden_20 rfl ?_
    refine x_getR (ci := 8) (j := 0) C dX1_gladden_21 lkF_X1_51 rfl h (fun c37 h => ?_)
    refine x_nn h (fun r38 h => ?_)
    refine x_bipush (v := (19 : Int32)) C dX1_gladden_24 (by decide) ?_
    refine q_iload_n C dX1_gladden_26 rfl ?_
    refine q_iadd C dX1_gladden_27 ?_
    refine x_iald C dX1_gladden_28 h (fun v39 h => ?_)
    refine q_icmp_ne (tgt := 36) C dX1_gladden_29 (by decide) h (fun _ h => ?_) (fun _ h => ?_)
    · refine x_iconst (v := (1 : Int32)) C dX1_gladden_32 (by decide) ?_
      refine q_goto (tgt := 37) C dX1_gladden_33 (by decide) ?_
      exact q_msk [true, true, true, false, false, false, false, false] (jW_X1_gladden_37 C l0 l1 l2 (1 : Int32) M h)
    · exact q_msk [true, true, true, false, false, false, false, false] (jW_X1_gladden_36 C l0 l1 l2 M h)
noncomputable def J_X1_pass_103_75 (l0 : Nat) (l1 : Nat) (l3 : Int32) (M : q_Mem) : Option ((Int32 × q_Mem) ⊕ (q_Mem)) := some (.inl ((l3 + (1 : Int32)), M))
set_option maxRecDepth 100000 in
set_option maxHeartbeats 4000000 in
theorem jW_X1_pass_103_75 {K : q_K} {Q : State → Prop} (C : q_C K yX1_pass cX1_pass 4 (Option.none : Option Jvm.ClassFile.FieldType) 5 0 0) (l0 : Nat) (l1 : Nat) (l3 : Int32) (M : q_Mem) {stp : (Int32 × q_Mem) ⊕ (q_Mem)} (h : J_X1_pass_103_75 l0 l1 l3 M = some stp) (kC : ∀ (l3 : Int32) (M : q_Mem), stp = .inl (l3, M) → q_W K 4 Q 0 0 M 75 [some (.ref l0), some (.ref l1), none, some (.int l3)] []) (kE0 : ∀ (M : q_Mem), stp = .inr M → q_W K 4 Q 0 0 M 109 [none, some (.ref l1), none, none] []) : q_W K 4 Q 0 0 M 103 [some (.ref l0), some (.ref l1), none, some (.int l3)] [] := by
  unfold J_X1_pass_103_75 at h
  refine x_iinc (w := (1 : Int32)) (L' := [some (.ref l0), some (.ref l1), none, some (.int (l3 + (1 : Int32)))]) C dX1_pass_103 rfl (by decide) (by decide) rfl rfl ?_
  refine q_goto (tgt := 75) C dX1_pass_106 (by decide) ?_
  exact q_msk [true, true, false, true] (kC _ _ (Option.some.inj h).symm)
noncomputable def B_X1_pass_75 (l0 : Nat) (l1 : Nat) (l3 : Int32) (M : q_Mem) : Option ((Int32 × q_Mem) ⊕ (q_Mem)) := (q_gR M l0 1 0 (fun c25 => q_nn c25 (fun r26 => (q_gI M r26 3 5 (fun v27 => (if l3 < v27 then (q_gI M l0 1 4 (fun v28 => (if ((v28 >>> (l3 &&& 31)) &&& (1 : Int32)) = 0 then J_X1_pass_103_75 l0 l1 l3 M else (q_ob M l0 1 ((F_X1_gladden l0 l1 l3 M).bind (fun x => match x with | (_, M30) => J_X1_pass_103_75 l0 l1 l3 M30)))))) else some (.inr M)))))))
set_option maxRecDepth 100000 in
set_option maxHeartbeats 4000000 in
theorem bW_X1_pass_75 {K : q_K} {Q : State → Prop} (C : q_C K yX1_pass cX1_pass 4 (Option.none : Option Jvm.ClassFile.FieldType) 5 0 0) (l0 : Nat) (l1 : Nat) (l3 : Int32) (M : q_Mem) {stp : (Int32 × q_Mem) ⊕ (q_Mem)} (h : B_X1_pass_75 l0 l1 l3 M = some stp) (kC : ∀ (l3 : Int32) (M : q_Mem), stp = .inl (l3, M) → q_W K 4 Q 0 0 M 75 [some (.ref l0), some (.ref l1), none, some (.int l3)] []) (kE0 : ∀ (M : q_Mem), stp = .inr M → q_W K 4 Q 0 0 M 109 [none, some (.ref l1), none, none] []) : q_W K 4 Q 0 0 M 75 [some (.ref l0), some (.ref l1), none, some (.int l3)] [] := by
  unfold B_X1_pass_75 at h
  refine q_iload_n C dX1_pass_75 rfl ?_
  refine q_aload_n C dX1_pass_76 rfl ?_
  refine x_getR (ci := 1) (j := 0) C dX1_pass_77 lkF_X1_47 rfl h (fun c25 h => ?_)
  refine x_nn h (fun r26 h => ?_)
  refine x_getI (ci := 3) (j := 5) C dX1_pass_80 lkF_X1_66 rfl h (fun v27 h => ?_)
  refine q_icmp_ge (tgt := 109) C dX1_pass_83 (by decide) h (fun _ h => ?_) (fun _ h => ?_)
  · refine q_aload_n C dX1_pass_86 rfl ?_
    refine x_getI (ci := 1) (j := 4) C dX1_pass_87 lkF_X1_22 rfl h (fun v28 h => ?_)
    refine q_iload_n C dX1_pass_90 rfl ?_
    refine q_ishr C dX1_pass_91 ?_
    refine x_iconst (v := (1 : Int32)) C dX1_pass_92 (by decide) ?_
    refine q_iand C dX1_pass_93 ?_
    refine q_if_eq (tgt := 103) C dX1_pass_94 (by decide) h (fun _ h => ?_) (fun _ h => ?_)
    · exact q_msk [true, true, false, true] (jW_X1_pass_103_75 C l0 l1 l3 M h kC kE0)
    · refine q_aload_n C dX1_pass_97 rfl ?_
      refine q_aload_n C dX1_pass_98 rfl ?_
      refine q_iload_n C dX1_pass_99 rfl ?_
      obtain ⟨hk, h⟩ := q_obE h
      obtain ⟨⟨_, M30⟩, e1, h⟩ := q_bind h
      refine x_callVv0 C dX1_pass_100 lkM_X1_106 mV_X1_gladden ⟨_, rfl, rfl⟩ hk (c_X1_gladden _ _ _ _ _ _ e1) rfl rfl (Nat.le_of_ble_eq_true rfl) (by decide) (by decide) ?_
      exact q_msk [true, true, false, true] (jW_X1_pass_103_75 C l0 l1 l3 M30 h kC kE0)
  · exact q_msk [false, true, false, false] (kE0 _ (Option.some.inj h).symm)
set_option maxRecDepth 100000 in
set_option maxHeartbeats 4000000 in
theorem lW_X1_pass_75 {K : q_K} {Q : State → Prop} (C : q_C K yX1_pass cX1_pass 4 (Option.none : Option Jvm.ClassFile.FieldType) 5 0 0) (l0 : Nat) (l1 : Nat) (n : Nat) : ∀ (l3 : Int32) (M : q_Mem) (e : (q_Mem)), q_lp (fun s => B_X1_pass_75 l0 l1 s.1 s.2) n (l3, M) = some e → (∀ (M : q_Mem), e = M → q_W K 4 Q 0 0 M 109 [none, some (.ref l1), none, none] []) → q_W K 4 Q 0 0 M 75 [some (.ref l0), some (.ref l1), none, some (.int l3)] [] := by
  induction n with
  | zero => intro l3 M e h; cases h
  | succ n ih =>
    intro l3 M e h kE0
    obtain ⟨stp, e1, e2⟩ := q_bind h
    refine bW_X1_pass_75 C l0 l1 l3 M e1 (fun a0 a1 hs => ?_) (fun b0 hs => ?_)
    · subst hs; exact ih _ _ _ e2 kE0
    · subst hs; exact kE0 _ (Option.some.inj e2).symm
noncomputable def F_X1_pass (l0 : Nat) (l1 : Nat) (M : q_Mem) : Option (Unit × q_Mem) := (q_ob M l0 1 ((F_X1_lay l0 l1 M).bind (fun x => match x with | (_, M2) => (q_gR M2 l1 8 0 (fun c3 => q_nn c3 (fun r4 => (q_lI M2 0 r4 (0 : Int32) (fun v5 => (q_gR M2 l1 8 0 (fun c6 => q_nn c6 (fun r7 => (q_gI M2 l0 1 5 (fun v8 => (q_tI M2 r7 ((5 : Int32) + (v5 &&& (3 : Int32))) v8 (fun M9 => (q_gR M9 l1 8 0 (fun c10 => q_nn c10 (fun r11 => (q_gI M9 l0 1 6 (fun v12 => (q_tI M9 r11 ((9 : Int32) + (v5 &&& (3 : Int32))) v12 (fun M13 => (q_gR M13 l1 8 0 (fun c14 => q_nn c14 (fun r15 => (q_gR M13 l1 8 0 (fun c16 => q_nn c16 (fun r17 => (q_lI M13 0 r17 (2 : Int32) (fun v18 => (q_gI M13 l0 1 6 (fun v19 => (q_gR M13 l0 1 0 (fun c20 => q_nn c20 (fun r21 => (q_gI M13 l0 1 5 (fun v22 => (q_ob M13 r21 3 ((F_X3_ofDish r21 v22 (1 : Int32) M13).bind (fun u23 => (q_tI M13 r15 (2 : Int32) (q_mx (0 : Int32) (v18 - (v19 * u23))) (fun M24 => (q_lp (fun s => B_X1_pass_75 l0 l1 s.1 s.2) q_fu ((0 : Int32), M24)).bind (fun e31 => match e31 with | M32 => (q_gR M32 l1 8 0 (fun c33 => q_nn c33 (fun r34 => (q_tI M32 r34 (3 : Int32) (-1 : Int32) (fun M35 => (q_gR M35 l1 8 0 (fun c36 => q_nn c36 (fun r37 => (q_lI M35 0 r37 (0 : Int32) (fun v38 => (q_tI M35 r37 (0 : Int32) (v38 + (1 : Int32)) (fun M39 => some ((), M39))))))))))))))))))))))))))))))))))))))))))))))))))))))))
set_option maxRecDepth 100000 in
set_option maxHeartbeats 4000000 in
theorem c_X1_pass (l : Launch) (G : q_G) (l0 : Nat) (l1 : Nat) (M : q_Mem) {r : Unit} {M' : q_Mem} (h : F_X1_pass l0 l1 M = some (r, M')) : q_Met l G yX1_pass cX1_pass 4 (Option.none : Option Jvm.ClassFile.FieldType) 5 0 0 [.ref l0, .ref l1] M none M' := by
  unfold F_X1_pass at h
  refine q_enter [some (.ref l0), some (.ref l1), none, none] (by decide) (Nat.le_of_ble_eq_true rfl) rfl (fun K C => ?_)
  refine q_aload_n C dX1_pass_0 rfl ?_
  refine q_aload_n C dX1_pass_1 rfl ?_
  obtain ⟨hk, h⟩ := q_obE h
  obtain ⟨⟨_, M2⟩, e1, h⟩ := q_bind h
  refine x_callVv0 C dX1_pass_2 lkM_X1_103 mV_X1_lay ⟨_, rfl, rfl⟩ hk (c_X1_lay _ _ _ _ _ e1) rfl rfl (Nat.le_of_ble_eq_true rfl) (by decide) (by decide) ?_
  refine q_aload_n C dX1_pass_5 rfl ?_
  refine x_getR (ci := 8) (j := 0) C dX1_pass_6 lkF_X1_51 rfl h (fun c3 h => ?_)
  refine x_nn h (fun r4 h => ?_)
  refine x_iconst (v := (0 : Int32)) C dX1_pass_9 (by decide) ?_
  refine x_iald C dX1_pass_10 h (fun v5 h => ?_)
  refine x_iconst (v := (3 : Int32)) C dX1_pass_11 (by decide) ?_
  refine q_iand C dX1_pass_12 ?_
  refine q_istore_n (L' := [some (.ref l0), some (.ref l1), some (.int (v5 &&& (3 : Int32))), none]) C dX1_pass_13 (by decide) rfl rfl ?_
  refine q_aload_n C dX1_pass_14 rfl ?_
  refine x_getR (ci := 8) (j := 0) C dX1_pass_15 lkF_X1_51 rfl h (fun c6 h => ?_)
  refine x_nn h (fun r7 h => ?_)
  refine x_iconst (v := (5 : Int32)) C dX1_pass_18 (by decide) ?_
  refine q_iload_n C dX1_pass_19 rfl ?_
  refine q_iadd C dX1_pass_20 ?_
  refine q_aload_n C dX1_pass_21 rfl ?_
  refine x_getI (ci := 1) (j := 5) C dX1_pass_22 lkF_X1_26 rfl h (fun v8 h => ?_)
  refine x_iast C dX1_pass_25 h (fun M9 h => ?_)
  refine q_aload_n C dX1_pass_26 rfl ?_
  refine x_getR (ci := 8) (j := 0) C dX1_pass_27 lkF_X1_51 rfl h (fun c10 h => ?_)
  refine x_nn h (fun r11 h => ?_)
  refine x_bipush (v := (9 : Int32)) C dX1_pass_30 (by decide) ?_
  refine q_iload_n C dX1_pass_32 rfl ?_
  refine q_iadd C dX1_pass_33 ?_
  refine q_aload_n C dX1_pass_34 rfl ?_
  refine x_getI (ci := 1) (j := 6) C dX1_pass_35 lkF_X1_29 rfl h (fun v12 h => ?_)
  refine x_iast C dX1_pass_38 h (fun M13 h => ?_)
  refine q_aload_n C dX1_pass_39 rfl ?_
  refine x_getR (ci := 8) (j := 0) C dX1_pass_40 lkF_X1_51 rfl h (fun c14 h => ?_)
  refine x_nn h (fun r15 h => ?_)
  refine x_iconst (v := (2 : Int32)) C dX1_pass_43 (by decide) ?_
  refine x_iconst (v := (0 : Int32)) C dX1_pass_44 (by decide) ?_
  refine q_aload_n C dX1_pass_45 rfl ?_
  refine x_getR (ci := 8) (j := 0) C dX1_pass_46 lkF_X1_51 rfl h (fun c16 h => ?_)
  refine x_nn h (fun r17 h => ?_)
  refine x_iconst (v := (2 : Int32)) C dX1_pass_49 (by decide) ?_
  refine x_iald C dX1_pass_50 h (fun v18 h => ?_)
  refine q_aload_n C dX1_pass_51 rfl ?_
  refine x_getI (ci := 1) (j := 6) C dX1_pass_52 lkF_X1_29 rfl h (fun v19 h => ?_)
  refine q_aload_n C dX1_pass_55 rfl ?_
  refine x_getR (ci := 1) (j := 0) C dX1_pass_56 lkF_X1_47 rfl h (fun c20 h => ?_)
  refine x_nn h (fun r21 h => ?_)
  refine q_aload_n C dX1_pass_59 rfl ?_
  refine x_getI (ci := 1) (j := 5) C dX1_pass_60 lkF_X1_26 rfl h (fun v22 h => ?_)
  refine x_iconst (v := (1 : Int32)) C dX1_pass_63 (by decide) ?_
  obtain ⟨hk, h⟩ := q_obE h
  obtain ⟨u23, e1, h⟩ := q_bind h
  refine x_callV0 C dX1_pass_64 lkM_X1_89 mV_X3_ofDish ⟨_, rfl, rfl⟩ hk (c_X3_ofDish _ _ _ _ _ _ e1) rfl rfl (Nat.le_of_ble_eq_true rfl) (by decide) (by decide) ?_
  refine q_imul C dX1_pass_67 ?_
  refine q_isub C dX1_pass_68 ?_
  refine q_max C dX1_pass_69 wd_748 wd_467 wd_15 wd_468 (by decide) (Nat.le_of_ble_eq_true rfl) (by decide) ?_
  refine x_iast C dX1_pass_72 h (fun M24 h => ?_)
  refine x_iconst (v := (0 : Int32)) C dX1_pass_73 (by decide) ?_
  refine q_istore_n (L' := [some (.ref l0), some (.ref l1), some (.int (v5 &&& (3 : Int32))), some (.int (0 : Int32))]) C dX1_pass_74 (by decide) rfl rfl ?_
  obtain ⟨e31, he, h⟩ := q_bind h
  refine q_msk [true, true, false, true] (lW_X1_pass_75 C l0 l1 q_fu _ _ _ he (fun M32 hs => ?_))
  · have hs := hs.symm
    subst hs
    refine q_aload_n C dX1_pass_109 rfl ?_
    refine x_getR (ci := 8) (j := 0) C dX1_pass_110 lkF_X1_51 rfl h (fun c33 h => ?_)
    refine x_nn h (fun r34 h => ?_)
    refine x_iconst (v := (3 : Int32)) C dX1_pass_113 (by decide) ?_
    refine x_iconst (v := (-1 : Int32)) C dX1_pass_114 (by decide) ?_
    refine x_iast C dX1_pass_115 h (fun M35 h => ?_)
    refine q_aload_n C dX1_pass_116 rfl ?_
    refine x_getR (ci := 8) (j := 0) C dX1_pass_117 lkF_X1_51 rfl h (fun c36 h => ?_)
    refine x_nn h (fun r37 h => ?_)
    refine x_iconst (v := (0 : Int32)) C dX1_pass_120 (by decide) ?_
    refine q_dup2 C dX1_pass_121 rfl rfl ?_
    refine x_iald C dX1_pass_122 h (fun v38 h => ?_)
    refine x_iconst (v := (1 : Int32)) C dX1_pass_123 (by decide) ?_
    refine q_iadd C dX1_pass_124 ?_
    refine x_iast C dX1_pass_125 h (fun M39 h => ?_)
    exact q_vret C dX1_pass_126 rfl (by decide) (by decide) (Option.some.inj h)
noncomputable def F_X3_hasDish (l0 : Nat) (l1 : Int32) (M : q_Mem) : Option (Int32) := (if l1 < 0 then q_rq (0 : Int32) else (q_gI M l0 3 4 (fun v1 => (if l1 < v1 then q_rq (1 : Int32) else q_rq (0 : Int32)))))
set_option maxRecDepth 100000 in
set_option maxHeartbeats 4000000 in
theorem c_X3_hasDish (l : Launch) (G : q_G) (l0 : Nat) (l1 : Int32) (M : q_Mem) {r : Int32} (h : F_X3_hasDish l0 l1 M = some r) : q_Met l G yX3_hasDish cX3_hasDish 2 (Option.some Jvm.ClassFile.FieldType.boolean) 1 0 0 [.ref l0, .int l1] M (some (.int r)) M := by
  unfold F_X3_hasDish at h
  refine q_enter [some (.ref l0), some (.int l1)] (by decide) (Nat.le_of_ble_eq_true rfl) rfl (fun K C => ?_)
  refine q_iload_n C dX3_hasDish_0 rfl ?_
  refine q_if_lt (tgt := 16) C dX3_hasDish_1 (by decide) h (fun _ h => ?_) (fun _ h => ?_)
  · refine x_iconst (v := (0 : Int32)) C dX3_hasDish_16 (by decide) ?_
    exact q_zret (res := (r, M)) C dX3_hasDish_17 rfl (by decide) (by decide) (q_rqE h).1 (congrArg (fun z => (z, M)) (q_rqE h).2)
  · refine q_iload_n C dX3_hasDish_4 rfl ?_
    refine q_aload_n C dX3_hasDish_5 rfl ?_
    refine x_getI (ci := 3) (j := 4) C dX3_hasDish_6 lkF_X3_24 rfl h (fun v1 h => ?_)
    refine q_icmp_ge (tgt := 16) C dX3_hasDish_9 (by decide) h (fun _ h => ?_) (fun _ h => ?_)
    · refine x_iconst (v := (1 : Int32)) C dX3_hasDish_12 (by decide) ?_
      refine q_goto (tgt := 17) C dX3_hasDish_13 (by decide) ?_
      exact q_zret (res := (r, M)) C dX3_hasDish_17 rfl (by decide) (by decide) (q_rqE h).1 (congrArg (fun z => (z, M)) (q_rqE h).2)
    · refine x_iconst (v := (0 : Int32)) C dX3_hasDish_16 (by decide) ?_
      exact q_zret (res := (r, M)) C dX3_hasDish_17 rfl (by decide) (by decide) (q_rqE h).1 (congrArg (fun z => (z, M)) (q_rqE h).2)
noncomputable def F_X0_chooseDish (l0 : Nat) (l1 : Nat) (l2 : Int32) (M : q_Mem) : Option (Int32 × q_Mem) := (q_gR M l0 0 0 (fun c1 => q_nn c1 (fun r2 => (q_ob M r2 3 ((F_X3_hasDish r2 l2 M).bind (fun u3 => (if u3 = 0 then q_rz (0 : Int32) M else (q_gR M l1 8 0 (fun c4 => q_nn c4 (fun r5 => (q_lI M 0 r5 (3 : Int32) (fun v6 => (if v6 = l2 then q_rz (0 : Int32) M else (q_gR M l1 8 0 (fun c7 => q_nn c7 (fun r8 => (q_tI M r8 (3 : Int32) l2 (fun M9 => q_rz (1 : Int32) M9))))))))))))))))))
set_option maxRecDepth 100000 in
set_option maxHeartbeats 4000000 in
theorem c_X0_chooseDish (l : Launch) (G : q_G) (l0 : Nat) (l1 : Nat) (l2 : Int32) (M : q_Mem) {r : Int32} {M' : q_Mem} (h : F_X0_chooseDish l0 l1 l2 M = some (r, M')) : q_Met l G yX0_chooseDish cX0_chooseDish 3 (Option.some Jvm.ClassFile.FieldType.boolean) 2 0 0 [.ref l0, .ref l1, .int l2] M (some (.int r)) M' := by
  unfold F_X0_chooseDish at h
  refine q_enter [some (.ref l0), some (.ref l1), some (.int l2)] (by decide) (Nat.le_of_ble_eq_true rfl) rfl (fun K C => ?_)
  refine q_aload_n C dX0_chooseDish_0 rfl ?_
  refine x_getR (ci := 0) (j := 0) C dX0_chooseDish_1 lkF_X0_9 rfl h (fun c1 h => ?_)
  refine x_nn h (fun r2 h => ?_)
  refine q_iload_n C dX0_chooseDish_4 rfl ?_
  obtain ⟨hk, h⟩ := q_obE h
  obtain ⟨u3, e1, h⟩ := q_bind h
  refine x_callV0 C dX0_chooseDish_5 lkM_X0_49 mV_X3_hasDish ⟨_, rfl, rfl⟩ hk (c_X3_hasDish _ _ _ _ _ e1) rfl rfl (Nat.le_of_ble_eq_true rfl) (by decide) (by decide) ?_
  refine q_if_eq (tgt := 21) C dX0_chooseDish_8 (by decide) h (fun _ h => ?_) (fun _ h => ?_)
  · refine x_iconst (v := (0 : Int32)) C dX0_chooseDish_21 (by decide) ?_
    exact q_zret C dX0_chooseDish_22 rfl (by decide) (by decide) (q_rzE h).1 (q_rzE h).2
  · refine q_aload_n C dX0_chooseDish_11 rfl ?_
    refine x_getR (ci := 8) (j := 0) C dX0_chooseDish_12 lkF_X0_19 rfl h (fun c4 h => ?_)
    refine x_nn h (fun r5 h => ?_)
    refine x_iconst (v := (3 : Int32)) C dX0_chooseDish_15 (by decide) ?_
    refine x_iald C dX0_chooseDish_16 h (fun v6 h => ?_)
    refine q_iload_n C dX0_chooseDish_17 rfl ?_
    refine q_icmp_ne (tgt := 23) C dX0_chooseDish_18 (by decide) h (fun _ h => ?_) (fun _ h => ?_)
    · refine x_iconst (v := (0 : Int32)) C dX0_chooseDish_21 (by decide) ?_
      exact q_zret C dX0_chooseDish_22 rfl (by decide) (by decide) (q_rzE h).1 (q_rzE h).2
    · refine q_aload_n C dX0_chooseDish_23 rfl ?_
      refine x_getR (ci := 8) (j := 0) C dX0_chooseDish_24 lkF_X0_19 rfl h (fun c7 h => ?_)
      refine x_nn h (fun r8 h => ?_)
      refine x_iconst (v := (3 : Int32)) C dX0_chooseDish_27 (by decide) ?_
      refine q_iload_n C dX0_chooseDish_28 rfl ?_
      refine x_iast C dX0_chooseDish_29 h (fun M9 h => ?_)
      refine x_iconst (v := (1 : Int32)) C dX0_chooseDish_30 (by decide) ?_
      exact q_zret C dX0_chooseDish_31 rfl (by decide) (by decide) (q_rzE h).1 (q_rzE h).2
noncomputable def F_X0_fallIll (l0 : Nat) (l1 : Nat) (M : q_Mem) : Option (Int32 × q_Mem) := (q_gR M l1 8 0 (fun c1 => q_nn c1 (fun r2 => (q_lI M 0 r2 (1 : Int32) (fun v3 => (if v3 < (3 : Int32) then (q_gR M l1 8 0 (fun c4 => q_nn c4 (fun r5 => (q_lI M 0 r5 (1 : Int32) (fun v6 => (q_tI M r5 (1 : Int32) (v6 + (1 : Int32)) (fun M7 => q_rz (1 : Int32) M7))))))) else q_rz (0 : Int32) M))))))
set_option maxRecDepth 100000 in
set_option maxHeartbeats 4000000 in
theorem c_X0_fallIll (l : Launch) (G : q_G) (l0 : Nat) (l1 : Nat) (M : q_Mem) {r : Int32} {M' : q_Mem} (h : F_X0_fallIll l0 l1 M = some (r, M')) : q_Met l G yX0_fallIll cX0_fallIll 2 (Option.some Jvm.ClassFile.FieldType.boolean) 1 0 0 [.ref l0, .ref l1] M (some (.int r)) M' := by
  unfold F_X0_fallIll at h
  refine q_enter [some (.ref l0), some (.ref l1)] (by decide) (Nat.le_of_ble_eq_true rfl) rfl (fun K C => ?_)
  refine q_aload_n C dX0_fallIll_0 rfl ?_
  refine x_getR (ci := 8) (j := 0) C dX0_fallIll_1 lkF_X0_19 rfl h (fun c1 h => ?_)
  refine x_nn h (fun r2 h => ?_)
  refine x_iconst (v := (1 : Int32)) C dX0_fallIll_4 (by decide) ?_
  refine x_iald C dX0_fallIll_5 h (fun v3 h => ?_)
  refine x_iconst (v := (3 : Int32)) C dX0_fallIll_6 (by decide) ?_
  refine q_icmp_lt (tgt := 12) C dX0_fallIll_7 (by decide) h (fun _ h => ?_) (fun _ h => ?_)
  · refine q_aload_n C dX0_fallIll_12 rfl ?_
    refine x_getR (ci := 8) (j := 0) C dX0_fallIll_13 lkF_X0_19 rfl h (fun c4 h => ?_)
    refine x_nn h (fun r5 h => ?_)
    refine x_iconst (v := (1 : Int32)) C dX0_fallIll_16 (by decide) ?_
    refine q_dup2 C dX0_fallIll_17 rfl rfl ?_
    refine x_iald C dX0_fallIll_18 h (fun v6 h => ?_)
    refine x_iconst (v := (1 : Int32)) C dX0_fallIll_19 (by decide) ?_
    refine q_iadd C dX0_fallIll_20 ?_
    refine x_iast C dX0_fallIll_21 h (fun M7 h => ?_)
    refine x_iconst (v := (1 : Int32)) C dX0_fallIll_22 (by decide) ?_
    exact q_zret C dX0_fallIll_23 rfl (by decide) (by decide) (q_rzE h).1 (q_rzE h).2
  · refine x_iconst (v := (0 : Int32)) C dX0_fallIll_10 (by decide) ?_
    exact q_zret C dX0_fallIll_11 rfl (by decide) (by decide) (q_rzE h).1 (q_rzE h).2
noncomputable def F_X0_makeHandUp (l0 : Nat) (l1 : Nat) (M : q_Mem) : Option (Int32 × q_Mem) := (q_gR M l1 8 0 (fun c1 => q_nn c1 (fun r2 => (q_lI M 0 r2 (1 : Int32) (fun v3 => (if 0 < v3 then (q_gR M l1 8 0 (fun c4 => q_nn c4 (fun r5 => (q_lI M 0 r5 (2 : Int32) (fun v6 => (if v6 < (5 : Int32) then q_rz (0 : Int32) M else (q_gR M l1 8 0 (fun c7 => q_nn c7 (fun r8 => (q_lI M 0 r8 (1 : Int32) (fun v9 => (q_tI M r8 (1 : Int32) (v9 - (1 : Int32)) (fun M10 => (q_gR M10 l1 8 0 (fun c11 => q_nn c11 (fun r12 => (q_lI M10 0 r12 (2 : Int32) (fun v13 => (q_tI M10 r12 (2 : Int32) (v13 - (5 : Int32)) (fun M14 => q_rz (1 : Int32) M14)))))))))))))))))))) else q_rz (0 : Int32) M))))))
set_option maxRecDepth 100000 in
set_option maxHeartbeats 4000000 in
theorem c_X0_makeHandUp (l : Launch) (G : q_G) (l0 : Nat) (l1 : Nat) (M : q_Mem) {r : Int32} {M' : q_Mem} (h : F_X0_makeHandUp l0 l1 M = some (r, M')) : q_Met l G yX0_makeHandUp cX0_makeHandUp 2 (Option.some Jvm.ClassFile.FieldType.boolean) 1 0 0 [.ref l0, .ref l1] M (some (.int r)) M' := by
  unfold F_X0_makeHandUp at h
  refine q_enter [some (.ref l0), some (.ref l1)] (by decide) (Nat.le_of_ble_eq_true rfl) rfl (fun K C => ?_)
  refine q_aload_n C dX0_makeHandUp_0 rfl ?_
  refine x_getR (ci := 8) (j := 0) C dX0_makeHandUp_1 lkF_X0_19 rfl h (fun c1 h => ?_)
  refine x_nn h (fun r2 h => ?_)
  refine x_iconst (v := (1 : Int32)) C dX0_makeHandUp_4 (by decide) ?_
  refine x_iald C dX0_makeHandUp_5 h (fun v3 h => ?_)
  refine q_if_le (tgt := 19) C dX0_makeHandUp_6 (by decide) h (fun _ h => ?_) (fun _ h => ?_)
  · refine q_aload_n C dX0_makeHandUp_9 rfl ?_
    refine x_getR (ci := 8) (j := 0) C dX0_makeHandUp_10 lkF_X0_19 rfl h (fun c4 h => ?_)
    refine x_nn h (fun r5 h => ?_)
    refine x_iconst (v := (2 : Int32)) C dX0_makeHandUp_13 (by decide) ?_
    refine x_iald C dX0_makeHandUp_14 h (fun v6 h => ?_)
    refine x_iconst (v := (5 : Int32)) C dX0_makeHandUp_15 (by decide) ?_
    refine q_icmp_ge (tgt := 21) C dX0_makeHandUp_16 (by decide) h (fun _ h => ?_) (fun _ h => ?_)
    · refine x_iconst (v := (0 : Int32)) C dX0_makeHandUp_19 (by decide) ?_
      exact q_zret C dX0_makeHandUp_20 rfl (by decide) (by decide) (q_rzE h).1 (q_rzE h).2
    · refine q_aload_n C dX0_makeHandUp_21 rfl ?_
      refine x_getR (ci := 8) (j := 0) C dX0_makeHandUp_22 lkF_X0_19 rfl h (fun c7 h => ?_)
      refine x_nn h (fun r8 h => ?_)
      refine x_iconst (v := (1 : Int32)) C dX0_makeHandUp_25 (by decide) ?_
      refine q_dup2 C dX0_makeHandUp_26 rfl rfl ?_
      refine x_iald C dX0_makeHandUp_27 h (fun v9 h => ?_)
      refine x_iconst (v := (1 : Int32)) C dX0_makeHandUp_28 (by decide) ?_
      refine q_isub C dX0_makeHandUp_29 ?_
      refine x_iast C dX0_makeHandUp_30 h (fun M10 h => ?_)
      refine q_aload_n C dX0_makeHandUp_31 rfl ?_
      refine x_getR (ci := 8) (j := 0) C dX0_makeHandUp_32 lkF_X0_19 rfl h (fun c11 h => ?_)
      refine x_nn h (fun r12 h => ?_)
      refine x_iconst (v := (2 : Int32)) C dX0_makeHandUp_35 (by decide) ?_
      refine q_dup2 C dX0_makeHandUp_36 rfl rfl ?_
      refine x_iald C dX0_makeHandUp_37 h (fun v13 h => ?_)
      refine x_iconst (v := (5 : Int32)) C dX0_makeHandUp_38 (by decide) ?_
      refine q_isub C dX0_makeHandUp_39 ?_
      refine x_iast C dX0_makeHandUp_40 h (fun M14 h => ?_)
      refine x_iconst (v := (1 : Int32)) C dX0_makeHandUp_41 (by decide) ?_
      exact q_zret C dX0_makeHandUp_42 rfl (by decide) (by decide) (q_rzE h).1 (q_rzE h).2
  · refine x_iconst (v := (0 : Int32)) C dX0_makeHandUp_19 (by decide) ?_
    exact q_zret C dX0_makeHandUp_20 rfl (by decide) (by decide) (q_rzE h).1 (q_rzE h).2
noncomputable def F_X3_hasGuest (l0 : Nat) (l1 : Int32) (M : q_Mem) : Option (Int32) := (if l1 < 0 then q_rq (0 : Int32) else (q_gI M l0 3 5 (fun v1 => (if l1 < v1 then q_rq (1 : Int32) else q_rq (0 : Int32)))))
set_option maxRecDepth 100000 in
set_option maxHeartbeats 4000000 in
theorem c_X3_hasGuest (l : Launch) (G : q_G) (l0 : Nat) (l1 : Int32) (M : q_Mem) {r : Int32} (h : F_X3_hasGuest l0 l1 M = some r) : q_Met l G yX3_hasGuest cX3_hasGuest 2 (Option.some Jvm.ClassFile.FieldType.boolean) 1 0 0 [.ref l0, .int l1] M (some (.int r)) M := by
  unfold F_X3_hasGuest at h
  refine q_enter [some (.ref l0), some (.int l1)] (by decide) (Nat.le_of_ble_eq_true rfl) rfl (fun K C => ?_)
  refine q_iload_n C dX3_hasGuest_0 rfl ?_
  refine q_if_lt (tgt := 16) C dX3_hasGuest_1 (by decide) h (fun _ h => ?_) (fun _ h => ?_)
  · refine x_iconst (v := (0 : Int32)) C dX3_hasGuest_16 (by decide) ?_
    exact q_zret (res := (r, M)) C dX3_hasGuest_17 rfl (by decide) (by decide) (q_rqE h).1 (congrArg (fun z => (z, M)) (q_rqE h).2)
  · refine q_iload_n C dX3_hasGuest_4 rfl ?_
    refine q_aload_n C dX3_hasGuest_5 rfl ?_
    refine x_getI (ci := 3) (j := 5) C dX3_hasGuest_6 lkF_X3_28 rfl h (fun v1 h => ?_)
    refine q_icmp_ge (tgt := 16) C dX3_hasGuest_9 (by decide) h (fun _ h => ?_) (fun _ h => ?_)
    · refine x_iconst (v := (1 : Int32)) C dX3_hasGuest_12 (by decide) ?_
      refine q_goto (tgt := 17) C dX3_hasGuest_13 (by decide) ?_
      exact q_zret (res := (r, M)) C dX3_hasGuest_17 rfl (by decide) (by decide) (q_rqE h).1 (congrArg (fun z => (z, M)) (q_rqE h).2)
    · refine x_iconst (v := (0 : Int32)) C dX3_hasGuest_16 (by decide) ?_
      exact q_zret (res := (r, M)) C dX3_hasGuest_17 rfl (by decide) (by decide) (q_rqE h).1 (congrArg (fun z => (z, M)) (q_rqE h).2)
noncomputable def F_X0_stayLonger (l0 : Nat) (l1 : Nat) (l2 : Int32) (l3 : Int32) (M : q_Mem) : Option (Int32 × q_Mem) := (q_gR M l0 0 0 (fun c1 => q_nn c1 (fun r2 => (q_ob M r2 3 ((F_X3_hasGuest r2 l2 M).bind (fun u3 => (if u3 = 0 then q_rz (0 : Int32) M else (q_ob M l1 8 ((F_X8_hasLeft l1 l2 M).bind (fun u4 => (if u4 = 0 then (if l3 < (1 : Int32) then q_rz (0 : Int32) M else (if (9 : Int32) < l3 then q_rz (0 : Int32) M else (q_gR M l1 8 0 (fun c5 => q_nn c5 (fun r6 => (q_lI M 0 r6 ((13 : Int32) + l2) (fun v7 => (if (99 : Int32) < (v7 + l3) then q_rz (0 : Int32) M else (q_gR M l1 8 0 (fun c8 => q_nn c8 (fun r9 => (q_lI M 0 r9 ((13 : Int32) + l2) (fun v10 => (q_tI M r9 ((13 : Int32) + l2) (v10 + l3) (fun M11 => q_rz (1 : Int32) M11))))))))))))))) else q_rz (0 : Int32) M)))))))))))
set_option maxRecDepth 100000 in
set_option maxHeartbeats 4000000 in
theorem c_X0_stayLonger (l : Launch) (G : q_G) (l0 : Nat) (l1 : Nat) (l2 : Int32) (l3 : Int32) (M : q_Mem) {r : Int32} {M' : q_Mem} (h : F_X0_stayLonger l0 l1 l2 l3 M = some (r, M')) : q_Met l G yX0_stayLonger cX0_stayLonger 4 (Option.some Jvm.ClassFile.FieldType.boolean) 2 0 0 [.ref l0, .ref l1, .int l2, .int l3] M (some (.int r)) M' := by
  unfold F_X0_stayLonger at h
  refine q_enter [some (.ref l0), some (.ref l1), some (.int l2), some (.int l3)] (by decide) (Nat.le_of_ble_eq_true rfl) rfl (fun K C => ?_)
  refine q_aload_n C dX0_stayLonger_0 rfl ?_
  refine x_getR (ci := 0) (j := 0) C dX0_stayLonger_1 lkF_X0_9 rfl h (fun c1 h => ?_)
  refine x_nn h (fun r2 h => ?_)
  refine q_iload_n C dX0_stayLonger_4 rfl ?_
  obtain ⟨hk, h⟩ := q_obE h
  obtain ⟨u3, e1, h⟩ := q_bind h
  refine x_callV0 C dX0_stayLonger_5 lkM_X0_55 mV_X3_hasGuest ⟨_, rfl, rfl⟩ hk (c_X3_hasGuest _ _ _ _ _ e1) rfl rfl (Nat.le_of_ble_eq_true rfl) (by decide) (by decide) ?_
  refine q_if_eq (tgt := 46) C dX0_stayLonger_8 (by decide) h (fun _ h => ?_) (fun _ h => ?_)
  · refine x_iconst (v := (0 : Int32)) C dX0_stayLonger_46 (by decide) ?_
    exact q_zret C dX0_stayLonger_47 rfl (by decide) (by decide) (q_rzE h).1 (q_rzE h).2
  · refine q_aload_n C dX0_stayLonger_11 rfl ?_
    refine q_iload_n C dX0_stayLonger_12 rfl ?_
    obtain ⟨hk, h⟩ := q_obE h
    obtain ⟨u4, e1, h⟩ := q_bind h
    refine x_callV0 C dX0_stayLonger_13 lkM_X0_58 mV_X8_hasLeft ⟨_, rfl, rfl⟩ hk (c_X8_hasLeft _ _ _ _ _ e1) rfl rfl (Nat.le_of_ble_eq_true rfl) (by decide) (by decide) ?_
    refine q_if_ne (tgt := 46) C dX0_stayLonger_16 (by decide) h (fun _ h => ?_) (fun _ h => ?_)
    · refine q_iload_n C dX0_stayLonger_19 rfl ?_
      refine x_iconst (v := (1 : Int32)) C dX0_stayLonger_20 (by decide) ?_
      refine q_icmp_lt (tgt := 46) C dX0_stayLonger_21 (by decide) h (fun _ h => ?_) (fun _ h => ?_)
      · refine x_iconst (v := (0 : Int32)) C dX0_stayLonger_46 (by decide) ?_
        exact q_zret C dX0_stayLonger_47 rfl (by decide) (by decide) (q_rzE h).1 (q_rzE h).2
      · refine q_iload_n C dX0_stayLonger_24 rfl ?_
        refine x_bipush (v := (9 : Int32)) C dX0_stayLonger_25 (by decide) ?_
        refine q_icmp_gt (tgt := 46) C dX0_stayLonger_27 (by decide) h (fun _ h => ?_) (fun _ h => ?_)
        · refine x_iconst (v := (0 : Int32)) C dX0_stayLonger_46 (by decide) ?_
          exact q_zret C dX0_stayLonger_47 rfl (by decide) (by decide) (q_rzE h).1 (q_rzE h).2
        · refine q_aload_n C dX0_stayLonger_30 rfl ?_
          refine x_getR (ci := 8) (j := 0) C dX0_stayLonger_31 lkF_X0_19 rfl h (fun c5 h => ?_)
          refine x_nn h (fun r6 h => ?_)
          refine x_bipush (v := (13 : Int32)) C dX0_stayLonger_34 (by decide) ?_
          refine q_iload_n C dX0_stayLonger_36 rfl ?_
          refine q_iadd C dX0_stayLonger_37 ?_
          refine x_iald C dX0_stayLonger_38 h (fun v7 h => ?_)
          refine q_iload_n C dX0_stayLonger_39 rfl ?_
          refine q_iadd C dX0_stayLonger_40 ?_
          refine x_bipush (v := (99 : Int32)) C dX0_stayLonger_41 (by decide) ?_
          refine q_icmp_le (tgt := 48) C dX0_stayLonger_43 (by decide) h (fun _ h => ?_) (fun _ h => ?_)
          · refine x_iconst (v := (0 : Int32)) C dX0_stayLonger_46 (by decide) ?_
            exact q_zret C dX0_stayLonger_47 rfl (by decide) (by decide) (q_rzE h).1 (q_rzE h).2
          · refine q_aload_n C dX0_stayLonger_48 rfl ?_
            refine x_getR (ci := 8) (j := 0) C dX0_stayLonger_49 lkF_X0_19 rfl h (fun c8 h => ?_)
            refine x_nn h (fun r9 h => ?_)
            refine x_bipush (v := (13 : Int32)) C dX0_stayLonger_52 (by decide) ?_
            refine q_iload_n C dX0_stayLonger_54 rfl ?_
            refine q_iadd C dX0_stayLonger_55 ?_
            refine q_dup2 C dX0_stayLonger_56 rfl rfl ?_
            refine x_iald C dX0_stayLonger_57 h (fun v10 h => ?_)
            refine q_iload_n C dX0_stayLonger_58 rfl ?_
            refine q_iadd C dX0_stayLonger_59 ?_
            refine x_iast C dX0_stayLonger_60 h (fun M11 h => ?_)
            refine x_iconst (v := (1 : Int32)) C dX0_stayLonger_61 (by decide) ?_
            exact q_zret C dX0_stayLonger_62 rfl (by decide) (by decide) (q_rzE h).1 (q_rzE h).2
    · refine x_iconst (v := (0 : Int32)) C dX0_stayLonger_46 (by decide) ?_
      exact q_zret C dX0_stayLonger_47 rfl (by decide) (by decide) (q_rzE h).1 (q_rzE h).2
noncomputable def F_X0_likeAnother (l0 : Nat) (l1 : Nat) (l2 : Int32) (l3 : Int32) (M : q_Mem) : Option (Int32 × q_Mem) := (q_gR M l0 0 0 (fun c1 => q_nn c1 (fun r2 => (q_ob M r2 3 ((F_X3_hasGuest r2 l2 M).bind (fun u3 => (if u3 = 0 then q_rz (0 : Int32) M else (if l3 < 0 then q_rz (0 : Int32) M else (if l3 < (4 : Int32) then (q_gR M l1 8 0 (fun c4 => q_nn c4 (fun r5 => (q_lI M 0 r5 ((19 : Int32) + l2) (fun v6 => (if v6 = l3 then q_rz (0 : Int32) M else (q_gR M l1 8 0 (fun c7 => q_nn c7 (fun r8 => (q_tI M r8 ((19 : Int32) + l2) l3 (fun M9 => q_rz (1 : Int32) M9))))))))))) else q_rz (0 : Int32) M)))))))))
set_option maxRecDepth 100000 in
set_option maxHeartbeats 4000000 in
theorem c_X0_likeAnother (l : Launch) (G : q_G) (l0 : Nat) (l1 : Nat) (l2 : Int32) (l3 : Int32) (M : q_Mem) {r : Int32} {M' : q_Mem} (h : F_X0_likeAnother l0 l1 l2 l3 M = some (r, M')) : q_Met l G yX0_likeAnother cX0_likeAnother 4 (Option.some Jvm.ClassFile.FieldType.boolean) 2 0 0 [.ref l0, .ref l1, .int l2, .int l3] M (some (.int r)) M' := by
  unfold F_X0_likeAnother at h
  refine q_enter [some (.ref l0), some (.ref l1), some (.int l2), some (.int l3)] (by decide) (Nat.le_of_ble_eq_true rfl) rfl (fun K C => ?_)
  refine q_aload_n C dX0_likeAnother_0 rfl ?_
  refine x_getR (ci := 0) (j := 0) C dX0_likeAnother_1 lkF_X0_9 rfl h (fun c1 h => ?_)
  refine x_nn h (fun r2 h => ?_)
  refine q_iload_n C dX0_likeAnother_4 rfl ?_
  obtain ⟨hk, h⟩ := q_obE h
  obtain ⟨u3, e1, h⟩ := q_bind h
  refine x_callV0 C dX0_likeAnother_5 lkM_X0_55 mV_X3_hasGuest ⟨_, rfl, rfl⟩ hk (c_X3_hasGuest _ _ _ _ _ e1) rfl rfl (Nat.le_of_ble_eq_true rfl) (by decide) (by decide) ?_
  refine q_if_eq (tgt := 33) C dX0_likeAnother_8 (by decide) h (fun _ h => ?_) (fun _ h => ?_)
  · refine x_iconst (v := (0 : Int32)) C dX0_likeAnother_33 (by decide) ?_
    exact q_zret C dX0_likeAnother_34 rfl (by decide) (by decide) (q_rzE h).1 (q_rzE h).2
  · refine q_iload_n C dX0_likeAnother_11 rfl ?_
    refine q_if_lt (tgt := 33) C dX0_likeAnother_12 (by decide) h (fun _ h => ?_) (fun _ h => ?_)
    · refine x_iconst (v := (0 : Int32)) C dX0_likeAnother_33 (by decide) ?_
      exact q_zret C dX0_likeAnother_34 rfl (by decide) (by decide) (q_rzE h).1 (q_rzE h).2
    · refine q_iload_n C dX0_likeAnother_15 rfl ?_
      refine x_iconst (v := (4 : Int32)) C dX0_likeAnother_16 (by decide) ?_
      refine q_icmp_ge (tgt := 33) C dX0_likeAnother_17 (by decide) h (fun _ h => ?_) (fun _ h => ?_)
      · refine q_aload_n C dX0_likeAnother_20 rfl ?_
        refine x_getR (ci := 8) (j := 0) C dX0_likeAnother_21 lkF_X0_19 rfl h (fun c4 h => ?_)
        refine x_nn h (fun r5 h => ?_)
        refine x_bipush (v := (19 : Int32)) C dX0_likeAnother_24 (by decide) ?_
        refine q_iload_n C dX0_likeAnother_26 rfl ?_
        refine q_iadd C dX0_likeAnother_27 ?_
        refine x_iald C dX0_likeAnother_28 h (fun v6 h => ?_)
        refine q_iload_n C dX0_likeAnother_29 rfl ?_
        refine q_icmp_ne (tgt := 35) C dX0_likeAnother_30 (by decide) h (fun _ h => ?_) (fun _ h => ?_)
        · refine x_iconst (v := (0 : Int32)) C dX0_likeAnother_33 (by decide) ?_
          exact q_zret C dX0_likeAnother_34 rfl (by decide) (by decide) (q_rzE h).1 (q_rzE h).2
        · refine q_aload_n C dX0_likeAnother_35 rfl ?_
          refine x_getR (ci := 8) (j := 0) C dX0_likeAnother_36 lkF_X0_19 rfl h (fun c7 h => ?_)
          refine x_nn h (fun r8 h => ?_)
          refine x_bipush (v := (19 : Int32)) C dX0_likeAnother_39 (by decide) ?_
          refine q_iload_n C dX0_likeAnother_41 rfl ?_
          refine q_iadd C dX0_likeAnother_42 ?_
          refine q_iload_n C dX0_likeAnother_43 rfl ?_
          refine x_iast C dX0_likeAnother_44 h (fun M9 h => ?_)
          refine x_iconst (v := (1 : Int32)) C dX0_likeAnother_45 (by decide) ?_
          exact q_zret C dX0_likeAnother_46 rfl (by decide) (by decide) (q_rzE h).1 (q_rzE h).2
      · refine x_iconst (v := (0 : Int32)) C dX0_likeAnother_33 (by decide) ?_
        exact q_zret C dX0_likeAnother_34 rfl (by decide) (by decide) (q_rzE h).1 (q_rzE h).2
