noncomputable def B_X12_image_16 (l0 : Nat) (l1 : Int32) (M : q_Mem) : Option ((Int32 × q_Mem) ⊕ (q_Mem)) := (if l1 < (217 : Int32) then (q_gR M l0 12 48 (fun c3 => q_nn c3 (fun r4 => (q_gR M l0 12 32 (fun c5 => q_nn c5 (fun r6 => (q_lI M 0 r6 l1 (fun v7 => (q_tI M r4 l1 v7 (fun M8 => some (.inl ((l1 + (1 : Int32)), M8)))))))))))) else some (.inr M))
set_option maxRecDepth 100000 in
set_option maxHeartbeats 4000000 in
theorem bW_X12_image_16 {K : q_K} {Q : State → Prop} (C : q_C K yX12_image cX12_image 2 (Option.some Jvm.ClassFile.FieldType.int) 1 0 0) (l0 : Nat) (l1 : Int32) (M : q_Mem) {stp : (Int32 × q_Mem) ⊕ (q_Mem)} (h : B_X12_image_16 l0 l1 M = some stp) (kC : ∀ (l1 : Int32) (M : q_Mem), stp = .inl (l1, M) → q_W K 2 Q 0 0 M 16 [some (.ref l0), some (.int l1)] []) (kE0 : ∀ (M : q_Mem), stp = .inr M → q_W K 2 Q 0 0 M 41 [some (.ref l0), none] []) : q_W K 2 Q 0 0 M 16 [some (.ref l0), some (.int l1)] [] := by
  unfold B_X12_image_16 at h
  refine q_iload_n C dX12_image_16 rfl ?_
  refine x_sipush (v := (217 : Int32)) C dX12_image_17 (by decide) ?_
  refine q_icmp_ge (tgt := 41) C dX12_image_20 (by decide) h (fun _ h => ?_) (fun _ h => ?_)
  · refine q_aload_n C dX12_image_23 rfl ?_
    refine x_getR (ci := 12) (j := 48) C dX12_image_24 lkF_X12_89 rfl h (fun c3 h => ?_)
    refine x_nn h (fun r4 h => ?_)
    refine q_iload_n C dX12_image_27 rfl ?_
    refine q_aload_n C dX12_image_28 rfl ?_
    refine x_getR (ci := 12) (j := 32) C dX12_image_29 lkF_X12_61 rfl h (fun c5 h => ?_)
    refine x_nn h (fun r6 h => ?_)
    refine q_iload_n C dX12_image_32 rfl ?_
    refine x_iald C dX12_image_33 h (fun v7 h => ?_)
    refine x_iast C dX12_image_34 h (fun M8 h => ?_)
    refine x_iinc (w := (1 : Int32)) (L' := [some (.ref l0), some (.int (l1 + (1 : Int32)))]) C dX12_image_35 rfl (by decide) (by decide) rfl rfl ?_
    refine q_goto (tgt := 16) C dX12_image_38 (by decide) ?_
    exact q_msk [true, true] (kC _ _ (Option.some.inj h).symm)
  · exact q_msk [true, false] (kE0 _ (Option.some.inj h).symm)
set_option maxRecDepth 100000 in
set_option maxHeartbeats 4000000 in
theorem lW_X12_image_16 {K : q_K} {Q : State → Prop} (C : q_C K yX12_image cX12_image 2 (Option.some Jvm.ClassFile.FieldType.int) 1 0 0) (l0 : Nat) (n : Nat) : ∀ (l1 : Int32) (M : q_Mem) (e : (q_Mem)), q_lp (fun s => B_X12_image_16 l0 s.1 s.2) n (l1, M) = some e → (∀ (M : q_Mem), e = M → q_W K 2 Q 0 0 M 41 [some (.ref l0), none] []) → q_W K 2 Q 0 0 M 16 [some (.ref l0), some (.int l1)] [] := by
  induction n with
  | zero => intro l1 M e h; cases h
  | succ n ih =>
    intro l1 M e h kE0
    obtain ⟨stp, e1, e2⟩ := q_bind h
    refine bW_X12_image_16 C l0 l1 M e1 (fun a0 a1 hs => ?_) (fun b0 hs => ?_)
    · subst hs; exact ih _ _ _ e2 kE0
    · subst hs; exact kE0 _ (Option.some.inj e2).symm
noncomputable def F_X12_image (l0 : Nat) (M : q_Mem) : Option (Int32 × q_Mem) := (q_pI M l0 12 0 (0 : Int32) (fun M1 => (q_gI M1 l0 12 27 (fun v2 => (if v2 = 0 then some ((-1 : Int32), M1) else (q_lp (fun s => B_X12_image_16 l0 s.1 s.2) q_fu ((0 : Int32), M1)).bind (fun e9 => match e9 with | M10 => (q_pZ M10 l0 12 49 (1 : Int32) (fun M11 => (q_gR M11 l0 12 32 (fun c12 => q_nn c12 (fun r13 => (q_lI M11 0 r13 (35 : Int32) (fun v14 => some (v14, M11))))))))))))))
set_option maxRecDepth 100000 in
set_option maxHeartbeats 4000000 in
theorem c_X12_image (l : Launch) (G : q_G) (l0 : Nat) (M : q_Mem) {r : Int32} {M' : q_Mem} (h : F_X12_image l0 M = some (r, M')) : q_Met l G yX12_image cX12_image 2 (Option.some Jvm.ClassFile.FieldType.int) 1 0 0 [.ref l0] M (some (.int r)) M' := by
  unfold F_X12_image at h
  refine q_enter [some (.ref l0), none] (by decide) (Nat.le_of_ble_eq_true rfl) rfl (fun K C => ?_)
  refine q_aload_n C dX12_image_0 rfl ?_
  refine x_iconst (v := (0 : Int32)) C dX12_image_1 (by decide) ?_
  refine x_putI (ci := 12) (j := 0) C dX12_image_2 lkF_X12_92 (fun r hr => by cases hr; rfl) rfl h (fun M1 h => ?_)
  refine q_aload_n C dX12_image_5 rfl ?_
  refine x_getI (ci := 12) (j := 27) C dX12_image_6 lkF_X12_287 rfl h (fun v2 h => ?_)
  refine q_if_ne (tgt := 14) C dX12_image_9 (by decide) h (fun _ h => ?_) (fun _ h => ?_)
  · refine x_iconst (v := (-1 : Int32)) C dX12_image_12 (by decide) ?_
    exact q_iret C dX12_image_13 rfl (by decide) (by decide) (Option.some.inj h)
  · refine x_iconst (v := (0 : Int32)) C dX12_image_14 (by decide) ?_
    refine q_istore_n (L' := [some (.ref l0), some (.int (0 : Int32))]) C dX12_image_15 (by decide) rfl rfl ?_
    obtain ⟨e9, he, h⟩ := q_bind h
    refine q_msk [true, true] (lW_X12_image_16 C l0 q_fu _ _ _ he (fun M10 hs => ?_))
    · have hs := hs.symm
      subst hs
      refine q_aload_n C dX12_image_41 rfl ?_
      refine x_iconst (v := (1 : Int32)) C dX12_image_42 (by decide) ?_
      refine x_putZ (ci := 12) (j := 49) C dX12_image_43 lkF_X12_296 (fun r hr => by cases hr; rfl) rfl h (fun M11 h => ?_)
      refine q_aload_n C dX12_image_46 rfl ?_
      refine x_getR (ci := 12) (j := 32) C dX12_image_47 lkF_X12_61 rfl h (fun c12 h => ?_)
      refine x_nn h (fun r13 h => ?_)
      refine x_bipush (v := (35 : Int32)) C dX12_image_50 (by decide) ?_
      refine x_iald C dX12_image_52 h (fun v14 h => ?_)
      exact q_iret C dX12_image_53 rfl (by decide) (by decide) (Option.some.inj h)
noncomputable def B_X12_back_16 (l0 : Nat) (l1 : Int32) (M : q_Mem) : Option ((Int32 × q_Mem) ⊕ (q_Mem)) := (if l1 < (217 : Int32) then (q_gR M l0 12 32 (fun c3 => q_nn c3 (fun r4 => (q_gR M l0 12 48 (fun c5 => q_nn c5 (fun r6 => (q_lI M 0 r6 l1 (fun v7 => (q_tI M r4 l1 v7 (fun M8 => some (.inl ((l1 + (1 : Int32)), M8)))))))))))) else some (.inr M))
set_option maxRecDepth 100000 in
set_option maxHeartbeats 4000000 in
theorem bW_X12_back_16 {K : q_K} {Q : State → Prop} (C : q_C K yX12_back cX12_back 2 (Option.some Jvm.ClassFile.FieldType.int) 1 0 0) (l0 : Nat) (l1 : Int32) (M : q_Mem) {stp : (Int32 × q_Mem) ⊕ (q_Mem)} (h : B_X12_back_16 l0 l1 M = some stp) (kC : ∀ (l1 : Int32) (M : q_Mem), stp = .inl (l1, M) → q_W K 2 Q 0 0 M 16 [some (.ref l0), some (.int l1)] []) (kE0 : ∀ (M : q_Mem), stp = .inr M → q_W K 2 Q 0 0 M 41 [some (.ref l0), none] []) : q_W K 2 Q 0 0 M 16 [some (.ref l0), some (.int l1)] [] := by
  unfold B_X12_back_16 at h
  refine q_iload_n C dX12_back_16 rfl ?_
  refine x_sipush (v := (217 : Int32)) C dX12_back_17 (by decide) ?_
  refine q_icmp_ge (tgt := 41) C dX12_back_20 (by decide) h (fun _ h => ?_) (fun _ h => ?_)
  · refine q_aload_n C dX12_back_23 rfl ?_
    refine x_getR (ci := 12) (j := 32) C dX12_back_24 lkF_X12_61 rfl h (fun c3 h => ?_)
    refine x_nn h (fun r4 h => ?_)
    refine q_iload_n C dX12_back_27 rfl ?_
    refine q_aload_n C dX12_back_28 rfl ?_
    refine x_getR (ci := 12) (j := 48) C dX12_back_29 lkF_X12_89 rfl h (fun c5 h => ?_)
    refine x_nn h (fun r6 h => ?_)
    refine q_iload_n C dX12_back_32 rfl ?_
    refine x_iald C dX12_back_33 h (fun v7 h => ?_)
    refine x_iast C dX12_back_34 h (fun M8 h => ?_)
    refine x_iinc (w := (1 : Int32)) (L' := [some (.ref l0), some (.int (l1 + (1 : Int32)))]) C dX12_back_35 rfl (by decide) (by decide) rfl rfl ?_
    refine q_goto (tgt := 16) C dX12_back_38 (by decide) ?_
    exact q_msk [true, true] (kC _ _ (Option.some.inj h).symm)
  · exact q_msk [true, false] (kE0 _ (Option.some.inj h).symm)
set_option maxRecDepth 100000 in
set_option maxHeartbeats 4000000 in
theorem lW_X12_back_16 {K : q_K} {Q : State → Prop} (C : q_C K yX12_back cX12_back 2 (Option.some Jvm.ClassFile.FieldType.int) 1 0 0) (l0 : Nat) (n : Nat) : ∀ (l1 : Int32) (M : q_Mem) (e : (q_Mem)), q_lp (fun s => B_X12_back_16 l0 s.1 s.2) n (l1, M) = some e → (∀ (M : q_Mem), e = M → q_W K 2 Q 0 0 M 41 [some (.ref l0), none] []) → q_W K 2 Q 0 0 M 16 [some (.ref l0), some (.int l1)] [] := by
  induction n with
  | zero => intro l1 M e h; cases h
  | succ n ih =>
    intro l1 M e h kE0
    obtain ⟨stp, e1, e2⟩ := q_bind h
    refine bW_X12_back_16 C l0 l1 M e1 (fun a0 a1 hs => ?_) (fun b0 hs => ?_)
    · subst hs; exact ih _ _ _ e2 kE0
    · subst hs; exact kE0 _ (Option.some.inj e2).symm
noncomputable def F_X12_back (l0 : Nat) (M : q_Mem) : Option (Int32 × q_Mem) := (q_pI M l0 12 0 (0 : Int32) (fun M1 => (q_gI M1 l0 12 49 (fun v2 => (if v2 = 0 then some ((-1 : Int32), M1) else (q_lp (fun s => B_X12_back_16 l0 s.1 s.2) q_fu ((0 : Int32), M1)).bind (fun e9 => match e9 with | M10 => (q_pI M10 l0 12 42 (0 : Int32) (fun M11 => (q_gR M11 l0 12 32 (fun c12 => q_nn c12 (fun r13 => (q_lI M11 0 r13 (35 : Int32) (fun v14 => some (v14, M11))))))))))))))
set_option maxRecDepth 100000 in
set_option maxHeartbeats 4000000 in
theorem c_X12_back (l : Launch) (G : q_G) (l0 : Nat) (M : q_Mem) {r : Int32} {M' : q_Mem} (h : F_X12_back l0 M = some (r, M')) : q_Met l G yX12_back cX12_back 2 (Option.some Jvm.ClassFile.FieldType.int) 1 0 0 [.ref l0] M (some (.int r)) M' := by
  unfold F_X12_back at h
  refine q_enter [some (.ref l0), none] (by decide) (Nat.le_of_ble_eq_true rfl) rfl (fun K C => ?_)
  refine q_aload_n C dX12_back_0 rfl ?_
  refine x_iconst (v := (0 : Int32)) C dX12_back_1 (by decide) ?_
  refine x_putI (ci := 12) (j := 0) C dX12_back_2 lkF_X12_92 (fun r hr => by cases hr; rfl) rfl h (fun M1 h => ?_)
  refine q_aload_n C dX12_back_5 rfl ?_
  refine x_getI (ci := 12) (j := 49) C dX12_back_6 lkF_X12_296 rfl h (fun v2 h => ?_)
  refine q_if_ne (tgt := 14) C dX12_back_9 (by decide) h (fun _ h => ?_) (fun _ h => ?_)
  · refine x_iconst (v := (-1 : Int32)) C dX12_back_12 (by decide) ?_
    exact q_iret C dX12_back_13 rfl (by decide) (by decide) (Option.some.inj h)
  · refine x_iconst (v := (0 : Int32)) C dX12_back_14 (by decide) ?_
    refine q_istore_n (L' := [some (.ref l0), some (.int (0 : Int32))]) C dX12_back_15 (by decide) rfl rfl ?_
    obtain ⟨e9, he, h⟩ := q_bind h
    refine q_msk [true, true] (lW_X12_back_16 C l0 q_fu _ _ _ he (fun M10 hs => ?_))
    · have hs := hs.symm
      subst hs
      refine q_aload_n C dX12_back_41 rfl ?_
      refine x_iconst (v := (0 : Int32)) C dX12_back_42 (by decide) ?_
      refine x_putI (ci := 12) (j := 42) C dX12_back_43 lkF_X12_293 (fun r hr => by cases hr; rfl) rfl h (fun M11 h => ?_)
      refine q_aload_n C dX12_back_46 rfl ?_
      refine x_getR (ci := 12) (j := 32) C dX12_back_47 lkF_X12_61 rfl h (fun c12 h => ?_)
      refine x_nn h (fun r13 h => ?_)
      refine x_bipush (v := (35 : Int32)) C dX12_back_50 (by decide) ?_
      refine x_iald C dX12_back_52 h (fun v14 h => ?_)
      exact q_iret C dX12_back_53 rfl (by decide) (by decide) (Option.some.inj h)
noncomputable def B_X12_count_123 (l0 : Nat) (l2 : Int32) (l3 : Int32) (M : q_Mem) : Option ((Int32 × Int32) ⊕ (Int32)) := (q_gI M l0 12 27 (fun v14 => (if l3 < v14 then (q_gR M l0 12 32 (fun c15 => q_nn c15 (fun r16 => (q_lI M 0 r16 (((4 : Int32) * l3) + (3 : Int32)) (fun v17 => some (.inl ((l2 ||| (v17 <<< (l3 &&& 31))), (l3 + (1 : Int32))))))))) else some (.inr l2))))
set_option maxRecDepth 100000 in
set_option maxHeartbeats 4000000 in
theorem bW_X12_count_123 {K : q_K} {Q : State → Prop} (C : q_C K yX12_count cX12_count 4 (Option.some Jvm.ClassFile.FieldType.int) 2 0 0) (l0 : Nat) (l2 : Int32) (l3 : Int32) (M : q_Mem) {stp : (Int32 × Int32) ⊕ (Int32)} (h : B_X12_count_123 l0 l2 l3 M = some stp) (kC : ∀ (l2 : Int32) (l3 : Int32), stp = .inl (l2, l3) → q_W K 4 Q 0 0 M 123 [some (.ref l0), none, some (.int l2), some (.int l3)] []) (kE0 : ∀ (l2 : Int32), stp = .inr l2 → q_W K 4 Q 0 0 M 152 [none, none, some (.int l2), none] []) : q_W K 4 Q 0 0 M 123 [some (.ref l0), none, some (.int l2), some (.int l3)] [] := by
  unfold B_X12_count_123 at h
  refine q_iload_n C dX12_count_123 rfl ?_
  refine q_aload_n C dX12_count_124 rfl ?_
  refine x_getI (ci := 12) (j := 27) C dX12_count_125 lkF_X12_287 rfl h (fun v14 h => ?_)
  refine q_icmp_ge (tgt := 152) C dX12_count_128 (by decide) h (fun _ h => ?_) (fun _ h => ?_)
  · refine q_iload_n C dX12_count_131 rfl ?_
    refine q_aload_n C dX12_count_132 rfl ?_
    refine x_getR (ci := 12) (j := 32) C dX12_count_133 lkF_X12_61 rfl h (fun c15 h => ?_)
    refine x_nn h (fun r16 h => ?_)
    refine x_iconst (v := (4 : Int32)) C dX12_count_136 (by decide) ?_
    refine q_iload_n C dX12_count_137 rfl ?_
    refine q_imul C dX12_count_138 ?_
    refine x_iconst (v := (3 : Int32)) C dX12_count_139 (by decide) ?_
    refine q_iadd C dX12_count_140 ?_
    refine x_iald C dX12_count_141 h (fun v17 h => ?_)
    refine q_iload_n C dX12_count_142 rfl ?_
    refine q_ishl C dX12_count_143 ?_
    refine q_ior C dX12_count_144 ?_
    refine q_istore_n (L' := [some (.ref l0), none, some (.int (l2 ||| (v17 <<< (l3 &&& 31)))), some (.int l3)]) C dX12_count_145 (by decide) rfl rfl ?_
    refine x_iinc (w := (1 : Int32)) (L' := [some (.ref l0), none, some (.int (l2 ||| (v17 <<< (l3 &&& 31)))), some (.int (l3 + (1 : Int32)))]) C dX12_count_146 rfl (by decide) (by decide) rfl rfl ?_
    refine q_goto (tgt := 123) C dX12_count_149 (by decide) ?_
    exact q_msk [true, false, true, true] (kC _ _ (Option.some.inj h).symm)
  · exact q_msk [false, false, true, false] (kE0 _ (Option.some.inj h).symm)
set_option maxRecDepth 100000 in
set_option maxHeartbeats 4000000 in
theorem lW_X12_count_123 {K : q_K} {Q : State → Prop} (C : q_C K yX12_count cX12_count 4 (Option.some Jvm.ClassFile.FieldType.int) 2 0 0) (l0 : Nat) (M : q_Mem) (n : Nat) : ∀ (l2 : Int32) (l3 : Int32) (e : (Int32)), q_lp (fun s => B_X12_count_123 l0 s.1 s.2 M) n (l2, l3) = some e → (∀ (l2 : Int32), e = l2 → q_W K 4 Q 0 0 M 152 [none, none, some (.int l2), none] []) → q_W K 4 Q 0 0 M 123 [some (.ref l0), none, some (.int l2), some (.int l3)] [] := by
  induction n with
  | zero => intro l2 l3 e h; cases h
  | succ n ih =>
    intro l2 l3 e h kE0
    obtain ⟨stp, e1, e2⟩ := q_bind h
    refine bW_X12_count_123 C l0 l2 l3 M e1 (fun a0 a1 hs => ?_) (fun b0 hs => ?_)
    · subst hs; exact ih _ _ _ e2 kE0
    · subst hs; exact kE0 _ (Option.some.inj e2).symm
noncomputable def F_X12_count (l0 : Nat) (l1 : Int32) (M : q_Mem) : Option (Int32 × q_Mem) := (q_pI M l0 12 0 (0 : Int32) (fun M1 => (if l1 = (0 : Int32) then (q_gI M1 l0 12 27 (fun v2 => some (v2, M1))) else (if l1 = (1 : Int32) then (q_gI M1 l0 12 26 (fun v3 => some (v3, M1))) else (if l1 = (2 : Int32) then (q_gI M1 l0 12 7 (fun v4 => some (v4, M1))) else (if l1 = (3 : Int32) then (q_gI M1 l0 12 30 (fun v5 => some (v5, M1))) else (if l1 = (4 : Int32) then (q_gI M1 l0 12 6 (fun v6 => some (v6, M1))) else (if l1 = (5 : Int32) then (q_gI M1 l0 12 34 (fun v7 => some (v7, M1))) else (if l1 = (6 : Int32) then (q_gR M1 l0 12 32 (fun c8 => q_nn c8 (fun r9 => (q_lI M1 0 r9 (35 : Int32) (fun v10 => some (v10, M1)))))) else (if l1 = (7 : Int32) then (q_gR M1 l0 12 32 (fun c11 => q_nn c11 (fun r12 => (q_ob M1 l0 12 ((F_X12_joys l0 r12 M1).bind (fun u13 => some (u13, M1))))))) else (if l1 = (8 : Int32) then (q_lp (fun s => B_X12_count_123 l0 s.1 s.2 M1) q_fu ((0 : Int32), (0 : Int32))).bind (fun e18 => match e18 with | w19 => some (w19, M1)) else (if l1 = (9 : Int32) then (q_gI M1 l0 12 35 (fun v20 => some (v20, M1))) else (if l1 = (10 : Int32) then (q_gI M1 l0 12 45 (fun v21 => some (v21, M1))) else (if l1 = (11 : Int32) then (q_gR M1 l0 12 32 (fun c22 => q_nn c22 (fun r23 => (q_lI M1 0 r23 (36 : Int32) (fun v24 => some (v24, M1)))))) else (if l1 = (12 : Int32) then (q_gI M1 l0 12 42 (fun v25 => some (v25, M1))) else some ((-1000000 : Int32), M1))))))))))))))))
set_option maxRecDepth 100000 in
set_option maxHeartbeats 4000000 in
theorem c_X12_count (l : Launch) (G : q_G) (l0 : Nat) (l1 : Int32) (M : q_Mem) {r : Int32} {M' : q_Mem} (h : F_X12_count l0 l1 M = some (r, M')) : q_Met l G yX12_count cX12_count 4 (Option.some Jvm.ClassFile.FieldType.int) 2 0 0 [.ref l0, .int l1] M (some (.int r)) M' := by
  unfold F_X12_count at h
  refine q_enter [some (.ref l0), some (.int l1), none, none] (by decide) (Nat.le_of_ble_eq_true rfl) rfl (fun K C => ?_)
  refine q_aload_n C dX12_count_0 rfl ?_
  refine x_iconst (v := (0 : Int32)) C dX12_count_1 (by decide) ?_
  refine x_putI (ci := 12) (j := 0) C dX12_count_2 lkF_X12_92 (fun r hr => by cases hr; rfl) rfl h (fun M1 h => ?_)
  refine q_iload_n C dX12_count_5 rfl ?_
  by_cases hs6_0 : l1 = (0 : Int32)
  · have h := q_iteT h hs6_0
    refine q_tsIn (tgt := 72) C dX12_count_6 hs6_0 (by decide) (by decide) rfl (by decide) ?_
    refine q_aload_n C dX12_count_72 rfl ?_
    refine x_getI (ci := 12) (j := 27) C dX12_count_73 lkF_X12_287 rfl h (fun v2 h => ?_)
    exact q_iret C dX12_count_76 rfl (by decide) (by decide) (Option.some.inj h)
  have h := q_iteF h hs6_0
  by_cases hs6_1 : l1 = (1 : Int32)
  · have h := q_iteT h hs6_1
    refine q_tsIn (tgt := 77) C dX12_count_6 hs6_1 (by decide) (by decide) rfl (by decide) ?_
    refine q_aload_n C dX12_count_77 rfl ?_
    refine x_getI (ci := 12) (j := 26) C dX12_count_78 lkF_X12_284 rfl h (fun v3 h => ?_)
    exact q_iret C dX12_count_81 rfl (by decide) (by decide) (Option.some.inj h)
  have h := q_iteF h hs6_1
  by_cases hs6_2 : l1 = (2 : Int32)
  · have h := q_iteT h hs6_2
    refine q_tsIn (tgt := 82) C dX12_count_6 hs6_2 (by decide) (by decide) rfl (by decide) ?_
    refine q_aload_n C dX12_count_82 rfl ?_
    refine x_getI (ci := 12) (j := 7) C dX12_count_83 lkF_X12_276 rfl h (fun v4 h => ?_)
    exact q_iret C dX12_count_86 rfl (by decide) (by decide) (Option.some.inj h)
  have h := q_iteF h hs6_2
  by_cases hs6_3 : l1 = (3 : Int32)
  · have h := q_iteT h hs6_3
    refine q_tsIn (tgt := 87) C dX12_count_6 hs6_3 (by decide) (by decide) rfl (by decide) ?_
    refine q_aload_n C dX12_count_87 rfl ?_
    refine x_getI (ci := 12) (j := 30) C dX12_count_88 lkF_X12_279 rfl h (fun v5 h => ?_)
    exact q_iret C dX12_count_91 rfl (by decide) (by decide) (Option.some.inj h)
  have h := q_iteF h hs6_3
  by_cases hs6_4 : l1 = (4 : Int32)
  · have h := q_iteT h hs6_4
    refine q_tsIn (tgt := 92) C dX12_count_6 hs6_4 (by decide) (by decide) rfl (by decide) ?_
    refine q_aload_n C dX12_count_92 rfl ?_
    refine x_getI (ci := 12) (j := 6) C dX12_count_93 lkF_X12_105 rfl h (fun v6 h => ?_)
    exact q_iret C dX12_count_96 rfl (by decide) (by decide) (Option.some.inj h)
  have h := q_iteF h hs6_4
  by_cases hs6_5 : l1 = (5 : Int32)
  · have h := q_iteT h hs6_5
    refine q_tsIn (tgt := 97) C dX12_count_6 hs6_5 (by decide) (by decide) rfl (by decide) ?_
    refine q_aload_n C dX12_count_97 rfl ?_
    refine x_getI (ci := 12) (j := 34) C dX12_count_98 lkF_X12_67 rfl h (fun v7 h => ?_)
    exact q_iret C dX12_count_101 rfl (by decide) (by decide) (Option.some.inj h)
  have h := q_iteF h hs6_5
  by_cases hs6_6 : l1 = (6 : Int32)
  · have h := q_iteT h hs6_6
    refine q_tsIn (tgt := 102) C dX12_count_6 hs6_6 (by decide) (by decide) rfl (by decide) ?_
    refine q_aload_n C dX12_count_102 rfl ?_
    refine x_getR (ci := 12) (j := 32) C dX12_count_103 lkF_X12_61 rfl h (fun c8 h => ?_)
    refine x_nn h (fun r9 h => ?_)
    refine x_bipush (v := (35 : Int32)) C dX12_count_106 (by decide) ?_
    refine x_iald C dX12_count_108 h (fun v10 h => ?_)
    exact q_iret C dX12_count_109 rfl (by decide) (by decide) (Option.some.inj h)
  have h := q_iteF h hs6_6
  by_cases hs6_7 : l1 = (7 : Int32)
  · have h := q_iteT h hs6_7
    refine q_tsIn (tgt := 110) C dX12_count_6 hs6_7 (by decide) (by decide) rfl (by decide) ?_
    refine q_aload_n C dX12_count_110 rfl ?_
    refine q_aload_n C dX12_count_111 rfl ?_
    refine x_getR (ci := 12) (j := 32) C dX12_count_112 lkF_X12_61 rfl h (fun c11 h => ?_)
    refine x_nn h (fun r12 h => ?_)
    obtain ⟨hk, h⟩ := q_obE h
    obtain ⟨u13, e1, h⟩ := q_bind h
    refine x_callV0 C dX12_count_115 lkM_X12_354 mV_X12_joys ⟨_, rfl, rfl⟩ hk (c_X12_joys _ _ _ _ _ e1) rfl rfl (Nat.le_of_ble_eq_true rfl) (by decide) (by decide) ?_
    exact q_iret C dX12_count_118 rfl (by decide) (by decide) (Option.some.inj h)
  have h := q_iteF h hs6_7
  by_cases hs6_8 : l1 = (8 : Int32)
  · have h := q_iteT h hs6_8
    refine q_tsIn (tgt := 119) C dX12_count_6 hs6_8 (by decide) (by decide) rfl (by decide) ?_
    refine x_iconst (v := (0 : Int32)) C dX12_count_119 (by decide) ?_
    refine q_istore_n (L' := [some (.ref l0), some (.int l1), some (.int (0 : Int32)), none]) C dX12_count_120 (by decide) rfl rfl ?_
    refine x_iconst (v := (0 : Int32)) C dX12_count_121 (by decide) ?_
    refine q_istore_n (L' := [some (.ref l0), some (.int l1), some (.int (0 : Int32)), some (.int (0 : Int32))]) C dX12_count_122 (by decide) rfl rfl ?_
    obtain ⟨e18, he, h⟩ := q_bind h
    refine q_msk [true, false, true, true] (lW_X12_count_123 C l0 M1 q_fu _ _ _ he (fun w19 hs => ?_))
    · have hs := hs.symm
      subst hs
      refine q_iload_n C dX12_count_152 rfl ?_
      exact q_iret C dX12_count_153 rfl (by decide) (by decide) (Option.some.inj h)
  have h := q_iteF h hs6_8
  by_cases hs6_9 : l1 = (9 : Int32)
  · have h := q_iteT h hs6_9
    refine q_tsIn (tgt := 154) C dX12_count_6 hs6_9 (by decide) (by decide) rfl (by decide) ?_
    refine q_aload_n C dX12_count_154 rfl ?_
    refine x_getI (ci := 12) (j := 35) C dX12_count_155 lkF_X12_71 rfl h (fun v20 h => ?_)
    exact q_iret C dX12_count_158 rfl (by decide) (by decide) (Option.some.inj h)
  have h := q_iteF h hs6_9
  by_cases hs6_10 : l1 = (10 : Int32)
  · have h := q_iteT h hs6_10
    refine q_tsIn (tgt := 159) C dX12_count_6 hs6_10 (by decide) (by decide) rfl (by decide) ?_
    refine q_aload_n C dX12_count_159 rfl ?_
    refine x_getI (ci := 12) (j := 45) C dX12_count_160 lkF_X12_290 rfl h (fun v21 h => ?_)
    exact q_iret C dX12_count_163 rfl (by decide) (by decide) (Option.some.inj h)
  have h := q_iteF h hs6_10
  by_cases hs6_11 : l1 = (11 : Int32)
  · have h := q_iteT h hs6_11
    refine q_tsIn (tgt := 164) C dX12_count_6 hs6_11 (by decide) (by decide) rfl (by decide) ?_
    refine q_aload_n C dX12_count_164 rfl ?_
    refine x_getR (ci := 12) (j := 32) C dX12_count_165 lkF_X12_61 rfl h (fun c22 h => ?_)
    refine x_nn h (fun r23 h => ?_)
    refine x_bipush (v := (36 : Int32)) C dX12_count_168 (by decide) ?_
    refine x_iald C dX12_count_170 h (fun v24 h => ?_)
    exact q_iret C dX12_count_171 rfl (by decide) (by decide) (Option.some.inj h)
  have h := q_iteF h hs6_11
  by_cases hs6_12 : l1 = (12 : Int32)
  · have h := q_iteT h hs6_12
    refine q_tsIn (tgt := 172) C dX12_count_6 hs6_12 (by decide) (by decide) rfl (by decide) ?_
    refine q_aload_n C dX12_count_172 rfl ?_
    refine x_getI (ci := 12) (j := 42) C dX12_count_173 lkF_X12_293 rfl h (fun v25 h => ?_)
    exact q_iret C dX12_count_176 rfl (by decide) (by decide) (Option.some.inj h)
  have h := q_iteF h hs6_12
  have ho6 : (l1 : Int32).toInt < 0 ∨ 12 < (l1 : Int32).toInt := by
    have z0 := lv_neT (a := 0) hs6_0 (by decide)
    have z1 := lv_neT (a := 1) hs6_1 (by decide)
    have z2 := lv_neT (a := 2) hs6_2 (by decide)
    have z3 := lv_neT (a := 3) hs6_3 (by decide)
    have z4 := lv_neT (a := 4) hs6_4 (by decide)
    have z5 := lv_neT (a := 5) hs6_5 (by decide)
    have z6 := lv_neT (a := 6) hs6_6 (by decide)
    have z7 := lv_neT (a := 7) hs6_7 (by decide)
    have z8 := lv_neT (a := 8) hs6_8 (by decide)
    have z9 := lv_neT (a := 9) hs6_9 (by decide)
    have z10 := lv_neT (a := 10) hs6_10 (by decide)
    have z11 := lv_neT (a := 11) hs6_11 (by decide)
    have z12 := lv_neT (a := 12) hs6_12 (by decide)
    omega
  refine q_tsOut (tgt := 177) C dX12_count_6 ho6 (by decide) ?_
  refine q_ldcw (v := (-1000000 : Int32)) C dX12_count_177 wd_1674 ?_
  exact q_iret C dX12_count_180 rfl (by decide) (by decide) (Option.some.inj h)
