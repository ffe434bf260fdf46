noncomputable def J_X12_likers_48_4 (l0 : Nat) (l1 : Int32) (l3 : Int32) (s0 : Int32) (s1 : Int32) (M : q_Mem) : Option ((Int32 × Int32) ⊕ (Int32)) := some (.inl ((s0 + s1), (l3 + (1 : Int32))))
set_option maxRecDepth 100000 in
set_option maxHeartbeats 4000000 in
theorem jW_X12_likers_48_4 {K : q_K} {Q : State → Prop} (C : q_C K yX12_likers cX12_likers 4 (Option.some Jvm.ClassFile.FieldType.int) 3 0 0) (l0 : Nat) (l1 : Int32) (l3 : Int32) (s0 : Int32) (s1 : Int32) (M : q_Mem) {stp : (Int32 × Int32) ⊕ (Int32)} (h : J_X12_likers_48_4 l0 l1 l3 s0 s1 M = some stp) (kC : ∀ (l2 : Int32) (l3 : Int32), stp = .inl (l2, l3) → q_W K 4 Q 0 0 M 4 [some (.ref l0), some (.int l1), some (.int l2), some (.int l3)] []) (kE0 : ∀ (l2 : Int32), stp = .inr l2 → q_W K 4 Q 0 0 M 56 [none, none, some (.int l2), none] []) : q_W K 4 Q 0 0 M 48 [some (.ref l0), some (.int l1), none, some (.int l3)] [.int s1, .int s0] := by
  unfold J_X12_likers_48_4 at h
  refine q_iadd C dX12_likers_48 ?_
  refine q_istore_n (L' := [some (.ref l0), some (.int l1), some (.int (s0 + s1)), some (.int l3)]) C dX12_likers_49 (by decide) rfl rfl ?_
  refine x_iinc (w := (1 : Int32)) (L' := [some (.ref l0), some (.int l1), some (.int (s0 + s1)), some (.int (l3 + (1 : Int32)))]) C dX12_likers_50 rfl (by decide) (by decide) rfl rfl ?_
  refine q_goto (tgt := 4) C dX12_likers_53 (by decide) ?_
  exact q_msk [true, true, true, true] (kC _ _ (Option.some.inj h).symm)
noncomputable def J_X12_likers_47_4 (l0 : Nat) (l1 : Int32) (l3 : Int32) (s0 : Int32) (M : q_Mem) : Option ((Int32 × Int32) ⊕ (Int32)) := J_X12_likers_48_4 l0 l1 l3 s0 (0 : Int32) M
set_option maxRecDepth 100000 in
set_option maxHeartbeats 4000000 in
theorem jW_X12_likers_47_4 {K : q_K} {Q : State → Prop} (C : q_C K yX12_likers cX12_likers 4 (Option.some Jvm.ClassFile.FieldType.int) 3 0 0) (l0 : Nat) (l1 : Int32) (l3 : Int32) (s0 : Int32) (M : q_Mem) {stp : (Int32 × Int32) ⊕ (Int32)} (h : J_X12_likers_47_4 l0 l1 l3 s0 M = some stp) (kC : ∀ (l2 : Int32) (l3 : Int32), stp = .inl (l2, l3) → q_W K 4 Q 0 0 M 4 [some (.ref l0), some (.int l1), some (.int l2), some (.int l3)] []) (kE0 : ∀ (l2 : Int32), stp = .inr l2 → q_W K 4 Q 0 0 M 56 [none, none, some (.int l2), none] []) : q_W K 4 Q 0 0 M 47 [some (.ref l0), some (.int l1), none, some (.int l3)] [.int s0] := by
  unfold J_X12_likers_47_4 at h
  refine x_iconst (v := (0 : Int32)) C dX12_likers_47 (by decide) ?_
  exact q_msk [true, true, false, true] (jW_X12_likers_48_4 C l0 l1 l3 s0 (0 : Int32) M h kC kE0)
noncomputable def B_X12_likers_4 (l0 : Nat) (l1 : Int32) (l2 : Int32) (l3 : Int32) (M : q_Mem) : Option ((Int32 × Int32) ⊕ (Int32)) := (q_gI M l0 12 27 (fun v1 => (if l3 < v1 then (q_gR M l0 12 32 (fun c2 => q_nn c2 (fun r3 => (q_ob M l0 12 ((F_X12_isThere l0 r3 l3 M).bind (fun u4 => (if u4 = 0 then J_X12_likers_47_4 l0 l1 l3 l2 M else (q_gR M l0 12 32 (fun c5 => q_nn c5 (fun r6 => (q_lI M 0 r6 (((4 : Int32) * l3) + (1 : Int32)) (fun v7 => (q_ob M l0 12 ((F_X12_kindOf l0 l1 M).bind (fun u8 => (if v7 = u8 then J_X12_likers_48_4 l0 l1 l3 l2 (1 : Int32) M else J_X12_likers_47_4 l0 l1 l3 l2 M)))))))))))))))) else some (.inr l2))))
set_option maxRecDepth 100000 in
set_option maxHeartbeats 4000000 in
theorem bW_X12_likers_4 {K : q_K} {Q : State → Prop} (C : q_C K yX12_likers cX12_likers 4 (Option.some Jvm.ClassFile.FieldType.int) 3 0 0) (l0 : Nat) (l1 : Int32) (l2 : Int32) (l3 : Int32) (M : q_Mem) {stp : (Int32 × Int32) ⊕ (Int32)} (h : B_X12_likers_4 l0 l1 l2 l3 M = some stp) (kC : ∀ (l2 : Int32) (l3 : Int32), stp = .inl (l2, l3) → q_W K 4 Q 0 0 M 4 [some (.ref l0), some (.int l1), some (.int l2), some (.int l3)] []) (kE0 : ∀ (l2 : Int32), stp = .inr l2 → q_W K 4 Q 0 0 M 56 [none, none, some (.int l2), none] []) : q_W K 4 Q 0 0 M 4 [some (.ref l0), some (.int l1), some (.int l2), some (.int l3)] [] := by
  unfold B_X12_likers_4 at h
  refine q_iload_n C dX12_likers_4 rfl ?_
  refine q_aload_n C dX12_likers_5 rfl ?_
  refine x_getI (ci := 12) (j := 27) C dX12_likers_6 lkF_X12_287 rfl h (fun v1 h => ?_)
  refine q_icmp_ge (tgt := 56) C dX12_likers_9 (by decide) h (fun _ h => ?_) (fun _ h => ?_)
  · refine q_iload_n C dX12_likers_12 rfl ?_
    refine q_aload_n C dX12_likers_13 rfl ?_
    refine q_aload_n C dX12_likers_14 rfl ?_
    refine x_getR (ci := 12) (j := 32) C dX12_likers_15 lkF_X12_61 rfl h (fun c2 h => ?_)
    refine x_nn h (fun r3 h => ?_)
    refine q_iload_n C dX12_likers_18 rfl ?_
    obtain ⟨hk, h⟩ := q_obE h
    obtain ⟨u4, e1, h⟩ := q_bind h
    refine x_callV0 C dX12_likers_19 lkM_X12_302 mV_X12_isThere ⟨_, rfl, rfl⟩ hk (c_X12_isThere _ _ _ _ _ _ e1) rfl rfl (Nat.le_of_ble_eq_true rfl) (by decide) (by decide) ?_
    refine q_if_eq (tgt := 47) C dX12_likers_22 (by decide) h (fun _ h => ?_) (fun _ h => ?_)
    · exact q_msk [true, true, false, true] (jW_X12_likers_47_4 C l0 l1 l3 l2 M h kC kE0)
    · refine q_aload_n C dX12_likers_25 rfl ?_
      refine x_getR (ci := 12) (j := 32) C dX12_likers_26 lkF_X12_61 rfl h (fun c5 h => ?_)
      refine x_nn h (fun r6 h => ?_)
      refine x_iconst (v := (4 : Int32)) C dX12_likers_29 (by decide) ?_
      refine q_iload_n C dX12_likers_30 rfl ?_
      refine q_imul C dX12_likers_31 ?_
      refine x_iconst (v := (1 : Int32)) C dX12_likers_32 (by decide) ?_
      refine q_iadd C dX12_likers_33 ?_
      refine x_iald C dX12_likers_34 h (fun v7 h => ?_)
      refine q_aload_n C dX12_likers_35 rfl ?_
      refine q_iload_n C dX12_likers_36 rfl ?_
      obtain ⟨hk, h⟩ := q_obE h
      obtain ⟨u8, e1, h⟩ := q_bind h
      refine x_callV0 C dX12_likers_37 lkM_X12_344 mV_X12_kindOf ⟨_, rfl, rfl⟩ hk (c_X12_kindOf _ _ _ _ _ e1) rfl rfl (Nat.le_of_ble_eq_true rfl) (by decide) (by decide) ?_
      refine q_icmp_ne (tgt := 47) C dX12_likers_40 (by decide) h (fun _ h => ?_) (fun _ h => ?_)
      · refine x_iconst (v := (1 : Int32)) C dX12_likers_43 (by decide) ?_
        refine q_goto (tgt := 48) C dX12_likers_44 (by decide) ?_
        exact q_msk [true, true, false, true] (jW_X12_likers_48_4 C l0 l1 l3 l2 (1 : Int32) M h kC kE0)
      · exact q_msk [true, true, false, true] (jW_X12_likers_47_4 C l0 l1 l3 l2 M h kC kE0)
  · exact q_msk [false, false, true, false] (kE0 _ (Option.some.inj h).symm)
set_option maxRecDepth 100000 in
set_option maxHeartbeats 4000000 in
theorem lW_X12_likers_4 {K : q_K} {Q : State → Prop} (C : q_C K yX12_likers cX12_likers 4 (Option.some Jvm.ClassFile.FieldType.int) 3 0 0) (l0 : Nat) (l1 : Int32) (M : q_Mem) (n : Nat) : ∀ (l2 : Int32) (l3 : Int32) (e : (Int32)), q_lp (fun s => B_X12_likers_4 l0 l1 s.1 s.2 M) n (l2, l3) = some e → (∀ (l2 : Int32), e = l2 → q_W K 4 Q 0 0 M 56 [none, none, some (.int l2), none] []) → q_W K 4 Q 0 0 M 4 [some (.ref l0), some (.int l1), some (.int l2), some (.int l3)] [] := by
  induction n with
  | zero => intro l2 l3 e h; cases h
  | succ n ih =>
    intro l2 l3 e h kE0
    obtain ⟨stp, e1, e2⟩ := q_bind h
    refine bW_X12_likers_4 C l0 l1 l2 l3 M e1 (fun a0 a1 hs => ?_) (fun b0 hs => ?_)
    · subst hs; exact ih _ _ _ e2 kE0
    · subst hs; exact kE0 _ (Option.some.inj e2).symm
noncomputable def F_X12_likers (l0 : Nat) (l1 : Int32) (M : q_Mem) : Option (Int32) := (q_lp (fun s => B_X12_likers_4 l0 l1 s.1 s.2 M) q_fu ((0 : Int32), (0 : Int32))).bind (fun e9 => match e9 with | w10 => some w10)
set_option maxRecDepth 100000 in
set_option maxHeartbeats 4000000 in
theorem c_X12_likers (l : Launch) (G : q_G) (l0 : Nat) (l1 : Int32) (M : q_Mem) {r : Int32} (h : F_X12_likers l0 l1 M = some r) : q_Met l G yX12_likers cX12_likers 4 (Option.some Jvm.ClassFile.FieldType.int) 3 0 0 [.ref l0, .int l1] M (some (.int r)) M := by
  unfold F_X12_likers at h
  refine q_enter [some (.ref l0), some (.int l1), none, none] (by decide) (Nat.le_of_ble_eq_true rfl) rfl (fun K C => ?_)
  refine x_iconst (v := (0 : Int32)) C dX12_likers_0 (by decide) ?_
  refine q_istore_n (L' := [some (.ref l0), some (.int l1), some (.int (0 : Int32)), none]) C dX12_likers_1 (by decide) rfl rfl ?_
  refine x_iconst (v := (0 : Int32)) C dX12_likers_2 (by decide) ?_
  refine q_istore_n (L' := [some (.ref l0), some (.int l1), some (.int (0 : Int32)), some (.int (0 : Int32))]) C dX12_likers_3 (by decide) rfl rfl ?_
  obtain ⟨e9, he, h⟩ := q_bind h
  refine q_msk [true, true, true, true] (lW_X12_likers_4 C l0 l1 M q_fu _ _ _ he (fun w10 hs => ?_))
  · have hs := hs.symm
    subst hs
    refine q_iload_n C dX12_likers_56 rfl ?_
    exact q_iret (res := (r, M)) C dX12_likers_57 rfl (by decide) (by decide) (congrArg (fun z => (z, M)) (Option.some.inj h))
noncomputable def J_X12_ofDish_89_4 (l0 : Nat) (l1 : Int32) (l3 : Int32) (s0 : Int32) (M : q_Mem) : Option ((Int32 × Int32) ⊕ (Int32)) := some (.inl (s0, (l3 + (1 : Int32))))
set_option maxRecDepth 100000 in
set_option maxHeartbeats 4000000 in
theorem jW_X12_ofDish_89_4 {K : q_K} {Q : State → Prop} (C : q_C K yX12_ofDish cX12_ofDish 5 (Option.some Jvm.ClassFile.FieldType.int) 4 0 0) (l0 : Nat) (l1 : Int32) (l3 : Int32) (s0 : Int32) (M : q_Mem) {stp : (Int32 × Int32) ⊕ (Int32)} (h : J_X12_ofDish_89_4 l0 l1 l3 s0 M = some stp) (kC : ∀ (l2 : Int32) (l3 : Int32), stp = .inl (l2, l3) → q_W K 5 Q 0 0 M 4 [some (.ref l0), some (.int l1), some (.int l2), some (.int l3), none] []) (kE0 : ∀ (l2 : Int32), stp = .inr l2 → q_W K 5 Q 0 0 M 96 [none, none, some (.int l2), none, none] []) : q_W K 5 Q 0 0 M 89 [some (.ref l0), some (.int l1), none, some (.int l3), none] [.int s0] := by
  unfold J_X12_ofDish_89_4 at h
  refine q_istore_n (L' := [some (.ref l0), some (.int l1), some (.int s0), some (.int l3), none]) C dX12_ofDish_89 (by decide) rfl rfl ?_
  refine x_iinc (w := (1 : Int32)) (L' := [some (.ref l0), some (.int l1), some (.int s0), some (.int (l3 + (1 : Int32))), none]) C dX12_ofDish_90 rfl (by decide) (by decide) rfl rfl ?_
  refine q_goto (tgt := 4) C dX12_ofDish_93 (by decide) ?_
  exact q_msk [true, true, true, true, false] (kC _ _ (Option.some.inj h).symm)
noncomputable def J_X12_ofDish_77_4 (l0 : Nat) (l1 : Int32) (l2 : Int32) (l3 : Int32) (s0 : Int32) (M : q_Mem) : Option ((Int32 × Int32) ⊕ (Int32)) := (if 0 < s0 then J_X12_ofDish_89_4 l0 l1 l3 l3 M else J_X12_ofDish_89_4 l0 l1 l3 l2 M)
set_option maxRecDepth 100000 in
set_option maxHeartbeats 4000000 in
theorem jW_X12_ofDish_77_4 {K : q_K} {Q : State → Prop} (C : q_C K yX12_ofDish cX12_ofDish 5 (Option.some Jvm.ClassFile.FieldType.int) 4 0 0) (l0 : Nat) (l1 : Int32) (l2 : Int32) (l3 : Int32) (s0 : Int32) (M : q_Mem) {stp : (Int32 × Int32) ⊕ (Int32)} (h : J_X12_ofDish_77_4 l0 l1 l2 l3 s0 M = some stp) (kC : ∀ (l2 : Int32) (l3 : Int32), stp = .inl (l2, l3) → q_W K 5 Q 0 0 M 4 [some (.ref l0), some (.int l1), some (.int l2), some (.int l3), none] []) (kE0 : ∀ (l2 : Int32), stp = .inr l2 → q_W K 5 Q 0 0 M 96 [none, none, some (.int l2), none, none] []) : q_W K 5 Q 0 0 M 77 [some (.ref l0), some (.int l1), some (.int l2), some (.int l3), none] [.int s0] := by
  unfold J_X12_ofDish_77_4 at h
  refine q_istore (L' := [some (.ref l0), some (.int l1), some (.int l2), some (.int l3), some (.int s0)]) C dX12_ofDish_77 (by decide) rfl rfl ?_
  refine q_iload C dX12_ofDish_79 rfl ?_
  refine q_if_le (tgt := 88) C dX12_ofDish_81 (by decide) h (fun _ h => ?_) (fun _ h => ?_)
  · refine q_iload_n C dX12_ofDish_84 rfl ?_
    refine q_goto (tgt := 89) C dX12_ofDish_85 (by decide) ?_
    exact q_msk [true, true, false, true, false] (jW_X12_ofDish_89_4 C l0 l1 l3 l3 M h kC kE0)
  · refine q_iload_n C dX12_ofDish_88 rfl ?_
    exact q_msk [true, true, false, true, false] (jW_X12_ofDish_89_4 C l0 l1 l3 l2 M h kC kE0)
noncomputable def B_X12_ofDish_4 (l0 : Nat) (l1 : Int32) (l2 : Int32) (l3 : Int32) (M : q_Mem) : Option ((Int32 × Int32) ⊕ (Int32)) := (q_gI M l0 12 26 (fun v1 => (if l3 < v1 then (if l1 = (3 : Int32) then (q_gR M l0 12 20 (fun c2 => q_nn c2 (fun r3 => (q_lI M 0 r3 ((3 : Int32) * l3) (fun v4 => (q_gR M l0 12 20 (fun c5 => q_nn c5 (fun r6 => (q_lI M 0 r6 ((3 : Int32) * l2) (fun v7 => J_X12_ofDish_77_4 l0 l1 l2 l3 (v4 - v7) M)))))))))) else (if l1 = (4 : Int32) then (q_gR M l0 12 20 (fun c8 => q_nn c8 (fun r9 => (q_lI M 0 r9 (((3 : Int32) * l2) + (1 : Int32)) (fun v10 => (q_gR M l0 12 20 (fun c11 => q_nn c11 (fun r12 => (q_lI M 0 r12 (((3 : Int32) * l3) + (1 : Int32)) (fun v13 => J_X12_ofDish_77_4 l0 l1 l2 l3 (v10 - v13) M)))))))))) else (q_ob M l0 12 ((F_X12_likers l0 l3 M).bind (fun u14 => (q_ob M l0 12 ((F_X12_likers l0 l2 M).bind (fun u15 => J_X12_ofDish_77_4 l0 l1 l2 l3 (u14 - u15) M)))))))) else some (.inr l2))))
set_option maxRecDepth 100000 in
set_option maxHeartbeats 4000000 in
theorem bW_X12_ofDish_4 {K : q_K} {Q : State → Prop} (C : q_C K yX12_ofDish cX12_ofDish 5 (Option.some Jvm.ClassFile.FieldType.int) 4 0 0) (l0 : Nat) (l1 : Int32) (l2 : Int32) (l3 : Int32) (M : q_Mem) {stp : (Int32 × Int32) ⊕ (Int32)} (h : B_X12_ofDish_4 l0 l1 l2 l3 M = some stp) (kC : ∀ (l2 : Int32) (l3 : Int32), stp = .inl (l2, l3) → q_W K 5 Q 0 0 M 4 [some (.ref l0), some (.int l1), some (.int l2), some (.int l3), none] []) (kE0 : ∀ (l2 : Int32), stp = .inr l2 → q_W K 5 Q 0 0 M 96 [none, none, some (.int l2), none, none] []) : q_W K 5 Q 0 0 M 4 [some (.ref l0), some (.int l1), some (.int l2), some (.int l3), none] [] := by
  unfold B_X12_ofDish_4 at h
  refine q_iload_n C dX12_ofDish_4 rfl ?_
  refine q_aload_n C dX12_ofDish_5 rfl ?_
  refine x_getI (ci := 12) (j := 26) C dX12_ofDish_6 lkF_X12_284 rfl h (fun v1 h => ?_)
  refine q_icmp_ge (tgt := 96) C dX12_ofDish_9 (by decide) h (fun _ h => ?_) (fun _ h => ?_)
  · refine q_iload_n C dX12_ofDish_12 rfl ?_
    refine x_iconst (v := (3 : Int32)) C dX12_ofDish_13 (by decide) ?_
    refine q_icmp_ne (tgt := 37) C dX12_ofDish_14 (by decide) h (fun _ h => ?_) (fun _ h => ?_)
    · refine q_aload_n C dX12_ofDish_17 rfl ?_
      refine x_getR (ci := 12) (j := 20) C dX12_ofDish_18 lkF_X12_43 rfl h (fun c2 h => ?_)
      refine x_nn h (fun r3 h => ?_)
      refine x_iconst (v := (3 : Int32)) C dX12_ofDish_21 (by decide) ?_
      refine q_iload_n C dX12_ofDish_22 rfl ?_
      refine q_imul C dX12_ofDish_23 ?_
      refine x_iald C dX12_ofDish_24 h (fun v4 h => ?_)
      refine q_aload_n C dX12_ofDish_25 rfl ?_
      refine x_getR (ci := 12) (j := 20) C dX12_ofDish_26 lkF_X12_43 rfl h (fun c5 h => ?_)
      refine x_nn h (fun r6 h => ?_)
      refine x_iconst (v := (3 : Int32)) C dX12_ofDish_29 (by decide) ?_
      refine q_iload_n C dX12_ofDish_30 rfl ?_
      refine q_imul C dX12_ofDish_31 ?_
      refine x_iald C dX12_ofDish_32 h (fun v7 h => ?_)
      refine q_isub C dX12_ofDish_33 ?_
      refine q_goto (tgt := 77) C dX12_ofDish_34 (by decide) ?_
      exact q_msk [true, true, true, true, false] (jW_X12_ofDish_77_4 C l0 l1 l2 l3 (v4 - v7) M h kC kE0)
    · refine q_iload_n C dX12_ofDish_37 rfl ?_
      refine x_iconst (v := (4 : Int32)) C dX12_ofDish_38 (by decide) ?_
      refine q_icmp_ne (tgt := 66) C dX12_ofDish_39 (by decide) h (fun _ h => ?_) (fun _ h => ?_)
      · refine q_aload_n C dX12_ofDish_42 rfl ?_
        refine x_getR (ci := 12) (j := 20) C dX12_ofDish_43 lkF_X12_43 rfl h (fun c8 h => ?_)
        refine x_nn h (fun r9 h => ?_)
        refine x_iconst (v := (3 : Int32)) C dX12_ofDish_46 (by decide) ?_
        refine q_iload_n C dX12_ofDish_47 rfl ?_
        refine q_imul C dX12_ofDish_48 ?_
        refine x_iconst (v := (1 : Int32)) C dX12_ofDish_49 (by decide) ?_
        refine q_iadd C dX12_ofDish_50 ?_
        refine x_iald C dX12_ofDish_51 h (fun v10 h => ?_)
        refine q_aload_n C dX12_ofDish_52 rfl ?_
        refine x_getR (ci := 12) (j := 20) C dX12_ofDish_53 lkF_X12_43 rfl h (fun c11 h => ?_)
        refine x_nn h (fun r12 h => ?_)
        refine x_iconst (v := (3 : Int32)) C dX12_ofDish_56 (by decide) ?_
        refine q_iload_n C dX12_ofDish_57 rfl ?_
        refine q_imul C dX12_ofDish_58 ?_
        refine x_iconst (v := (1 : Int32)) C dX12_ofDish_59 (by decide) ?_
        refine q_iadd C dX12_ofDish_60 ?_
        refine x_iald C dX12_ofDish_61 h (fun v13 h => ?_)
        refine q_isub C dX12_ofDish_62 ?_
        refine q_goto (tgt := 77) C dX12_ofDish_63 (by decide) ?_
        exact q_msk [true, true, true, true, false] (jW_X12_ofDish_77_4 C l0 l1 l2 l3 (v10 - v13) M h kC kE0)
      · refine q_aload_n C dX12_ofDish_66 rfl ?_
        refine q_iload_n C dX12_ofDish_67 rfl ?_
        obtain ⟨hk, h⟩ := q_obE h
        obtain ⟨u14, e1, h⟩ := q_bind h
        refine x_callV0 C dX12_ofDish_68 lkM_X12_459 mV_X12_likers ⟨_, rfl, rfl⟩ hk (c_X12_likers _ _ _ _ _ e1) rfl rfl (Nat.le_of_ble_eq_true rfl) (by decide) (by decide) ?_
        refine q_aload_n C dX12_ofDish_71 rfl ?_
        refine q_iload_n C dX12_ofDish_72 rfl ?_
        obtain ⟨hk, h⟩ := q_obE h
        obtain ⟨u15, e1, h⟩ := q_bind h
        refine x_callV0 C dX12_ofDish_73 lkM_X12_459 mV_X12_likers ⟨_, rfl, rfl⟩ hk (c_X12_likers _ _ _ _ _ e1) rfl rfl (Nat.le_of_ble_eq_true rfl) (by decide) (by decide) ?_
        refine q_isub C dX12_ofDish_76 ?_
        exact q_msk [true, true, true, true, false] (jW_X12_ofDish_77_4 C l0 l1 l2 l3 (u14 - u15) M h kC kE0)
  · exact q_msk [false, false, true, false, false] (kE0 _ (Option.some.inj h).symm)
set_option maxRecDepth 100000 in
set_option maxHeartbeats 4000000 in
theorem lW_X12_ofDish_4 {K : q_K} {Q : State → Prop} (C : q_C K yX12_ofDish cX12_ofDish 5 (Option.some Jvm.ClassFile.FieldType.int) 4 0 0) (l0 : Nat) (l1 : Int32) (M : q_Mem) (n : Nat) : ∀ (l2 : Int32) (l3 : Int32) (e : (Int32)), q_lp (fun s => B_X12_ofDish_4 l0 l1 s.1 s.2 M) n (l2, l3) = some e → (∀ (l2 : Int32), e = l2 → q_W K 5 Q 0 0 M 96 [none, none, some (.int l2), none, none] []) → q_W K 5 Q 0 0 M 4 [some (.ref l0), some (.int l1), some (.int l2), some (.int l3), none] [] := by
  induction n with
  | zero => intro l2 l3 e h; cases h
  | succ n ih =>
    intro l2 l3 e h kE0
    obtain ⟨stp, e1, e2⟩ := q_bind h
    refine bW_X12_ofDish_4 C l0 l1 l2 l3 M e1 (fun a0 a1 hs => ?_) (fun b0 hs => ?_)
    · subst hs; exact ih _ _ _ e2 kE0
    · subst hs; exact kE0 _ (Option.some.inj e2).symm
noncomputable def F_X12_ofDish (l0 : Nat) (l1 : Int32) (M : q_Mem) : Option (Int32) := (q_lp (fun s => B_X12_ofDish_4 l0 l1 s.1 s.2 M) q_fu ((0 : Int32), (1 : Int32))).bind (fun e16 => match e16 with | w17 => some w17)
set_option maxRecDepth 100000 in
set_option maxHeartbeats 4000000 in
theorem c_X12_ofDish (l : Launch) (G : q_G) (l0 : Nat) (l1 : Int32) (M : q_Mem) {r : Int32} (h : F_X12_ofDish l0 l1 M = some r) : q_Met l G yX12_ofDish cX12_ofDish 5 (Option.some Jvm.ClassFile.FieldType.int) 4 0 0 [.ref l0, .int l1] M (some (.int r)) M := by
  unfold F_X12_ofDish at h
  refine q_enter [some (.ref l0), some (.int l1), none, none, none] (by decide) (Nat.le_of_ble_eq_true rfl) rfl (fun K C => ?_)
  refine x_iconst (v := (0 : Int32)) C dX12_ofDish_0 (by decide) ?_
  refine q_istore_n (L' := [some (.ref l0), some (.int l1), some (.int (0 : Int32)), none, none]) C dX12_ofDish_1 (by decide) rfl rfl ?_
  refine x_iconst (v := (1 : Int32)) C dX12_ofDish_2 (by decide) ?_
  refine q_istore_n (L' := [some (.ref l0), some (.int l1), some (.int (0 : Int32)), some (.int (1 : Int32)), none]) C dX12_ofDish_3 (by decide) rfl rfl ?_
  obtain ⟨e16, he, h⟩ := q_bind h
  refine q_msk [true, true, true, true, false] (lW_X12_ofDish_4 C l0 l1 M q_fu _ _ _ he (fun w17 hs => ?_))
  · have hs := hs.symm
    subst hs
    refine q_iload_n C dX12_ofDish_96 rfl ?_
    exact q_iret (res := (r, M)) C dX12_ofDish_97 rfl (by decide) (by decide) (congrArg (fun z => (z, M)) (Option.some.inj h))
noncomputable def J_X12_last_48_4 (l0 : Nat) (l1 : Int32) (l2 : Int32) (M : q_Mem) : Option ((Int32 × Int32) ⊕ (Int32)) := some (.inl (l1, (l2 + (1 : Int32))))
set_option maxRecDepth 100000 in
set_option maxHeartbeats 4000000 in
theorem jW_X12_last_48_4 {K : q_K} {Q : State → Prop} (C : q_C K yX12_last cX12_last 3 (Option.some Jvm.ClassFile.FieldType.int) 2 0 0) (l0 : Nat) (l1 : Int32) (l2 : Int32) (M : q_Mem) {stp : (Int32 × Int32) ⊕ (Int32)} (h : J_X12_last_48_4 l0 l1 l2 M = some stp) (kC : ∀ (l1 : Int32) (l2 : Int32), stp = .inl (l1, l2) → q_W K 3 Q 0 0 M 4 [some (.ref l0), some (.int l1), some (.int l2)] []) (kE0 : ∀ (l1 : Int32), stp = .inr l1 → q_W K 3 Q 0 0 M 54 [none, some (.int l1), none] []) : q_W K 3 Q 0 0 M 48 [some (.ref l0), some (.int l1), some (.int l2)] [] := by
  unfold J_X12_last_48_4 at h
  refine x_iinc (w := (1 : Int32)) (L' := [some (.ref l0), some (.int l1), some (.int (l2 + (1 : Int32)))]) C dX12_last_48 rfl (by decide) (by decide) rfl rfl ?_
  refine q_goto (tgt := 4) C dX12_last_51 (by decide) ?_
  exact q_msk [true, true, true] (kC _ _ (Option.some.inj h).symm)
noncomputable def B_X12_last_4 (l0 : Nat) (l1 : Int32) (l2 : Int32) (M : q_Mem) : Option ((Int32 × Int32) ⊕ (Int32)) := (q_gI M l0 12 27 (fun v1 => (if l2 < v1 then (q_gR M l0 12 32 (fun c2 => q_nn c2 (fun r3 => (q_lI M 0 r3 (((4 : Int32) * l2) + (3 : Int32)) (fun v4 => (if v4 = 0 then (q_ob M l0 12 ((F_X12_comes l0 l2 M).bind (fun u5 => (q_gR M l0 12 32 (fun c6 => q_nn c6 (fun r7 => (q_lI M 0 r7 (((4 : Int32) * l2) + (0 : Int32)) (fun v8 => J_X12_last_48_4 l0 (q_mx l1 ((u5 + v8) - (1 : Int32))) l2 M)))))))) else J_X12_last_48_4 l0 l1 l2 M)))))) else some (.inr l1))))
set_option maxRecDepth 100000 in
set_option maxHeartbeats 4000000 in
theorem bW_X12_last_4 {K : q_K} {Q : State → Prop} (C : q_C K yX12_last cX12_last 3 (Option.some Jvm.ClassFile.FieldType.int) 2 0 0) (l0 : Nat) (l1 : Int32) (l2 : Int32) (M : q_Mem) {stp : (Int32 × Int32) ⊕ (Int32)} (h : B_X12_last_4 l0 l1 l2 M = some stp) (kC : ∀ (l1 : Int32) (l2 : Int32), stp = .inl (l1, l2) → q_W K 3 Q 0 0 M 4 [some (.ref l0), some (.int l1), some (.int l2)] []) (kE0 : ∀ (l1 : Int32), stp = .inr l1 → q_W K 3 Q 0 0 M 54 [none, some (.int l1), none] []) : q_W K 3 Q 0 0 M 4 [some (.ref l0), some (.int l1), some (.int l2)] [] := by
  unfold B_X12_last_4 at h
  refine q_iload_n C dX12_last_4 rfl ?_
  refine q_aload_n C dX12_last_5 rfl ?_
  refine x_getI (ci := 12) (j := 27) C dX12_last_6 lkF_X12_287 rfl h (fun v1 h => ?_)
  refine q_icmp_ge (tgt := 54) C dX12_last_9 (by decide) h (fun _ h => ?_) (fun _ h => ?_)
  · refine q_aload_n C dX12_last_12 rfl ?_
    refine x_getR (ci := 12) (j := 32) C dX12_last_13 lkF_X12_61 rfl h (fun c2 h => ?_)
    refine x_nn h (fun r3 h => ?_)
    refine x_iconst (v := (4 : Int32)) C dX12_last_16 (by decide) ?_
    refine q_iload_n C dX12_last_17 rfl ?_
    refine q_imul C dX12_last_18 ?_
    refine x_iconst (v := (3 : Int32)) C dX12_last_19 (by decide) ?_
    refine q_iadd C dX12_last_20 ?_
    refine x_iald C dX12_last_21 h (fun v4 h => ?_)
    refine q_if_ne (tgt := 48) C dX12_last_22 (by decide) h (fun _ h => ?_) (fun _ h => ?_)
    · refine q_iload_n C dX12_last_25 rfl ?_
      refine q_aload_n C dX12_last_26 rfl ?_
      refine q_iload_n C dX12_last_27 rfl ?_
      obtain ⟨hk, h⟩ := q_obE h
      obtain ⟨u5, e1, h⟩ := q_bind h
      refine x_callV0 C dX12_last_28 lkM_X12_299 mV_X12_comes ⟨_, rfl, rfl⟩ hk (c_X12_comes _ _ _ _ _ e1) rfl rfl (Nat.le_of_ble_eq_true rfl) (by decide) (by decide) ?_
      refine q_aload_n C dX12_last_31 rfl ?_
      refine x_getR (ci := 12) (j := 32) C dX12_last_32 lkF_X12_61 rfl h (fun c6 h => ?_)
      refine x_nn h (fun r7 h => ?_)
      refine x_iconst (v := (4 : Int32)) C dX12_last_35 (by decide) ?_
      refine q_iload_n C dX12_last_36 rfl ?_
      refine q_imul C dX12_last_37 ?_
      refine x_iconst (v := (0 : Int32)) C dX12_last_38 (by decide) ?_
      refine q_iadd C dX12_last_39 ?_
      refine x_iald C dX12_last_40 h (fun v8 h => ?_)
      refine q_iadd C dX12_last_41 ?_
      refine x_iconst (v := (1 : Int32)) C dX12_last_42 (by decide) ?_
      refine q_isub C dX12_last_43 ?_
      refine q_max C dX12_last_44 wd_1599 wd_467 wd_15 wd_468 (by decide) (Nat.le_of_ble_eq_true rfl) (by decide) ?_
      refine q_istore_n (L' := [some (.ref l0), some (.int (q_mx l1 ((u5 + v8) - (1 : Int32)))), some (.int l2)]) C dX12_last_47 (by decide) rfl rfl ?_
      exact q_msk [true, true, true] (jW_X12_last_48_4 C l0 (q_mx l1 ((u5 + v8) - (1 : Int32))) l2 M h kC kE0)
    · exact q_msk [true, true, true] (jW_X12_last_48_4 C l0 l1 l2 M h kC kE0)
  · exact q_msk [false, true, false] (kE0 _ (Option.some.inj h).symm)
set_option maxRecDepth 100000 in
set_option maxHeartbeats 4000000 in
theorem lW_X12_last_4 {K : q_K} {Q : State → Prop} (C : q_C K yX12_last cX12_last 3 (Option.some Jvm.ClassFile.FieldType.int) 2 0 0) (l0 : Nat) (M : q_Mem) (n : Nat) : ∀ (l1 : Int32) (l2 : Int32) (e : (Int32)), q_lp (fun s => B_X12_last_4 l0 s.1 s.2 M) n (l1, l2) = some e → (∀ (l1 : Int32), e = l1 → q_W K 3 Q 0 0 M 54 [none, some (.int l1), none] []) → q_W K 3 Q 0 0 M 4 [some (.ref l0), some (.int l1), some (.int l2)] [] := by
  induction n with
  | zero => intro l1 l2 e h; cases h
  | succ n ih =>
    intro l1 l2 e h kE0
    obtain ⟨stp, e1, e2⟩ := q_bind h
    refine bW_X12_last_4 C l0 l1 l2 M e1 (fun a0 a1 hs => ?_) (fun b0 hs => ?_)
    · subst hs; exact ih _ _ _ e2 kE0
    · subst hs; exact kE0 _ (Option.some.inj e2).symm
noncomputable def F_X12_last (l0 : Nat) (M : q_Mem) : Option (Int32) := (q_lp (fun s => B_X12_last_4 l0 s.1 s.2 M) q_fu ((-1 : Int32), (0 : Int32))).bind (fun e9 => match e9 with | w10 => some w10)
set_option maxRecDepth 100000 in
set_option maxHeartbeats 4000000 in
theorem c_X12_last (l : Launch) (G : q_G) (l0 : Nat) (M : q_Mem) {r : Int32} (h : F_X12_last l0 M = some r) : q_Met l G yX12_last cX12_last 3 (Option.some Jvm.ClassFile.FieldType.int) 2 0 0 [.ref l0] M (some (.int r)) M := by
  unfold F_X12_last at h
  refine q_enter [some (.ref l0), none, none] (by decide) (Nat.le_of_ble_eq_true rfl) rfl (fun K C => ?_)
  refine x_iconst (v := (-1 : Int32)) C dX12_last_0 (by decide) ?_
  refine q_istore_n (L' := [some (.ref l0), some (.int (-1 : Int32)), none]) C dX12_last_1 (by decide) rfl rfl ?_
  refine x_iconst (v := (0 : Int32)) C dX12_last_2 (by decide) ?_
  refine q_istore_n (L' := [some (.ref l0), some (.int (-1 : Int32)), some (.int (0 : Int32))]) C dX12_last_3 (by decide) rfl rfl ?_
  obtain ⟨e9, he, h⟩ := q_bind h
  refine q_msk [true, true, true] (lW_X12_last_4 C l0 M q_fu _ _ _ he (fun w10 hs => ?_))
  · have hs := hs.symm
    subst hs
    refine q_iload_n C dX12_last_54 rfl ?_
    exact q_iret (res := (r, M)) C dX12_last_55 rfl (by decide) (by decide) (congrArg (fun z => (z, M)) (Option.some.inj h))
noncomputable def J_X12_takes__34_4 (l0 : Nat) (l2 : Int32) (s0 : Int32) (s1 : Int32) (M : q_Mem) : Option ((Int32 × Int32) ⊕ (Int32)) := some (.inl ((s0 + s1), (l2 + (1 : Int32))))
set_option maxRecDepth 100000 in
set_option maxHeartbeats 4000000 in
theorem jW_X12_takes__34_4 {K : q_K} {Q : State → Prop} (C : q_C K yX12_takes_ cX12_takes_ 3 (Option.some Jvm.ClassFile.FieldType.int) 3 0 0) (l0 : Nat) (l2 : Int32) (s0 : Int32) (s1 : Int32) (M : q_Mem) {stp : (Int32 × Int32) ⊕ (Int32)} (h : J_X12_takes__34_4 l0 l2 s0 s1 M = some stp) (kC : ∀ (l1 : Int32) (l2 : Int32), stp = .inl (l1, l2) → q_W K 3 Q 0 0 M 4 [some (.ref l0), some (.int l1), some (.int l2)] []) (kE0 : ∀ (l1 : Int32), stp = .inr l1 → q_W K 3 Q 0 0 M 42 [none, some (.int l1), none] []) : q_W K 3 Q 0 0 M 34 [some (.ref l0), none, some (.int l2)] [.int s1, .int s0] := by
  unfold J_X12_takes__34_4 at h
  refine q_iadd C dX12_takes__34 ?_
  refine q_istore_n (L' := [some (.ref l0), some (.int (s0 + s1)), some (.int l2)]) C dX12_takes__35 (by decide) rfl rfl ?_
  refine x_iinc (w := (1 : Int32)) (L' := [some (.ref l0), some (.int (s0 + s1)), some (.int (l2 + (1 : Int32)))]) C dX12_takes__36 rfl (by decide) (by decide) rfl rfl ?_
  refine q_goto (tgt := 4) C dX12_takes__39 (by decide) ?_
  exact q_msk [true, true, true] (kC _ _ (Option.some.inj h).symm)
noncomputable def B_X12_takes__4 (l0 : Nat) (l1 : Int32) (l2 : Int32) (M : q_Mem) : Option ((Int32 × Int32) ⊕ (Int32)) := (q_gI M l0 12 27 (fun v1 => (if l2 < v1 then (q_gR M l0 12 32 (fun c2 => q_nn c2 (fun r3 => (q_ob M l0 12 ((F_X12_isThere l0 r3 l2 M).bind (fun u4 => (if u4 = 0 then J_X12_takes__34_4 l0 l2 l1 (0 : Int32) M else (q_ob M l0 12 ((F_X12_pays l0 l2 M).bind (fun u5 => J_X12_takes__34_4 l0 l2 l1 u5 M)))))))))) else some (.inr l1))))
set_option maxRecDepth 100000 in
set_option maxHeartbeats 4000000 in
theorem bW_X12_takes__4 {K : q_K} {Q : State → Prop} (C : q_C K yX12_takes_ cX12_takes_ 3 (Option.some Jvm.ClassFile.FieldType.int) 3 0 0) (l0 : Nat) (l1 : Int32) (l2 : Int32) (M : q_Mem) {stp : (Int32 × Int32) ⊕ (Int32)} (h : B_X12_takes__4 l0 l1 l2 M = some stp) (kC : ∀ (l1 : Int32) (l2 : Int32), stp = .inl (l1, l2) → q_W K 3 Q 0 0 M 4 [some (.ref l0), some (.int l1), some (.int l2)] []) (kE0 : ∀ (l1 : Int32), stp = .inr l1 → q_W K 3 Q 0 0 M 42 [none, some (.int l1), none] []) : q_W K 3 Q 0 0 M 4 [some (.ref l0), some (.int l1), some (.int l2)] [] := by
  unfold B_X12_takes__4 at h
  refine q_iload_n C dX12_takes__4 rfl ?_
  refine q_aload_n C dX12_takes__5 rfl ?_
  refine x_getI (ci := 12) (j := 27) C dX12_takes__6 lkF_X12_287 rfl h (fun v1 h => ?_)
  refine q_icmp_ge (tgt := 42) C dX12_takes__9 (by decide) h (fun _ h => ?_) (fun _ h => ?_)
  · refine q_iload_n C dX12_takes__12 rfl ?_
    refine q_aload_n C dX12_takes__13 rfl ?_
    refine q_aload_n C dX12_takes__14 rfl ?_
    refine x_getR (ci := 12) (j := 32) C dX12_takes__15 lkF_X12_61 rfl h (fun c2 h => ?_)
    refine x_nn h (fun r3 h => ?_)
    refine q_iload_n C dX12_takes__18 rfl ?_
    obtain ⟨hk, h⟩ := q_obE h
    obtain ⟨u4, e1, h⟩ := q_bind h
    refine x_callV0 C dX12_takes__19 lkM_X12_302 mV_X12_isThere ⟨_, rfl, rfl⟩ hk (c_X12_isThere _ _ _ _ _ _ e1) rfl rfl (Nat.le_of_ble_eq_true rfl) (by decide) (by decide) ?_
    refine q_if_eq (tgt := 33) C dX12_takes__22 (by decide) h (fun _ h => ?_) (fun _ h => ?_)
    · refine x_iconst (v := (0 : Int32)) C dX12_takes__33 (by decide) ?_
      exact q_msk [true, false, true] (jW_X12_takes__34_4 C l0 l2 l1 (0 : Int32) M h kC kE0)
    · refine q_aload_n C dX12_takes__25 rfl ?_
      refine q_iload_n C dX12_takes__26 rfl ?_
      obtain ⟨hk, h⟩ := q_obE h
      obtain ⟨u5, e1, h⟩ := q_bind h
      refine x_callV0 C dX12_takes__27 lkM_X12_306 mV_X12_pays ⟨_, rfl, rfl⟩ hk (c_X12_pays _ _ _ _ _ e1) rfl rfl (Nat.le_of_ble_eq_true rfl) (by decide) (by decide) ?_
      refine q_goto (tgt := 34) C dX12_takes__30 (by decide) ?_
      exact q_msk [true, false, true] (jW_X12_takes__34_4 C l0 l2 l1 u5 M h kC kE0)
  · exact q_msk [false, true, false] (kE0 _ (Option.some.inj h).symm)
set_option maxRecDepth 100000 in
set_option maxHeartbeats 4000000 in
theorem lW_X12_takes__4 {K : q_K} {Q : State → Prop} (C : q_C K yX12_takes_ cX12_takes_ 3 (Option.some Jvm.ClassFile.FieldType.int) 3 0 0) (l0 : Nat) (M : q_Mem) (n : Nat) : ∀ (l1 : Int32) (l2 : Int32) (e : (Int32)), q_lp (fun s => B_X12_takes__4 l0 s.1 s.2 M) n (l1, l2) = some e → (∀ (l1 : Int32), e = l1 → q_W K 3 Q 0 0 M 42 [none, some (.int l1), none] []) → q_W K 3 Q 0 0 M 4 [some (.ref l0), some (.int l1), some (.int l2)] [] := by
  induction n with
  | zero => intro l1 l2 e h; cases h
  | succ n ih =>
    intro l1 l2 e h kE0
    obtain ⟨stp, e1, e2⟩ := q_bind h
    refine bW_X12_takes__4 C l0 l1 l2 M e1 (fun a0 a1 hs => ?_) (fun b0 hs => ?_)
    · subst hs; exact ih _ _ _ e2 kE0
    · subst hs; exact kE0 _ (Option.some.inj e2).symm
noncomputable def F_X12_takes_ (l0 : Nat) (M : q_Mem) : Option (Int32) := (q_lp (fun s => B_X12_takes__4 l0 s.1 s.2 M) q_fu ((0 : Int32), (0 : Int32))).bind (fun e6 => match e6 with | w7 => some w7)
set_option maxRecDepth 100000 in
set_option maxHeartbeats 4000000 in
theorem c_X12_takes_ (l : Launch) (G : q_G) (l0 : Nat) (M : q_Mem) {r : Int32} (h : F_X12_takes_ l0 M = some r) : q_Met l G yX12_takes_ cX12_takes_ 3 (Option.some Jvm.ClassFile.FieldType.int) 3 0 0 [.ref l0] M (some (.int r)) M := by
  unfold F_X12_takes_ at h
  refine q_enter [some (.ref l0), none, none] (by decide) (Nat.le_of_ble_eq_true rfl) rfl (fun K C => ?_)
  refine x_iconst (v := (0 : Int32)) C dX12_takes__0 (by decide) ?_
  refine q_istore_n (L' := [some (.ref l0), some (.int (0 : Int32)), none]) C dX12_takes__1 (by decide) rfl rfl ?_
  refine x_iconst (v := (0 : Int32)) C dX12_takes__2 (by decide) ?_
  refine q_istore_n (L' := [some (.ref l0), some (.int (0 : Int32)), some (.int (0 : Int32))]) C dX12_takes__3 (by decide) rfl rfl ?_
  obtain ⟨e6, he, h⟩ := q_bind h
  refine q_msk [true, true, true] (lW_X12_takes__4 C l0 M q_fu _ _ _ he (fun w7 hs => ?_))
  · have hs := hs.symm
    subst hs
    refine q_iload_n C dX12_takes__42 rfl ?_
    exact q_iret (res := (r, M)) C dX12_takes__43 rfl (by decide) (by decide) (congrArg (fun z => (z, M)) (Option.some.inj h))
noncomputable def J_X12_mustard_45_13 (l0 : Nat) (l1 : Int32) (M : q_Mem) : Option ((Int32 × q_Mem) ⊕ ((Int32 × q_Mem) ⊕ (q_Mem))) := some (.inl ((l1 + (1 : Int32)), M))
set_option maxRecDepth 100000 in
set_option maxHeartbeats 4000000 in
theorem jW_X12_mustard_45_13 {K : q_K} {Q : State → Prop} (C : q_C K yX12_mustard cX12_mustard 3 (Option.some Jvm.ClassFile.FieldType.int) 133 0 0) (l0 : Nat) (l1 : Int32) (M : q_Mem) {stp : (Int32 × q_Mem) ⊕ ((Int32 × q_Mem) ⊕ (q_Mem))} (h : J_X12_mustard_45_13 l0 l1 M = some stp) (kC : ∀ (l1 : Int32) (M : q_Mem), stp = .inl (l1, M) → q_W K 3 Q 0 0 M 13 [some (.ref l0), some (.int l1), none] []) (kE0 : ∀ (l1 : Int32) (M : q_Mem), stp = .inr (.inl (l1, M)) → q_W K 3 Q 0 0 M 43 [none, some (.int l1), none] []) (kE1 : ∀ (M : q_Mem), stp = .inr (.inr M) → q_W K 3 Q 0 0 M 51 [none, none, none] []) : q_W K 3 Q 0 0 M 45 [some (.ref l0), some (.int l1), none] [] := by
  unfold J_X12_mustard_45_13 at h
  refine x_iinc (w := (1 : Int32)) (L' := [some (.ref l0), some (.int (l1 + (1 : Int32))), none]) C dX12_mustard_45 rfl (by decide) (by decide) rfl rfl ?_
  refine q_goto (tgt := 13) C dX12_mustard_48 (by decide) ?_
  exact q_msk [true, true, false] (kC _ _ (Option.some.inj h).symm)
noncomputable def B_X12_mustard_13 (l0 : Nat) (l1 : Int32) (M : q_Mem) : Option ((Int32 × q_Mem) ⊕ ((Int32 × q_Mem) ⊕ (q_Mem))) := (if (60 : Int32) < l1 then some (.inr (.inr M)) else (q_gR M l0 12 33 (fun c7 => q_nn c7 (fun r8 => (q_ob M l0 12 ((F_X12_thereBits l0 r8 M).bind (fun u9 => (q_gR M l0 12 33 (fun c10 => q_nn c10 (fun r11 => (q_ob M l0 12 ((F_X12_goDay l0 r11 M).bind (fun x => match x with | (u12, M13) => (if u12 = 0 then (if u9 = 0 then J_X12_mustard_45_13 l0 l1 M13 else some (.inr (.inl (l1, M13)))) else J_X12_mustard_45_13 l0 l1 M13))))))))))))))
set_option maxRecDepth 100000 in
set_option maxHeartbeats 4000000 in
theorem bW_X12_mustard_13 {K : q_K} {Q : State → Prop} (C : q_C K yX12_mustard cX12_mustard 3 (Option.some Jvm.ClassFile.FieldType.int) 133 0 0) (l0 : Nat) (l1 : Int32) (M : q_Mem) {stp : (Int32 × q_Mem) ⊕ ((Int32 × q_Mem) ⊕ (q_Mem))} (h : B_X12_mustard_13 l0 l1 M = some stp) (kC : ∀ (l1 : Int32) (M : q_Mem), stp = .inl (l1, M) → q_W K 3 Q 0 0 M 13 [some (.ref l0), some (.int l1), none] []) (kE0 : ∀ (l1 : Int32) (M : q_Mem), stp = .inr (.inl (l1, M)) → q_W K 3 Q 0 0 M 43 [none, some (.int l1), none] []) (kE1 : ∀ (M : q_Mem), stp = .inr (.inr M) → q_W K 3 Q 0 0 M 51 [none, none, none] []) : q_W K 3 Q 0 0 M 13 [some (.ref l0), some (.int l1), none] [] := by
  unfold B_X12_mustard_13 at h
  refine q_iload_n C dX12_mustard_13 rfl ?_
  refine x_bipush (v := (60 : Int32)) C dX12_mustard_14 (by decide) ?_
  refine q_icmp_gt (tgt := 51) C dX12_mustard_16 (by decide) h (fun _ h => ?_) (fun _ h => ?_)
  · exact q_msk [false, false, false] (kE1 _ (Option.some.inj h).symm)
  · refine q_aload_n C dX12_mustard_19 rfl ?_
    refine q_aload_n C dX12_mustard_20 rfl ?_
    refine x_getR (ci := 12) (j := 33) C dX12_mustard_21 lkF_X12_64 rfl h (fun c7 h => ?_)
    refine x_nn h (fun r8 h => ?_)
    obtain ⟨hk, h⟩ := q_obE h
    obtain ⟨u9, e1, h⟩ := q_bind h
    refine x_callV0 C dX12_mustard_24 lkM_X12_326 mV_X12_thereBits ⟨_, rfl, rfl⟩ hk (c_X12_thereBits _ _ _ _ _ e1) rfl rfl (Nat.le_of_ble_eq_true rfl) (by decide) (by decide) ?_
    refine q_istore_n (L' := [some (.ref l0), some (.int l1), some (.int u9)]) C dX12_mustard_27 (by decide) rfl rfl ?_
    refine q_aload_n C dX12_mustard_28 rfl ?_
    refine q_aload_n C dX12_mustard_29 rfl ?_
    refine x_getR (ci := 12) (j := 33) C dX12_mustard_30 lkF_X12_64 rfl h (fun c10 h => ?_)
    refine x_nn h (fun r11 h => ?_)
    obtain ⟨hk, h⟩ := q_obE h
    obtain ⟨⟨u12, M13⟩, e1, h⟩ := q_bind h
    refine x_callV0 C dX12_mustard_33 lkM_X12_370 mV_X12_goDay ⟨_, rfl, rfl⟩ hk (c_X12_goDay _ _ _ _ _ e1) rfl rfl (Nat.le_of_ble_eq_true rfl) (by decide) (by decide) ?_
    refine q_if_ne (tgt := 45) C dX12_mustard_36 (by decide) h (fun _ h => ?_) (fun _ h => ?_)
    · refine q_iload_n C dX12_mustard_39 rfl ?_
      refine q_if_eq (tgt := 45) C dX12_mustard_40 (by decide) h (fun _ h => ?_) (fun _ h => ?_)
      · exact q_msk [true, true, false] (jW_X12_mustard_45_13 C l0 l1 M13 h kC kE0 kE1)
      · exact q_msk [false, true, false] (kE0 _ _ (Option.some.inj h).symm)
    · exact q_msk [true, true, false] (jW_X12_mustard_45_13 C l0 l1 M13 h kC kE0 kE1)
set_option maxRecDepth 100000 in
set_option maxHeartbeats 4000000 in
theorem lW_X12_mustard_13 {K : q_K} {Q : State → Prop} (C : q_C K yX12_mustard cX12_mustard 3 (Option.some Jvm.ClassFile.FieldType.int) 133 0 0) (l0 : Nat) (n : Nat) : ∀ (l1 : Int32) (M : q_Mem) (e : ((Int32 × q_Mem) ⊕ (q_Mem))), q_lp (fun s => B_X12_mustard_13 l0 s.1 s.2) n (l1, M) = some e → (∀ (l1 : Int32) (M : q_Mem), e = (.inl (l1, M)) → q_W K 3 Q 0 0 M 43 [none, some (.int l1), none] []) → (∀ (M : q_Mem), e = (.inr M) → q_W K 3 Q 0 0 M 51 [none, none, none] []) → q_W K 3 Q 0 0 M 13 [some (.ref l0), some (.int l1), none] [] := by
  induction n with
  | zero => intro l1 M e h; cases h
  | succ n ih =>
    intro l1 M e h kE0 kE1
    obtain ⟨stp, e1, e2⟩ := q_bind h
    refine bW_X12_mustard_13 C l0 l1 M e1 (fun a0 a1 hs => ?_) (fun b0 b1 hs => ?_) (fun b0 hs => ?_)
    · subst hs; exact ih _ _ _ e2 kE0 kE1
    · subst hs; exact kE0 _ _ (Option.some.inj e2).symm
    · subst hs; exact kE1 _ (Option.some.inj e2).symm
noncomputable def F_X12_mustard (l0 : Nat) (M : q_Mem) : Option (Int32 × q_Mem) := (q_gR M l0 12 32 (fun c1 => q_nn c1 (fun r2 => (q_gR M l0 12 33 (fun c3 => q_nn c3 (fun r4 => ((F_X12_copy r2 r4 M).bind (fun x => match x with | (_, M6) => (q_lp (fun s => B_X12_mustard_13 l0 s.1 s.2) q_fu ((0 : Int32), M6)).bind (fun e14 => match e14 with | .inl (w15, M16) => some (w15, M16) | .inr M17 => some ((-1 : Int32), M17))))))))))
set_option maxRecDepth 100000 in
set_option maxHeartbeats 4000000 in
theorem c_X12_mustard (l : Launch) (G : q_G) (l0 : Nat) (M : q_Mem) {r : Int32} {M' : q_Mem} (h : F_X12_mustard l0 M = some (r, M')) : q_Met l G yX12_mustard cX12_mustard 3 (Option.some Jvm.ClassFile.FieldType.int) 133 0 0 [.ref l0] M (some (.int r)) M' := by
  unfold F_X12_mustard at h
  refine q_enter [some (.ref l0), none, none] (by decide) (Nat.le_of_ble_eq_true rfl) rfl (fun K C => ?_)
  refine q_aload_n C dX12_mustard_0 rfl ?_
  refine x_getR (ci := 12) (j := 32) C dX12_mustard_1 lkF_X12_61 rfl h (fun c1 h => ?_)
  refine x_nn h (fun r2 h => ?_)
  refine q_aload_n C dX12_mustard_4 rfl ?_
  refine x_getR (ci := 12) (j := 33) C dX12_mustard_5 lkF_X12_64 rfl h (fun c3 h => ?_)
  refine x_nn h (fun r4 h => ?_)
  obtain ⟨⟨_, M6⟩, e1, h⟩ := q_bind h
  refine x_callSv0 C dX12_mustard_8 lkM_X12_409 mS_X12_copy (c_X12_copy _ _ _ _ _ e1) rfl rfl (Nat.le_of_ble_eq_true rfl) (by decide) (by decide) ?_
  refine x_iconst (v := (0 : Int32)) C dX12_mustard_11 (by decide) ?_
  refine q_istore_n (L' := [some (.ref l0), some (.int (0 : Int32)), none]) C dX12_mustard_12 (by decide) rfl rfl ?_
  obtain ⟨e14, he, h⟩ := q_bind h
  refine q_msk [true, true, false] (lW_X12_mustard_13 C l0 q_fu _ _ _ he (fun w15 M16 hs => ?_) (fun M17 hs => ?_))
  · have hs := hs.symm
    subst hs
    refine q_iload_n C dX12_mustard_43 rfl ?_
    exact q_iret C dX12_mustard_44 rfl (by decide) (by decide) (Option.some.inj h)
  · have hs := hs.symm
    subst hs
    refine x_iconst (v := (-1 : Int32)) C dX12_mustard_51 (by decide) ?_
    exact q_iret C dX12_mustard_52 rfl (by decide) (by decide) (Option.some.inj h)
noncomputable def J_X12_fullest_44_17 (l0 : Nat) (l1 : Int32) (l2 : Int32) (l3 : Int32) (l4 : Int32) (M : q_Mem) : Option ((Int32 × Int32 × Int32 × q_Mem) ⊕ (Int32 × q_Mem)) := (q_gR M l0 12 33 (fun c11 => q_nn c11 (fun r12 => (q_ob M l0 12 ((F_X12_goDay l0 r12 M).bind (fun x => match x with | (u13, M14) => some (.inl (l1, (q_mx l2 l4), (l3 + (1 : Int32)), M14))))))))
set_option maxRecDepth 100000 in
set_option maxHeartbeats 4000000 in
theorem jW_X12_fullest_44_17 {K : q_K} {Q : State → Prop} (C : q_C K yX12_fullest cX12_fullest 6 (Option.some Jvm.ClassFile.FieldType.int) 133 0 0) (l0 : Nat) (l1 : Int32) (l2 : Int32) (l3 : Int32) (l4 : Int32) (M : q_Mem) {stp : (Int32 × Int32 × Int32 × q_Mem) ⊕ (Int32 × q_Mem)} (h : J_X12_fullest_44_17 l0 l1 l2 l3 l4 M = some stp) (kC : ∀ (l1 : Int32) (l2 : Int32) (l3 : Int32) (M : q_Mem), stp = .inl (l1, l2, l3, M) → q_W K 6 Q 0 0 M 17 [some (.ref l0), some (.int l1), some (.int l2), some (.int l3), none, none] []) (kE0 : ∀ (l1 : Int32) (M : q_Mem), stp = .inr (l1, M) → q_W K 6 Q 0 0 M 67 [none, some (.int l1), none, none, none, none] []) : q_W K 6 Q 0 0 M 44 [some (.ref l0), some (.int l1), some (.int l2), some (.int l3), some (.int l4), none] [] := by
  unfold J_X12_fullest_44_17 at h
  refine q_iload_n C dX12_fullest_44 rfl ?_
  refine q_iload C dX12_fullest_45 rfl ?_
  refine q_max C dX12_fullest_47 wd_1599 wd_467 wd_15 wd_468 (by decide) (Nat.le_of_ble_eq_true rfl) (by decide) ?_
  refine q_istore_n (L' := [some (.ref l0), some (.int l1), some (.int (q_mx l2 l4)), some (.int l3), some (.int l4), none]) C dX12_fullest_50 (by decide) rfl rfl ?_
  refine q_aload_n C dX12_fullest_51 rfl ?_
  refine q_aload_n C dX12_fullest_52 rfl ?_
  refine x_getR (ci := 12) (j := 33) C dX12_fullest_53 lkF_X12_64 rfl h (fun c11 h => ?_)
  refine x_nn h (fun r12 h => ?_)
  obtain ⟨hk, h⟩ := q_obE h
  obtain ⟨⟨u13, M14⟩, e1, h⟩ := q_bind h
  refine x_callV0 C dX12_fullest_56 lkM_X12_370 mV_X12_goDay ⟨_, rfl, rfl⟩ hk (c_X12_goDay _ _ _ _ _ e1) rfl rfl (Nat.le_of_ble_eq_true rfl) (by decide) (by decide) ?_
  refine q_istore (L' := [some (.ref l0), some (.int l1), some (.int (q_mx l2 l4)), some (.int l3), some (.int l4), some (.int u13)]) C dX12_fullest_59 (by decide) rfl rfl ?_
  refine x_iinc (w := (1 : Int32)) (L' := [some (.ref l0), some (.int l1), some (.int (q_mx l2 l4)), some (.int (l3 + (1 : Int32))), some (.int l4), some (.int u13)]) C dX12_fullest_61 rfl (by decide) (by decide) rfl rfl ?_
  refine q_goto (tgt := 17) C dX12_fullest_64 (by decide) ?_
  exact q_msk [true, true, true, true, false, false] (kC _ _ _ _ (Option.some.inj h).symm)
noncomputable def B_X12_fullest_17 (l0 : Nat) (l1 : Int32) (l2 : Int32) (l3 : Int32) (M : q_Mem) : Option ((Int32 × Int32 × Int32 × q_Mem) ⊕ (Int32 × q_Mem)) := (if l3 < (20 : Int32) then (q_gR M l0 12 33 (fun c7 => q_nn c7 (fun r8 => (q_ob M l0 12 ((F_X12_thereBits l0 r8 M).bind (fun u9 => ((F_J6_bitCount_0f7a4 u9 M).bind (fun u10 => (if l2 < u10 then J_X12_fullest_44_17 l0 l3 l2 l3 u10 M else J_X12_fullest_44_17 l0 l1 l2 l3 u10 M))))))))) else some (.inr (l1, M)))
set_option maxRecDepth 100000 in
set_option maxHeartbeats 4000000 in
theorem bW_X12_fullest_17 {K : q_K} {Q : State → Prop} (C : q_C K yX12_fullest cX12_fullest 6 (Option.some Jvm.ClassFile.FieldType.int) 133 0 0) (l0 : Nat) (l1 : Int32) (l2 : Int32) (l3 : Int32) (M : q_Mem) {stp : (Int32 × Int32 × Int32 × q_Mem) ⊕ (Int32 × q_Mem)} (h : B_X12_fullest_17 l0 l1 l2 l3 M = some stp) (kC : ∀ (l1 : Int32) (l2 : Int32) (l3 : Int32) (M : q_Mem), stp = .inl (l1, l2, l3, M) → q_W K 6 Q 0 0 M 17 [some (.ref l0), some (.int l1), some (.int l2), some (.int l3), none, none] []) (kE0 : ∀ (l1 : Int32) (M : q_Mem), stp = .inr (l1, M) → q_W K 6 Q 0 0 M 67 [none, some (.int l1), none, none, none, none] []) : q_W K 6 Q 0 0 M 17 [some (.ref l0), some (.int l1), some (.int l2), some (.int l3), none, none] [] := by
  unfold B_X12_fullest_17 at h
  refine q_iload_n C dX12_fullest_17 rfl ?_
  refine x_bipush (v := (20 : Int32)) C dX12_fullest_18 (by decide) ?_
  refine q_icmp_ge (tgt := 67) C dX12_fullest_20 (by decide) h (fun _ h => ?_) (fun _ h => ?_)
  · refine q_aload_n C dX12_fullest_23 rfl ?_
    refine q_aload_n C dX12_fullest_24 rfl ?_
    refine x_getR (ci := 12) (j := 33) C dX12_fullest_25 lkF_X12_64 rfl h (fun c7 h => ?_)
    refine x_nn h (fun r8 h => ?_)
    obtain ⟨hk, h⟩ := q_obE h
    obtain ⟨u9, e1, h⟩ := q_bind h
    refine x_callV0 C dX12_fullest_28 lkM_X12_326 mV_X12_thereBits ⟨_, rfl, rfl⟩ hk (c_X12_thereBits _ _ _ _ _ e1) rfl rfl (Nat.le_of_ble_eq_true rfl) (by decide) (by decide) ?_
    obtain ⟨u10, e1, h⟩ := q_bind h
    refine x_callS0 C dX12_fullest_31 lkM_X12_329 mS_J6_bitCount_0f7a4 (c_J6_bitCount_0f7a4 _ _ _ _ e1) rfl rfl (Nat.le_of_ble_eq_true rfl) (by decide) (by decide) ?_
    refine q_istore (L' := [some (.ref l0), some (.int l1), some (.int l2), some (.int l3), some (.int u10), none]) C dX12_fullest_34 (by decide) rfl rfl ?_
    refine q_iload C dX12_fullest_36 rfl ?_
    refine q_iload_n C dX12_fullest_38 rfl ?_
    refine q_icmp_le (tgt := 44) C dX12_fullest_39 (by decide) h (fun _ h => ?_) (fun _ h => ?_)
    · refine q_iload_n C dX12_fullest_42 rfl ?_
      refine q_istore_n (L' := [some (.ref l0), some (.int l3), some (.int l2), some (.int l3), some (.int u10), none]) C dX12_fullest_43 (by decide) rfl rfl ?_
      exact q_msk [true, true, true, true, true, false] (jW_X12_fullest_44_17 C l0 l3 l2 l3 u10 M h kC kE0)
    · exact q_msk [true, true, true, true, true, false] (jW_X12_fullest_44_17 C l0 l1 l2 l3 u10 M h kC kE0)
  · exact q_msk [false, true, false, false, false, false] (kE0 _ _ (Option.some.inj h).symm)
set_option maxRecDepth 100000 in
set_option maxHeartbeats 4000000 in
theorem lW_X12_fullest_17 {K : q_K} {Q : State → Prop} (C : q_C K yX12_fullest cX12_fullest 6 (Option.some Jvm.ClassFile.FieldType.int) 133 0 0) (l0 : Nat) (n : Nat) : ∀ (l1 : Int32) (l2 : Int32) (l3 : Int32) (M : q_Mem) (e : (Int32 × q_Mem)), q_lp (fun s => B_X12_fullest_17 l0 s.1 s.2.1 s.2.2.1 s.2.2.2) n (l1, l2, l3, M) = some e → (∀ (l1 : Int32) (M : q_Mem), e = (l1, M) → q_W K 6 Q 0 0 M 67 [none, some (.int l1), none, none, none, none] []) → q_W K 6 Q 0 0 M 17 [some (.ref l0), some (.int l1), some (.int l2), some (.int l3), none, none] [] := by
  induction n with
  | zero => intro l1 l2 l3 M e h; cases h
  | succ n ih =>
    intro l1 l2 l3 M e h kE0
    obtain ⟨stp, e1, e2⟩ := q_bind h
    refine bW_X12_fullest_17 C l0 l1 l2 l3 M e1 (fun a0 a1 a2 a3 hs => ?_) (fun b0 b1 hs => ?_)
    · subst hs; exact ih _ _ _ _ _ e2 kE0
    · subst hs; exact kE0 _ _ (Option.some.inj e2).symm
noncomputable def F_X12_fullest (l0 : Nat) (M : q_Mem) : Option (Int32 × q_Mem) := (q_gR M l0 12 32 (fun c1 => q_nn c1 (fun r2 => (q_gR M l0 12 33 (fun c3 => q_nn c3 (fun r4 => ((F_X12_copy r2 r4 M).bind (fun x => match x with | (_, M6) => (q_lp (fun s => B_X12_fullest_17 l0 s.1 s.2.1 s.2.2.1 s.2.2.2) q_fu ((0 : Int32), (0 : Int32), (0 : Int32), M6)).bind (fun e15 => match e15 with | (w16, M17) => some (w16, M17))))))))))
set_option maxRecDepth 100000 in
set_option maxHeartbeats 4000000 in
theorem c_X12_fullest (l : Launch) (G : q_G) (l0 : Nat) (M : q_Mem) {r : Int32} {M' : q_Mem} (h : F_X12_fullest l0 M = some (r, M')) : q_Met l G yX12_fullest cX12_fullest 6 (Option.some Jvm.ClassFile.FieldType.int) 133 0 0 [.ref l0] M (some (.int r)) M' := by
  unfold F_X12_fullest at h
  refine q_enter [some (.ref l0), none, none, none, none, none] (by decide) (Nat.le_of_ble_eq_true rfl) rfl (fun K C => ?_)
  refine q_aload_n C dX12_fullest_0 rfl ?_
  refine x_getR (ci := 12) (j := 32) C dX12_fullest_1 lkF_X12_61 rfl h (fun c1 h => ?_)
  refine x_nn h (fun r2 h => ?_)
  refine q_aload_n C dX12_fullest_4 rfl ?_
  refine x_getR (ci := 12) (j := 33) C dX12_fullest_5 lkF_X12_64 rfl h (fun c3 h => ?_)
  refine x_nn h (fun r4 h => ?_)
  obtain ⟨⟨_, M6⟩, e1, h⟩ := q_bind h
  refine x_callSv0 C dX12_fullest_8 lkM_X12_409 mS_X12_copy (c_X12_copy _ _ _ _ _ e1) rfl rfl (Nat.le_of_ble_eq_true rfl) (by decide) (by decide) ?_
  refine x_iconst (v := (0 : Int32)) C dX12_fullest_11 (by decide) ?_
  refine q_istore_n (L' := [some (.ref l0), some (.int (0 : Int32)), none, none, none, none]) C dX12_fullest_12 (by decide) rfl rfl ?_
  refine x_iconst (v := (0 : Int32)) C dX12_fullest_13 (by decide) ?_
  refine q_istore_n (L' := [some (.ref l0), some (.int (0 : Int32)), some (.int (0 : Int32)), none, none, none]) C dX12_fullest_14 (by decide) rfl rfl ?_
  refine x_iconst (v := (0 : Int32)) C dX12_fullest_15 (by decide) ?_
  refine q_istore_n (L' := [some (.ref l0), some (.int (0 : Int32)), some (.int (0 : Int32)), some (.int (0 : Int32)), none, none]) C dX12_fullest_16 (by decide) rfl rfl ?_
  obtain ⟨e15, he, h⟩ := q_bind h
  refine q_msk [true, true, true, true, false, false] (lW_X12_fullest_17 C l0 q_fu _ _ _ _ _ he (fun w16 M17 hs => ?_))
  · have hs := hs.symm
    subst hs
    refine q_iload_n C dX12_fullest_67 rfl ?_
    exact q_iret C dX12_fullest_68 rfl (by decide) (by decide) (Option.some.inj h)
noncomputable def J_X12_all_80 (l0 : Nat) (l1 : Int32) (M : q_Mem) : Option (Int32 × q_Mem) := (q_ob M l0 12 ((F_X12_greatest l0 l1 M).bind (fun u3 => some (u3, M))))
set_option maxRecDepth 100000 in
set_option maxHeartbeats 4000000 in
theorem jW_X12_all_80 {K : q_K} (C : q_C K yX12_all cX12_all 2 (Option.some Jvm.ClassFile.FieldType.int) 135 0 0) (l0 : Nat) (l1 : Int32) (M : q_Mem) {r : Int32} {M' : q_Mem} (h : J_X12_all_80 l0 l1 M = some (r, M')) : q_W K 2 (q_Q K (some (.int r)) M' 0 0) 0 0 M 80 [some (.ref l0), some (.int l1)] [] := by
  unfold J_X12_all_80 at h
  refine q_aload_n C dX12_all_80 rfl ?_
  refine q_iload_n C dX12_all_81 rfl ?_
  obtain ⟨hk, h⟩ := q_obE h
  obtain ⟨u3, e1, h⟩ := q_bind h
  refine x_callV0 C dX12_all_82 lkM_X12_462 mV_X12_greatest ⟨_, rfl, rfl⟩ hk (c_X12_greatest _ _ _ _ _ e1) rfl rfl (Nat.le_of_ble_eq_true rfl) (by decide) (by decide) ?_
  exact q_iret C dX12_all_85 rfl (by decide) (by decide) (Option.some.inj h)
noncomputable def J_X12_all_86 (l0 : Nat) (l1 : Int32) (M : q_Mem) : Option (Int32 × q_Mem) := (q_ob M l0 12 ((F_X12_ofDish l0 l1 M).bind (fun u4 => some (u4, M))))
set_option maxRecDepth 100000 in
set_option maxHeartbeats 4000000 in
theorem jW_X12_all_86 {K : q_K} (C : q_C K yX12_all cX12_all 2 (Option.some Jvm.ClassFile.FieldType.int) 135 0 0) (l0 : Nat) (l1 : Int32) (M : q_Mem) {r : Int32} {M' : q_Mem} (h : J_X12_all_86 l0 l1 M = some (r, M')) : q_W K 2 (q_Q K (some (.int r)) M' 0 0) 0 0 M 86 [some (.ref l0), some (.int l1)] [] := by
  unfold J_X12_all_86 at h
  refine q_aload_n C dX12_all_86 rfl ?_
  refine q_iload_n C dX12_all_87 rfl ?_
  obtain ⟨hk, h⟩ := q_obE h
  obtain ⟨u4, e1, h⟩ := q_bind h
  refine x_callV0 C dX12_all_88 lkM_X12_465 mV_X12_ofDish ⟨_, rfl, rfl⟩ hk (c_X12_ofDish _ _ _ _ _ e1) rfl rfl (Nat.le_of_ble_eq_true rfl) (by decide) (by decide) ?_
  exact q_iret C dX12_all_91 rfl (by decide) (by decide) (Option.some.inj h)
noncomputable def F_X12_all (l0 : Nat) (l1 : Int32) (M : q_Mem) : Option (Int32 × q_Mem) := (q_pI M l0 12 0 (0 : Int32) (fun M1 => (q_gI M1 l0 12 27 (fun v2 => (if v2 = 0 then some ((-1 : Int32), M1) else (if l1 = (0 : Int32) then J_X12_all_80 l0 l1 M1 else (if l1 = (1 : Int32) then J_X12_all_80 l0 l1 M1 else (if l1 = (2 : Int32) then J_X12_all_80 l0 l1 M1 else (if l1 = (3 : Int32) then J_X12_all_86 l0 l1 M1 else (if l1 = (4 : Int32) then J_X12_all_86 l0 l1 M1 else (if l1 = (5 : Int32) then J_X12_all_86 l0 l1 M1 else (if l1 = (6 : Int32) then (q_ob M1 l0 12 ((F_X12_tableNow l0 M1).bind (fun x => match x with | (_, M6) => (q_gI M6 l0 12 40 (fun v7 => some (v7, M6)))))) else (if l1 = (7 : Int32) then (q_ob M1 l0 12 ((F_X12_last l0 M1).bind (fun u8 => some (u8, M1)))) else (if l1 = (8 : Int32) then (q_ob M1 l0 12 ((F_X12_takes_ l0 M1).bind (fun u9 => some (u9, M1)))) else (if l1 = (9 : Int32) then (q_gR M1 l0 12 32 (fun c10 => q_nn c10 (fun r11 => (q_ob M1 l0 12 ((F_X12_cooks l0 r11 M1).bind (fun u12 => some (u12, M1))))))) else (if l1 = (10 : Int32) then (q_ob M1 l0 12 ((F_X12_tableNow l0 M1).bind (fun x => match x with | (_, M14) => (q_gR M14 l0 12 32 (fun c15 => q_nn c15 (fun r16 => (q_ob M14 l0 12 ((F_X12_thereBits l0 r16 M14).bind (fun u17 => (q_ob M14 l0 12 ((F_X12_fedBits l0 M14).bind (fun u18 => some ((u17 &&& (u18 ^^^ (-1 : Int32))), M14))))))))))))) else (if l1 = (11 : Int32) then (q_ob M1 l0 12 ((F_X12_mustard l0 M1).bind (fun x => match x with | (u19, M20) => some (u19, M20)))) else (if l1 = (12 : Int32) then (q_ob M1 l0 12 ((F_X12_fullest l0 M1).bind (fun x => match x with | (u21, M22) => some (u21, M22)))) else some ((-1 : Int32), M1)))))))))))))))))))
set_option maxRecDepth 100000 in
set_option maxHeartbeats 4000000 in
theorem c_X12_all (l : Launch) (G : q_G) (l0 : Nat) (l1 : Int32) (M : q_Mem) {r : Int32} {M' : q_Mem} (h : F_X12_all l0 l1 M = some (r, M')) : q_Met l G yX12_all cX12_all 2 (Option.some Jvm.ClassFile.FieldType.int) 135 0 0 [.ref l0, .int l1] M (some (.int r)) M' := by
  unfold F_X12_all at h
  refine q_enter [some (.ref l0), some (.int l1)] (by decide) (Nat.le_of_ble_eq_true rfl) rfl (fun K C => ?_)
  refine q_aload_n C dX12_all_0 rfl ?_
  refine x_iconst (v := (0 : Int32)) C dX12_all_1 (by decide) ?_
  refine x_putI (ci := 12) (j := 0) C dX12_all_2 lkF_X12_92 (fun r hr => by cases hr; rfl) rfl h (fun M1 h => ?_)
  refine q_aload_n C dX12_all_5 rfl ?_
  refine x_getI (ci := 12) (j := 27) C dX12_all_6 lkF_X12_287 rfl h (fun v2 h => ?_)
  refine q_if_ne (tgt := 14) C dX12_all_9 (by decide) h (fun _ h => ?_) (fun _ h => ?_)
  · refine x_iconst (v := (-1 : Int32)) C dX12_all_12 (by decide) ?_
    exact q_iret C dX12_all_13 rfl (by decide) (by decide) (Option.some.inj h)
  · refine q_iload_n C dX12_all_14 rfl ?_
    by_cases hs15_0 : l1 = (0 : Int32)
    · have h := q_iteT h hs15_0
      refine q_tsIn (tgt := 80) C dX12_all_15 hs15_0 (by decide) (by decide) rfl (by decide) ?_
      exact q_msk [true, true] (jW_X12_all_80 C l0 l1 M1 h)
    have h := q_iteF h hs15_0
    by_cases hs15_1 : l1 = (1 : Int32)
    · have h := q_iteT h hs15_1
      refine q_tsIn (tgt := 80) C dX12_all_15 hs15_1 (by decide) (by decide) rfl (by decide) ?_
      exact q_msk [true, true] (jW_X12_all_80 C l0 l1 M1 h)
    have h := q_iteF h hs15_1
    by_cases hs15_2 : l1 = (2 : Int32)
    · have h := q_iteT h hs15_2
      refine q_tsIn (tgt := 80) C dX12_all_15 hs15_2 (by decide) (by decide) rfl (by decide) ?_
      exact q_msk [true, true] (jW_X12_all_80 C l0 l1 M1 h)
    have h := q_iteF h hs15_2
    by_cases hs15_3 : l1 = (3 : Int32)
    · have h := q_iteT h hs15_3
      refine q_tsIn (tgt := 86) C dX12_all_15 hs15_3 (by decide) (by decide) rfl (by decide) ?_
      exact q_msk [true, true] (jW_X12_all_86 C l0 l1 M1 h)
    have h := q_iteF h hs15_3
    by_cases hs15_4 : l1 = (4 : Int32)
    · have h := q_iteT h hs15_4
      refine q_tsIn (tgt := 86) C dX12_all_15 hs15_4 (by decide) (by decide) rfl (by decide) ?_
      exact q_msk [true, true] (jW_X12_all_86 C l0 l1 M1 h)
    have h := q_iteF h hs15_4
    by_cases hs15_5 : l1 = (5 : Int32)
    · have h := q_iteT h hs15_5
      refine q_tsIn (tgt := 86) C dX12_all_15 hs15_5 (by decide) (by decide) rfl (by decide) ?_
      exact q_msk [true, true] (jW_X12_all_86 C l0 l1 M1 h)
    have h := q_iteF h hs15_5
    by_cases hs15_6 : l1 = (6 : Int32)
    · have h := q_iteT h hs15_6
      refine q_tsIn (tgt := 92) C dX12_all_15 hs15_6 (by decide) (by decide) rfl (by decide) ?_
      refine q_aload_n C dX12_all_92 rfl ?_
      obtain ⟨hk, h⟩ := q_obE h
      obtain ⟨⟨_, M6⟩, e1, h⟩ := q_bind h
      refine x_callVv0 C dX12_all_93 lkM_X12_425 mV_X12_tableNow ⟨_, rfl, rfl⟩ hk (c_X12_tableNow _ _ _ _ e1) rfl rfl (Nat.le_of_ble_eq_true rfl) (by decide) (by decide) ?_
      refine q_aload_n C dX12_all_96 rfl ?_
      refine x_getI (ci := 12) (j := 40) C dX12_all_97 lkF_X12_338 rfl h (fun v7 h => ?_)
      exact q_iret C dX12_all_100 rfl (by decide) (by decide) (Option.some.inj h)
    have h := q_iteF h hs15_6
    by_cases hs15_7 : l1 = (7 : Int32)
    · have h := q_iteT h hs15_7
      refine q_tsIn (tgt := 101) C dX12_all_15 hs15_7 (by decide) (by decide) rfl (by decide) ?_
      refine q_aload_n C dX12_all_101 rfl ?_
      obtain ⟨hk, h⟩ := q_obE h
      obtain ⟨u8, e1, h⟩ := q_bind h
      refine x_callV0 C dX12_all_102 lkM_X12_468 mV_X12_last ⟨_, rfl, rfl⟩ hk (c_X12_last _ _ _ _ e1) rfl rfl (Nat.le_of_ble_eq_true rfl) (by decide) (by decide) ?_
      exact q_iret C dX12_all_105 rfl (by decide) (by decide) (Option.some.inj h)
    have h := q_iteF h hs15_7
    by_cases hs15_8 : l1 = (8 : Int32)
    · have h := q_iteT h hs15_8
      refine q_tsIn (tgt := 106) C dX12_all_15 hs15_8 (by decide) (by decide) rfl (by decide) ?_
      refine q_aload_n C dX12_all_106 rfl ?_
      obtain ⟨hk, h⟩ := q_obE h
      obtain ⟨u9, e1, h⟩ := q_bind h
      refine x_callV0 C dX12_all_107 lkM_X12_471 mV_X12_takes_ ⟨_, rfl, rfl⟩ hk (c_X12_takes_ _ _ _ _ e1) rfl rfl (Nat.le_of_ble_eq_true rfl) (by decide) (by decide) ?_
      exact q_iret C dX12_all_110 rfl (by decide) (by decide) (Option.some.inj h)
    have h := q_iteF h hs15_8
    by_cases hs15_9 : l1 = (9 : Int32)
    · have h := q_iteT h hs15_9
      refine q_tsIn (tgt := 111) C dX12_all_15 hs15_9 (by decide) (by decide) rfl (by decide) ?_
      refine q_aload_n C dX12_all_111 rfl ?_
      refine q_aload_n C dX12_all_112 rfl ?_
      refine x_getR (ci := 12) (j := 32) C dX12_all_113 lkF_X12_61 rfl h (fun c10 h => ?_)
      refine x_nn h (fun r11 h => ?_)
      obtain ⟨hk, h⟩ := q_obE h
      obtain ⟨u12, e1, h⟩ := q_bind h
      refine x_callV0 C dX12_all_116 lkM_X12_322 mV_X12_cooks ⟨_, rfl, rfl⟩ hk (c_X12_cooks _ _ _ _ _ e1) rfl rfl (Nat.le_of_ble_eq_true rfl) (by decide) (by decide) ?_
      exact q_iret C dX12_all_119 rfl (by decide) (by decide) (Option.some.inj h)
    have h := q_iteF h hs15_9
    by_cases hs15_10 : l1 = (10 : Int32)
    · have h := q_iteT h hs15_10
      refine q_tsIn (tgt := 120) C dX12_all_15 hs15_10 (by decide) (by decide) rfl (by decide) ?_
      refine q_aload_n C dX12_all_120 rfl ?_
      obtain ⟨hk, h⟩ := q_obE h
      obtain ⟨⟨_, M14⟩, e1, h⟩ := q_bind h
      refine x_callVv0 C dX12_all_121 lkM_X12_425 mV_X12_tableNow ⟨_, rfl, rfl⟩ hk (c_X12_tableNow _ _ _ _ e1) rfl rfl (Nat.le_of_ble_eq_true rfl) (by decide) (by decide) ?_
      refine q_aload_n C dX12_all_124 rfl ?_
      refine q_aload_n C dX12_all_125 rfl ?_
      refine x_getR (ci := 12) (j := 32) C dX12_all_126 lkF_X12_61 rfl h (fun c15 h => ?_)
      refine x_nn h (fun r16 h => ?_)
      obtain ⟨hk, h⟩ := q_obE h
      obtain ⟨u17, e1, h⟩ := q_bind h
      refine x_callV0 C dX12_all_129 lkM_X12_326 mV_X12_thereBits ⟨_, rfl, rfl⟩ hk (c_X12_thereBits _ _ _ _ _ e1) rfl rfl (Nat.le_of_ble_eq_true rfl) (by decide) (by decide) ?_
      refine q_aload_n C dX12_all_132 rfl ?_
      obtain ⟨hk, h⟩ := q_obE h
      obtain ⟨u18, e1, h⟩ := q_bind h
      refine x_callV0 C dX12_all_133 lkM_X12_351 mV_X12_fedBits ⟨_, rfl, rfl⟩ hk (c_X12_fedBits _ _ _ _ e1) rfl rfl (Nat.le_of_ble_eq_true rfl) (by decide) (by decide) ?_
      refine x_iconst (v := (-1 : Int32)) C dX12_all_136 (by decide) ?_
      refine q_ixor C dX12_all_137 ?_
      refine q_iand C dX12_all_138 ?_
      exact q_iret C dX12_all_139 rfl (by decide) (by decide) (Option.some.inj h)
    have h := q_iteF h hs15_10
    by_cases hs15_11 : l1 = (11 : Int32)
    · have h := q_iteT h hs15_11
      refine q_tsIn (tgt := 140) C dX12_all_15 hs15_11 (by decide) (by decide) rfl (by decide) ?_
      refine q_aload_n C dX12_all_140 rfl ?_
      obtain ⟨hk, h⟩ := q_obE h
      obtain ⟨⟨u19, M20⟩, e1, h⟩ := q_bind h
      refine x_callV0 C dX12_all_141 lkM_X12_473 mV_X12_mustard ⟨_, rfl, rfl⟩ hk (c_X12_mustard _ _ _ _ e1) rfl rfl (Nat.le_of_ble_eq_true rfl) (by decide) (by decide) ?_
      exact q_iret C dX12_all_144 rfl (by decide) (by decide) (Option.some.inj h)
    have h := q_iteF h hs15_11
    by_cases hs15_12 : l1 = (12 : Int32)
    · have h := q_iteT h hs15_12
      refine q_tsIn (tgt := 145) C dX12_all_15 hs15_12 (by decide) (by decide) rfl (by decide) ?_
      refine q_aload_n C dX12_all_145 rfl ?_
      obtain ⟨hk, h⟩ := q_obE h
      obtain ⟨⟨u21, M22⟩, e1, h⟩ := q_bind h
      refine x_callV0 C dX12_all_146 lkM_X12_476 mV_X12_fullest ⟨_, rfl, rfl⟩ hk (c_X12_fullest _ _ _ _ e1) rfl rfl (Nat.le_of_ble_eq_true rfl) (by decide) (by decide) ?_
      exact q_iret C dX12_all_149 rfl (by decide) (by decide) (Option.some.inj h)
    have h := q_iteF h hs15_12
    have ho15 : (l1 : Int32).toInt < 0 ∨ 12 < (l1 : Int32).toInt := by
      have z0 := lv_neT (a := 0) hs15_0 (by decide)
      have z1 := lv_neT (a := 1) hs15_1 (by decide)
      have z2 := lv_neT (a := 2) hs15_2 (by decide)
      have z3 := lv_neT (a := 3) hs15_3 (by decide)
      have z4 := lv_neT (a := 4) hs15_4 (by decide)
      have z5 := lv_neT (a := 5) hs15_5 (by decide)
      have z6 := lv_neT (a := 6) hs15_6 (by decide)
      have z7 := lv_neT (a := 7) hs15_7 (by decide)
      have z8 := lv_neT (a := 8) hs15_8 (by decide)
      have z9 := lv_neT (a := 9) hs15_9 (by decide)
      have z10 := lv_neT (a := 10) hs15_10 (by decide)
      have z11 := lv_neT (a := 11) hs15_11 (by decide)
      have z12 := lv_neT (a := 12) hs15_12 (by decide)
      omega
    refine q_tsOut (tgt := 150) C dX12_all_15 ho15 (by decide) ?_
    refine x_iconst (v := (-1 : Int32)) C dX12_all_150 (by decide) ?_
    exact q_iret C dX12_all_151 rfl (by decide) (by decide) (Option.some.inj h)
noncomputable def J_X12_kinds_55_30 (l0 : Nat) (l1 : Int32) (l3 : Int32) (s0 : Int32) (s1 : Int32) (M : q_Mem) : Option ((Int32 × Int32) ⊕ (Int32)) := some (.inl ((s0 ||| s1), (l3 + (1 : Int32))))
set_option maxRecDepth 100000 in
set_option maxHeartbeats 4000000 in
theorem jW_X12_kinds_55_30 {K : q_K} {Q : State → Prop} (C : q_C K yX12_kinds cX12_kinds 4 (Option.some Jvm.ClassFile.FieldType.int) 2 0 0) (l0 : Nat) (l1 : Int32) (l3 : Int32) (s0 : Int32) (s1 : Int32) (M : q_Mem) {stp : (Int32 × Int32) ⊕ (Int32)} (h : J_X12_kinds_55_30 l0 l1 l3 s0 s1 M = some stp) (kC : ∀ (l2 : Int32) (l3 : Int32), stp = .inl (l2, l3) → q_W K 4 Q 0 0 M 30 [some (.ref l0), some (.int l1), some (.int l2), some (.int l3)] []) (kE0 : ∀ (l2 : Int32), stp = .inr l2 → q_W K 4 Q 0 0 M 63 [none, none, some (.int l2), none] []) : q_W K 4 Q 0 0 M 55 [some (.ref l0), some (.int l1), none, some (.int l3)] [.int s1, .int s0] := by
  unfold J_X12_kinds_55_30 at h
  refine q_ior C dX12_kinds_55 ?_
  refine q_istore_n (L' := [some (.ref l0), some (.int l1), some (.int (s0 ||| s1)), some (.int l3)]) C dX12_kinds_56 (by decide) rfl rfl ?_
  refine x_iinc (w := (1 : Int32)) (L' := [some (.ref l0), some (.int l1), some (.int (s0 ||| s1)), some (.int (l3 + (1 : Int32)))]) C dX12_kinds_57 rfl (by decide) (by decide) rfl rfl ?_
  refine q_goto (tgt := 30) C dX12_kinds_60 (by decide) ?_
  exact q_msk [true, true, true, true] (kC _ _ (Option.some.inj h).symm)
noncomputable def B_X12_kinds_30 (l0 : Nat) (l1 : Int32) (l2 : Int32) (l3 : Int32) (M : q_Mem) : Option ((Int32 × Int32) ⊕ (Int32)) := (q_gI M l0 12 26 (fun v4 => (if l3 < v4 then (q_ob M l0 12 ((F_X12_kindOf l0 l3 M).bind (fun u5 => (if u5 = l1 then J_X12_kinds_55_30 l0 l1 l3 l2 ((1 : Int32) <<< (l3 &&& 31)) M else J_X12_kinds_55_30 l0 l1 l3 l2 (0 : Int32) M)))) else some (.inr l2))))
set_option maxRecDepth 100000 in
set_option maxHeartbeats 4000000 in
theorem bW_X12_kinds_30 {K : q_K} {Q : State → Prop} (C : q_C K yX12_kinds cX12_kinds 4 (Option.some Jvm.ClassFile.FieldType.int) 2 0 0) (l0 : Nat) (l1 : Int32) (l2 : Int32) (l3 : Int32) (M : q_Mem) {stp : (Int32 × Int32) ⊕ (Int32)} (h : B_X12_kinds_30 l0 l1 l2 l3 M = some stp) (kC : ∀ (l2 : Int32) (l3 : Int32), stp = .inl (l2, l3) → q_W K 4 Q 0 0 M 30 [some (.ref l0), some (.int l1), some (.int l2), some (.int l3)] []) (kE0 : ∀ (l2 : Int32), stp = .inr l2 → q_W K 4 Q 0 0 M 63 [none, none, some (.int l2), none] []) : q_W K 4 Q 0 0 M 30 [some (.ref l0), some (.int l1), some (.int l2), some (.int l3)] [] := by
  unfold B_X12_kinds_30 at h
  refine q_iload_n C dX12_kinds_30 rfl ?_
  refine q_aload_n C dX12_kinds_31 rfl ?_
  refine x_getI (ci := 12) (j := 26) C dX12_kinds_32 lkF_X12_284 rfl h (fun v4 h => ?_)
  refine q_icmp_ge (tgt := 63) C dX12_kinds_35 (by decide) h (fun _ h => ?_) (fun _ h => ?_)
  · refine q_iload_n C dX12_kinds_38 rfl ?_
    refine q_aload_n C dX12_kinds_39 rfl ?_
    refine q_iload_n C dX12_kinds_40 rfl ?_
    obtain ⟨hk, h⟩ := q_obE h
    obtain ⟨u5, e1, h⟩ := q_bind h
    refine x_callV0 C dX12_kinds_41 lkM_X12_344 mV_X12_kindOf ⟨_, rfl, rfl⟩ hk (c_X12_kindOf _ _ _ _ _ e1) rfl rfl (Nat.le_of_ble_eq_true rfl) (by decide) (by decide) ?_
    refine q_iload_n C dX12_kinds_44 rfl ?_
    refine q_icmp_ne (tgt := 54) C dX12_kinds_45 (by decide) h (fun _ h => ?_) (fun _ h => ?_)
    · refine x_iconst (v := (1 : Int32)) C dX12_kinds_48 (by decide) ?_
      refine q_iload_n C dX12_kinds_49 rfl ?_
      refine q_ishl C dX12_kinds_50 ?_
      refine q_goto (tgt := 55) C dX12_kinds_51 (by decide) ?_
      exact q_msk [true, true, false, true] (jW_X12_kinds_55_30 C l0 l1 l3 l2 ((1 : Int32) <<< (l3 &&& 31)) M h kC kE0)
    · refine x_iconst (v := (0 : Int32)) C dX12_kinds_54 (by decide) ?_
      exact q_msk [true, true, false, true] (jW_X12_kinds_55_30 C l0 l1 l3 l2 (0 : Int32) M h kC kE0)
  · exact q_msk [false, false, true, false] (kE0 _ (Option.some.inj h).symm)
set_option maxRecDepth 100000 in
set_option maxHeartbeats 4000000 in
theorem lW_X12_kinds_30 {K : q_K} {Q : State → Prop} (C : q_C K yX12_kinds cX12_kinds 4 (Option.some Jvm.ClassFile.FieldType.int) 2 0 0) (l0 : Nat) (l1 : Int32) (M : q_Mem) (n : Nat) : ∀ (l2 : Int32) (l3 : Int32) (e : (Int32)), q_lp (fun s => B_X12_kinds_30 l0 l1 s.1 s.2 M) n (l2, l3) = some e → (∀ (l2 : Int32), e = l2 → q_W K 4 Q 0 0 M 63 [none, none, some (.int l2), none] []) → q_W K 4 Q 0 0 M 30 [some (.ref l0), some (.int l1), some (.int l2), some (.int l3)] [] := by
  induction n with
  | zero => intro l2 l3 e h; cases h
  | succ n ih =>
    intro l2 l3 e h kE0
    obtain ⟨stp, e1, e2⟩ := q_bind h
    refine bW_X12_kinds_30 C l0 l1 l2 l3 M e1 (fun a0 a1 hs => ?_) (fun b0 hs => ?_)
    · subst hs; exact ih _ _ _ e2 kE0
    · subst hs; exact kE0 _ (Option.some.inj e2).symm
noncomputable def F_X12_kinds (l0 : Nat) (l1 : Int32) (M : q_Mem) : Option (Int32 × q_Mem) := (q_pI M l0 12 0 (0 : Int32) (fun M1 => (q_gI M1 l0 12 27 (fun v2 => (if v2 = 0 then some ((-1 : Int32), M1) else ((F_X12_isIn l1.toInt64 (0 : Int64) (3 : Int64) M1).bind (fun u3 => (if u3 = 0 then some ((-1 : Int32), M1) else (q_lp (fun s => B_X12_kinds_30 l0 l1 s.1 s.2 M1) q_fu ((0 : Int32), (0 : Int32))).bind (fun e6 => match e6 with | w7 => some (w7, M1))))))))))
set_option maxRecDepth 100000 in
set_option maxHeartbeats 4000000 in
theorem c_X12_kinds (l : Launch) (G : q_G) (l0 : Nat) (l1 : Int32) (M : q_Mem) {r : Int32} {M' : q_Mem} (h : F_X12_kinds l0 l1 M = some (r, M')) : q_Met l G yX12_kinds cX12_kinds 4 (Option.some Jvm.ClassFile.FieldType.int) 2 0 0 [.ref l0, .int l1] M (some (.int r)) M' := by
  unfold F_X12_kinds at h
  refine q_enter [some (.ref l0), some (.int l1), none, none] (by decide) (Nat.le_of_ble_eq_true rfl) rfl (fun K C => ?_)
  refine q_aload_n C dX12_kinds_0 rfl ?_
  refine x_iconst (v := (0 : Int32)) C dX12_kinds_1 (by decide) ?_
  refine x_putI (ci := 12) (j := 0) C dX12_kinds_2 lkF_X12_92 (fun r hr => by cases hr; rfl) rfl h (fun M1 h => ?_)
  refine q_aload_n C dX12_kinds_5 rfl ?_
  refine x_getI (ci := 12) (j := 27) C dX12_kinds_6 lkF_X12_287 rfl h (fun v2 h => ?_)
  refine q_if_eq (tgt := 24) C dX12_kinds_9 (by decide) h (fun _ h => ?_) (fun _ h => ?_)
  · refine x_iconst (v := (-1 : Int32)) C dX12_kinds_24 (by decide) ?_
    exact q_iret C dX12_kinds_25 rfl (by decide) (by decide) (Option.some.inj h)
  · refine q_iload_n C dX12_kinds_12 rfl ?_
    refine q_i2l C dX12_kinds_13 ?_
    refine x_lconst (v := (0 : Int64)) C dX12_kinds_14 (by decide) ?_
    refine q_ldc2 (v := (3 : Int64)) C dX12_kinds_15 wd_1654 ?_
    obtain ⟨u3, e1, h⟩ := q_bind h
    refine x_callS0 C dX12_kinds_18 lkM_X12_213 mS_X12_isIn (c_X12_isIn _ _ _ _ _ _ e1) rfl rfl (Nat.le_of_ble_eq_true rfl) (by decide) (by decide) ?_
    refine q_if_ne (tgt := 26) C dX12_kinds_21 (by decide) h (fun _ h => ?_) (fun _ h => ?_)
    · refine x_iconst (v := (-1 : Int32)) C dX12_kinds_24 (by decide) ?_
      exact q_iret C dX12_kinds_25 rfl (by decide) (by decide) (Option.some.inj h)
    · refine x_iconst (v := (0 : Int32)) C dX12_kinds_26 (by decide) ?_
      refine q_istore_n (L' := [some (.ref l0), some (.int l1), some (.int (0 : Int32)), none]) C dX12_kinds_27 (by decide) rfl rfl ?_
      refine x_iconst (v := (0 : Int32)) C dX12_kinds_28 (by decide) ?_
      refine q_istore_n (L' := [some (.ref l0), some (.int l1), some (.int (0 : Int32)), some (.int (0 : Int32))]) C dX12_kinds_29 (by decide) rfl rfl ?_
      obtain ⟨e6, he, h⟩ := q_bind h
      refine q_msk [true, true, true, true] (lW_X12_kinds_30 C l0 l1 M1 q_fu _ _ _ he (fun w7 hs => ?_))
      · have hs := hs.symm
        subst hs
        refine q_iload_n C dX12_kinds_63 rfl ?_
        exact q_iret C dX12_kinds_64 rfl (by decide) (by decide) (Option.some.inj h)
noncomputable def F_X12_staying (l0 : Nat) (l1 : Int32) (M : q_Mem) : Option (Int32 × q_Mem) := (q_pI M l0 12 0 (0 : Int32) (fun M1 => (q_ob M1 l0 12 ((F_X12_isGuest l0 l1 M1).bind (fun u2 => (if u2 = 0 then some ((-1 : Int32), M1) else (q_gR M1 l0 12 32 (fun c3 => q_nn c3 (fun r4 => (q_lI M1 0 r4 (((4 : Int32) * l1) + (3 : Int32)) (fun v5 => (if v5 = (1 : Int32) then some ((0 : Int32), M1) else (q_ob M1 l0 12 ((F_X12_comes l0 l1 M1).bind (fun u6 => (q_gR M1 l0 12 32 (fun c7 => q_nn c7 (fun r8 => (q_lI M1 0 r8 (((4 : Int32) * l1) + (0 : Int32)) (fun v9 => (q_ob M1 l0 12 ((F_X12_comes l0 l1 M1).bind (fun u10 => (q_gR M1 l0 12 32 (fun c11 => q_nn c11 (fun r12 => (q_lI M1 0 r12 (35 : Int32) (fun v13 => some ((q_mx (0 : Int32) ((u6 + v9) - (q_mx u10 v13))), M1)))))))))))))))))))))))))))))
set_option maxRecDepth 100000 in
set_option maxHeartbeats 4000000 in
theorem c_X12_staying (l : Launch) (G : q_G) (l0 : Nat) (l1 : Int32) (M : q_Mem) {r : Int32} {M' : q_Mem} (h : F_X12_staying l0 l1 M = some (r, M')) : q_Met l G yX12_staying cX12_staying 2 (Option.some Jvm.ClassFile.FieldType.int) 2 0 0 [.ref l0, .int l1] M (some (.int r)) M' := by
  unfold F_X12_staying at h
  refine q_enter [some (.ref l0), some (.int l1)] (by decide) (Nat.le_of_ble_eq_true rfl) rfl (fun K C => ?_)
  refine q_aload_n C dX12_staying_0 rfl ?_
  refine x_iconst (v := (0 : Int32)) C dX12_staying_1 (by decide) ?_
  refine x_putI (ci := 12) (j := 0) C dX12_staying_2 lkF_X12_92 (fun r hr => by cases hr; rfl) rfl h (fun M1 h => ?_)
  refine q_aload_n C dX12_staying_5 rfl ?_
  refine q_iload_n C dX12_staying_6 rfl ?_
  obtain ⟨hk, h⟩ := q_obE h
  obtain ⟨u2, e1, h⟩ := q_bind h
  refine x_callV0 C dX12_staying_7 lkM_X12_360 mV_X12_isGuest ⟨_, rfl, rfl⟩ hk (c_X12_isGuest _ _ _ _ _ e1) rfl rfl (Nat.le_of_ble_eq_true rfl) (by decide) (by decide) ?_
  refine q_if_ne (tgt := 15) C dX12_staying_10 (by decide) h (fun _ h => ?_) (fun _ h => ?_)
  · refine x_iconst (v := (-1 : Int32)) C dX12_staying_13 (by decide) ?_
    exact q_iret C dX12_staying_14 rfl (by decide) (by decide) (Option.some.inj h)
  · refine q_aload_n C dX12_staying_15 rfl ?_
    refine x_getR (ci := 12) (j := 32) C dX12_staying_16 lkF_X12_61 rfl h (fun c3 h => ?_)
    refine x_nn h (fun r4 h => ?_)
    refine x_iconst (v := (4 : Int32)) C dX12_staying_19 (by decide) ?_
    refine q_iload_n C dX12_staying_20 rfl ?_
    refine q_imul C dX12_staying_21 ?_
    refine x_iconst (v := (3 : Int32)) C dX12_staying_22 (by decide) ?_
    refine q_iadd C dX12_staying_23 ?_
    refine x_iald C dX12_staying_24 h (fun v5 h => ?_)
    refine x_iconst (v := (1 : Int32)) C dX12_staying_25 (by decide) ?_
    refine q_icmp_ne (tgt := 31) C dX12_staying_26 (by decide) h (fun _ h => ?_) (fun _ h => ?_)
    · refine x_iconst (v := (0 : Int32)) C dX12_staying_29 (by decide) ?_
      exact q_iret C dX12_staying_30 rfl (by decide) (by decide) (Option.some.inj h)
    · refine x_iconst (v := (0 : Int32)) C dX12_staying_31 (by decide) ?_
      refine q_aload_n C dX12_staying_32 rfl ?_
      refine q_iload_n C dX12_staying_33 rfl ?_
      obtain ⟨hk, h⟩ := q_obE h
      obtain ⟨u6, e1, h⟩ := q_bind h
      refine x_callV0 C dX12_staying_34 lkM_X12_299 mV_X12_comes ⟨_, rfl, rfl⟩ hk (c_X12_comes _ _ _ _ _ e1) rfl rfl (Nat.le_of_ble_eq_true rfl) (by decide) (by decide) ?_
      refine q_aload_n C dX12_staying_37 rfl ?_
      refine x_getR (ci := 12) (j := 32) C dX12_staying_38 lkF_X12_61 rfl h (fun c7 h => ?_)
      refine x_nn h (fun r8 h => ?_)
      refine x_iconst (v := (4 : Int32)) C dX12_staying_41 (by decide) ?_
      refine q_iload_n C dX12_staying_42 rfl ?_
      refine q_imul C dX12_staying_43 ?_
      refine x_iconst (v := (0 : Int32)) C dX12_staying_44 (by decide) ?_
      refine q_iadd C dX12_staying_45 ?_
      refine x_iald C dX12_staying_46 h (fun v9 h => ?_)
      refine q_iadd C dX12_staying_47 ?_
      refine q_aload_n C dX12_staying_48 rfl ?_
      refine q_iload_n C dX12_staying_49 rfl ?_
      obtain ⟨hk, h⟩ := q_obE h
      obtain ⟨u10, e1, h⟩ := q_bind h
      refine x_callV0 C dX12_staying_50 lkM_X12_299 mV_X12_comes ⟨_, rfl, rfl⟩ hk (c_X12_comes _ _ _ _ _ e1) rfl rfl (Nat.le_of_ble_eq_true rfl) (by decide) (by decide) ?_
      refine q_aload_n C dX12_staying_53 rfl ?_
      refine x_getR (ci := 12) (j := 32) C dX12_staying_54 lkF_X12_61 rfl h (fun c11 h => ?_)
      refine x_nn h (fun r12 h => ?_)
      refine x_bipush (v := (35 : Int32)) C dX12_staying_57 (by decide) ?_
      refine x_iald C dX12_staying_59 h (fun v13 h => ?_)
      refine q_max C dX12_staying_60 wd_1599 wd_467 wd_15 wd_468 (by decide) (Nat.le_of_ble_eq_true rfl) (by decide) ?_
      refine q_isub C dX12_staying_63 ?_
      refine q_max C dX12_staying_64 wd_1599 wd_467 wd_15 wd_468 (by decide) (Nat.le_of_ble_eq_true rfl) (by decide) ?_
      exact q_iret C dX12_staying_67 rfl (by decide) (by decide) (Option.some.inj h)
