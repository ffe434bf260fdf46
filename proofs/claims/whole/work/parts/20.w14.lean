noncomputable def B_X12_isAmong_2 (l0 : Nat) (l1 : Int32) (l2 : Int32) (M : q_Mem) : Option ((Int32 × q_Mem) ⊕ ((q_Mem) ⊕ (q_Mem))) := (q_ob M l0 14 ((F_J0_length_8abf5 l0 M).bind (fun u1 => (if l2 < u1 then (q_ob M l0 14 ((F_J0_charAt_5068e l0 l2 M).bind (fun x => match x with | (u2, M3) => (if u2 = l1 then some (.inr (.inl M3)) else some (.inl ((l2 + (1 : Int32)), M3)))))) else some (.inr (.inr M))))))
set_option maxRecDepth 100000 in
set_option maxHeartbeats 4000000 in
theorem bW_X12_isAmong_2 {K : q_K} {Q : State → Prop} (C : q_C K yX12_isAmong cX12_isAmong 3 (Option.some Jvm.ClassFile.FieldType.boolean) 5 0 0) (l0 : Nat) (l1 : Int32) (l2 : Int32) (M : q_Mem) {stp : (Int32 × q_Mem) ⊕ ((q_Mem) ⊕ (q_Mem))} (h : B_X12_isAmong_2 l0 l1 l2 M = some stp) (kC : ∀ (l2 : Int32) (M : q_Mem), stp = .inl (l2, M) → q_W K 3 Q 0 0 M 2 [some (.ref l0), some (.int l1), some (.int l2)] []) (kE0 : ∀ (M : q_Mem), stp = .inr (.inl M) → q_W K 3 Q 0 0 M 19 [none, none, none] []) (kE1 : ∀ (M : q_Mem), stp = .inr (.inr M) → q_W K 3 Q 0 0 M 27 [none, none, none] []) : q_W K 3 Q 0 0 M 2 [some (.ref l0), some (.int l1), some (.int l2)] [] := by
  unfold B_X12_isAmong_2 at h
  refine q_iload_n C dX12_isAmong_2 rfl ?_
  refine q_aload_n C dX12_isAmong_3 rfl ?_
  obtain ⟨hk, h⟩ := q_obE h
  obtain ⟨u1, e1, h⟩ := q_bind h
  refine x_callT C dX12_isAmong_4 wd_1405 mV_J0_length_8abf5 rfl hk (c_J0_length_8abf5 _ _ _ _ e1) rfl rfl (Nat.le_of_ble_eq_true rfl) (by decide) (by decide) ?_
  refine q_icmp_ge (tgt := 27) C dX12_isAmong_7 (by decide) h (fun _ h => ?_) (fun _ h => ?_)
  · refine q_aload_n C dX12_isAmong_10 rfl ?_
    refine q_iload_n C dX12_isAmong_11 rfl ?_
    obtain ⟨hk, h⟩ := q_obE h
    obtain ⟨⟨u2, M3⟩, e1, h⟩ := q_bind h
    refine x_callT C dX12_isAmong_12 wd_1409 mV_J0_charAt_5068e rfl hk (c_J0_charAt_5068e _ _ _ _ _ e1) rfl rfl (Nat.le_of_ble_eq_true rfl) (by decide) (by decide) ?_
    refine q_iload_n C dX12_isAmong_15 rfl ?_
    refine q_icmp_ne (tgt := 21) C dX12_isAmong_16 (by decide) h (fun _ h => ?_) (fun _ h => ?_)
    · exact q_msk [false, false, false] (kE0 _ (Option.some.inj h).symm)
    · refine x_iinc (w := (1 : Int32)) (L' := [some (.ref l0), some (.int l1), some (.int (l2 + (1 : Int32)))]) C dX12_isAmong_21 rfl (by decide) (by decide) rfl rfl ?_
      refine q_goto (tgt := 2) C dX12_isAmong_24 (by decide) ?_
      exact q_msk [true, true, true] (kC _ _ (Option.some.inj h).symm)
  · exact q_msk [false, false, false] (kE1 _ (Option.some.inj h).symm)
set_option maxRecDepth 100000 in
set_option maxHeartbeats 4000000 in
theorem lW_X12_isAmong_2 {K : q_K} {Q : State → Prop} (C : q_C K yX12_isAmong cX12_isAmong 3 (Option.some Jvm.ClassFile.FieldType.boolean) 5 0 0) (l0 : Nat) (l1 : Int32) (n : Nat) : ∀ (l2 : Int32) (M : q_Mem) (e : ((q_Mem) ⊕ (q_Mem))), q_lp (fun s => B_X12_isAmong_2 l0 l1 s.1 s.2) n (l2, M) = some e → (∀ (M : q_Mem), e = (.inl M) → q_W K 3 Q 0 0 M 19 [none, none, none] []) → (∀ (M : q_Mem), e = (.inr M) → q_W K 3 Q 0 0 M 27 [none, none, none] []) → q_W K 3 Q 0 0 M 2 [some (.ref l0), some (.int l1), some (.int l2)] [] := by
  induction n with
  | zero => intro l2 M e h; cases h
  | succ n ih =>
    intro l2 M e h kE0 kE1
    obtain ⟨stp, e1, e2⟩ := q_bind h
    refine bW_X12_isAmong_2 C l0 l1 l2 M e1 (fun a0 a1 hs => ?_) (fun b0 hs => ?_) (fun b0 hs => ?_)
    · subst hs; exact ih _ _ _ e2 kE0 kE1
    · subst hs; exact kE0 _ (Option.some.inj e2).symm
    · subst hs; exact kE1 _ (Option.some.inj e2).symm
noncomputable def F_X12_isAmong (l0 : Nat) (l1 : Int32) (M : q_Mem) : Option (Int32 × q_Mem) := (q_lp (fun s => B_X12_isAmong_2 l0 l1 s.1 s.2) q_fu ((0 : Int32), M)).bind (fun e4 => match e4 with | .inl M5 => q_rz (1 : Int32) M5 | .inr M6 => q_rz (0 : Int32) M6)
set_option maxRecDepth 100000 in
set_option maxHeartbeats 4000000 in
theorem c_X12_isAmong (l : Launch) (G : q_G) (l0 : Nat) (l1 : Int32) (M : q_Mem) {r : Int32} {M' : q_Mem} (h : F_X12_isAmong l0 l1 M = some (r, M')) : q_Met l G yX12_isAmong cX12_isAmong 3 (Option.some Jvm.ClassFile.FieldType.boolean) 5 0 0 [.ref l0, .int l1] M (some (.int r)) M' := by
  unfold F_X12_isAmong at h
  refine q_enter [some (.ref l0), some (.int l1), none] (by decide) (Nat.le_of_ble_eq_true rfl) rfl (fun K C => ?_)
  refine x_iconst (v := (0 : Int32)) C dX12_isAmong_0 (by decide) ?_
  refine q_istore_n (L' := [some (.ref l0), some (.int l1), some (.int (0 : Int32))]) C dX12_isAmong_1 (by decide) rfl rfl ?_
  obtain ⟨e4, he, h⟩ := q_bind h
  refine q_msk [true, true, true] (lW_X12_isAmong_2 C l0 l1 q_fu _ _ _ he (fun M5 hs => ?_) (fun M6 hs => ?_))
  · have hs := hs.symm
    subst hs
    refine x_iconst (v := (1 : Int32)) C dX12_isAmong_19 (by decide) ?_
    exact q_zret C dX12_isAmong_20 rfl (by decide) (by decide) (q_rzE h).1 (q_rzE h).2
  · have hs := hs.symm
    subst hs
    refine x_iconst (v := (0 : Int32)) C dX12_isAmong_27 (by decide) ?_
    exact q_zret C dX12_isAmong_28 rfl (by decide) (by decide) (q_rzE h).1 (q_rzE h).2
noncomputable def J_X12_takes_16 (l0 : Nat) (M : q_Mem) : Option (Int32 × q_Mem) := (q_ob M l0 12 ((F_X12_fails l0 M).bind (fun x => match x with | (u6, M7) => q_rz u6 M7)))
set_option maxRecDepth 100000 in
set_option maxHeartbeats 4000000 in
theorem jW_X12_takes_16 {K : q_K} (C : q_C K yX12_takes cX12_takes 2 (Option.some Jvm.ClassFile.FieldType.boolean) 2 0 0) (l0 : Nat) (M : q_Mem) {r : Int32} {M' : q_Mem} (h : J_X12_takes_16 l0 M = some (r, M')) : q_W K 2 (q_Q K (some (.int r)) M' 0 0) 0 0 M 16 [some (.ref l0), none] [] := by
  unfold J_X12_takes_16 at h
  refine q_aload_n C dX12_takes_16 rfl ?_
  obtain ⟨hk, h⟩ := q_obE h
  obtain ⟨⟨u6, M7⟩, e1, h⟩ := q_bind h
  refine x_callV0 C dX12_takes_17 lkM_X12_130 mV_X12_fails ⟨_, rfl, rfl⟩ hk (c_X12_fails _ _ _ _ e1) rfl rfl (Nat.le_of_ble_eq_true rfl) (by decide) (by decide) ?_
  exact q_zret C dX12_takes_20 rfl (by decide) (by decide) (q_rzE h).1 (q_rzE h).2
noncomputable def F_X12_takes (l0 : Nat) (l1 : Int32) (M : q_Mem) : Option (Int32 × q_Mem) := (q_gI M l0 12 11 (fun v1 => (if v1 = (-1 : Int32) then (q_ob M l0 12 ((F_X12_look l0 M).bind (fun x => match x with | (u2, M3) => (if u2 = l1 then (q_gI M3 l0 12 10 (fun v4 => (q_pI M3 l0 12 10 (v4 + (1 : Int32)) (fun M5 => q_rz (1 : Int32) M5)))) else J_X12_takes_16 l0 M3)))) else J_X12_takes_16 l0 M)))
set_option maxRecDepth 100000 in
set_option maxHeartbeats 4000000 in
theorem c_X12_takes (l : Launch) (G : q_G) (l0 : Nat) (l1 : Int32) (M : q_Mem) {r : Int32} {M' : q_Mem} (h : F_X12_takes l0 l1 M = some (r, M')) : q_Met l G yX12_takes cX12_takes 2 (Option.some Jvm.ClassFile.FieldType.boolean) 2 0 0 [.ref l0, .int l1] M (some (.int r)) M' := by
  unfold F_X12_takes at h
  refine q_enter [some (.ref l0), some (.int l1)] (by decide) (Nat.le_of_ble_eq_true rfl) rfl (fun K C => ?_)
  refine q_aload_n C dX12_takes_0 rfl ?_
  refine x_getI (ci := 12) (j := 11) C dX12_takes_1 lkF_X12_124 rfl h (fun v1 h => ?_)
  refine x_iconst (v := (-1 : Int32)) C dX12_takes_4 (by decide) ?_
  refine q_icmp_ne (tgt := 16) C dX12_takes_5 (by decide) h (fun _ h => ?_) (fun _ h => ?_)
  · refine q_aload_n C dX12_takes_8 rfl ?_
    obtain ⟨hk, h⟩ := q_obE h
    obtain ⟨⟨u2, M3⟩, e1, h⟩ := q_bind h
    refine x_callV0 C dX12_takes_9 lkM_X12_134 mV_X12_look ⟨_, rfl, rfl⟩ hk (c_X12_look _ _ _ _ e1) rfl rfl (Nat.le_of_ble_eq_true rfl) (by decide) (by decide) ?_
    refine q_iload_n C dX12_takes_12 rfl ?_
    refine q_icmp_eq (tgt := 21) C dX12_takes_13 (by decide) h (fun _ h => ?_) (fun _ h => ?_)
    · refine q_aload_n C dX12_takes_21 rfl ?_
      refine q_dup C dX12_takes_22 rfl ?_
      refine x_getI (ci := 12) (j := 10) C dX12_takes_23 lkF_X12_115 rfl h (fun v4 h => ?_)
      refine x_iconst (v := (1 : Int32)) C dX12_takes_26 (by decide) ?_
      refine q_iadd C dX12_takes_27 ?_
      refine x_putI (ci := 12) (j := 10) C dX12_takes_28 lkF_X12_115 (fun r hr => by cases hr; rfl) rfl h (fun M5 h => ?_)
      refine x_iconst (v := (1 : Int32)) C dX12_takes_31 (by decide) ?_
      exact q_zret C dX12_takes_32 rfl (by decide) (by decide) (q_rzE h).1 (q_rzE h).2
    · exact q_msk [true, false] (jW_X12_takes_16 C l0 M3 h)
  · exact q_msk [true, false] (jW_X12_takes_16 C l0 M h)
noncomputable def F_X12_goesIn (l0 : Nat) (M : q_Mem) : Option (Int32 × q_Mem) := (q_gI M l0 12 12 (fun v1 => (if v1 = (6 : Int32) then (q_ob M l0 12 ((F_X12_fails l0 M).bind (fun x => match x with | (u2, M3) => q_rz u2 M3))) else (q_gI M l0 12 12 (fun v4 => (q_pI M l0 12 12 (v4 + (1 : Int32)) (fun M5 => (q_gI M5 l0 12 10 (fun v6 => (q_pI M5 l0 12 10 (v6 + (1 : Int32)) (fun M7 => q_rz (1 : Int32) M7)))))))))))
set_option maxRecDepth 100000 in
set_option maxHeartbeats 4000000 in
theorem c_X12_goesIn (l : Launch) (G : q_G) (l0 : Nat) (M : q_Mem) {r : Int32} {M' : q_Mem} (h : F_X12_goesIn l0 M = some (r, M')) : q_Met l G yX12_goesIn cX12_goesIn 1 (Option.some Jvm.ClassFile.FieldType.boolean) 2 0 0 [.ref l0] M (some (.int r)) M' := by
  unfold F_X12_goesIn at h
  refine q_enter [some (.ref l0)] (by decide) (Nat.le_of_ble_eq_true rfl) rfl (fun K C => ?_)
  refine q_aload_n C dX12_goesIn_0 rfl ?_
  refine x_getI (ci := 12) (j := 12) C dX12_goesIn_1 lkF_X12_127 rfl h (fun v1 h => ?_)
  refine x_bipush (v := (6 : Int32)) C dX12_goesIn_4 (by decide) ?_
  refine q_icmp_ne (tgt := 14) C dX12_goesIn_6 (by decide) h (fun _ h => ?_) (fun _ h => ?_)
  · refine q_aload_n C dX12_goesIn_9 rfl ?_
    obtain ⟨hk, h⟩ := q_obE h
    obtain ⟨⟨u2, M3⟩, e1, h⟩ := q_bind h
    refine x_callV0 C dX12_goesIn_10 lkM_X12_130 mV_X12_fails ⟨_, rfl, rfl⟩ hk (c_X12_fails _ _ _ _ e1) rfl rfl (Nat.le_of_ble_eq_true rfl) (by decide) (by decide) ?_
    exact q_zret C dX12_goesIn_13 rfl (by decide) (by decide) (q_rzE h).1 (q_rzE h).2
  · refine q_aload_n C dX12_goesIn_14 rfl ?_
    refine q_dup C dX12_goesIn_15 rfl ?_
    refine x_getI (ci := 12) (j := 12) C dX12_goesIn_16 lkF_X12_127 rfl h (fun v4 h => ?_)
    refine x_iconst (v := (1 : Int32)) C dX12_goesIn_19 (by decide) ?_
    refine q_iadd C dX12_goesIn_20 ?_
    refine x_putI (ci := 12) (j := 12) C dX12_goesIn_21 lkF_X12_127 (fun r hr => by cases hr; rfl) rfl h (fun M5 h => ?_)
    refine q_aload_n C dX12_goesIn_24 rfl ?_
    refine q_dup C dX12_goesIn_25 rfl ?_
    refine x_getI (ci := 12) (j := 10) C dX12_goesIn_26 lkF_X12_115 rfl h (fun v6 h => ?_)
    refine x_iconst (v := (1 : Int32)) C dX12_goesIn_29 (by decide) ?_
    refine q_iadd C dX12_goesIn_30 ?_
    refine x_putI (ci := 12) (j := 10) C dX12_goesIn_31 lkF_X12_115 (fun r hr => by cases hr; rfl) rfl h (fun M7 h => ?_)
    refine x_iconst (v := (1 : Int32)) C dX12_goesIn_34 (by decide) ?_
    exact q_zret C dX12_goesIn_35 rfl (by decide) (by decide) (q_rzE h).1 (q_rzE h).2
noncomputable def F_X12_within (l0 : Int64) (M : q_Mem) : Option (Int32) := some ((q_mxl (-1000000 : Int64) (q_mnl (1000000 : Int64) l0)).toInt32)
set_option maxRecDepth 100000 in
set_option maxHeartbeats 4000000 in
theorem c_X12_within (l : Launch) (G : q_G) (l0 : Int64) (M : q_Mem) {r : Int32} (h : F_X12_within l0 M = some r) : q_Met l G yX12_within cX12_within 2 (Option.some Jvm.ClassFile.FieldType.int) 2 0 0 [.long l0] M (some (.int r)) M := by
  unfold F_X12_within at h
  refine q_enter [some (.long l0), none] (by decide) (Nat.le_of_ble_eq_true rfl) rfl (fun K C => ?_)
  refine q_ldc2 (v := (-1000000 : Int64)) C dX12_within_0 wd_1495 ?_
  refine q_ldc2 (v := (1000000 : Int64)) C dX12_within_3 wd_1496 ?_
  refine q_lload_n C dX12_within_6 rfl ?_
  refine q_minL C dX12_within_7 wd_1497 wd_1498 wd_15 wd_1499 (by decide) (Nat.le_of_ble_eq_true rfl) (by decide) ?_
  refine q_maxL C dX12_within_10 wd_1500 wd_1501 wd_15 wd_1502 (by decide) (Nat.le_of_ble_eq_true rfl) (by decide) ?_
  refine q_l2i C dX12_within_13 ?_
  exact q_iret (res := (r, M)) C dX12_within_14 rfl (by decide) (by decide) (congrArg (fun z => (z, M)) (Option.some.inj h))
def Hr_X12_atom (n0 : Nat) (rec : (Nat → Nat → q_Mem → Option (Int32 × q_Mem))) : Prop := ∀ (l : Launch) (G : q_G), (∀ (a0 : Nat) (M : q_Mem) (r : Int32) (M' : q_Mem), rec 0 a0 M = some (r, M') → q_Met l G yX12_atom cX12_atom 4 (Option.some Jvm.ClassFile.FieldType.int) (n0 + 6) 0 0 [.ref a0] M (some (.int r)) M') ∧ (∀ (a0 : Nat) (M : q_Mem) (r : Int32) (M' : q_Mem), rec 1 a0 M = some (r, M') → q_Met l G yX12_sum cX12_sum 5 (Option.some Jvm.ClassFile.FieldType.int) (n0 + 6) 0 0 [.ref a0] M (some (.int r)) M') ∧ (∀ (a0 : Nat) (M : q_Mem) (r : Int32) (M' : q_Mem), rec 2 a0 M = some (r, M') → q_Met l G yX12_term cX12_term 5 (Option.some Jvm.ClassFile.FieldType.int) (n0 + 6) 0 0 [.ref a0] M (some (.int r)) M')
noncomputable def B_X12_atom_90 (rec : (Nat → Nat → q_Mem → Option (Int32 × q_Mem))) (l0 : Nat) (l2 : Int32) (l3 : Int32) (M : q_Mem) : Option ((Int32 × Int32 × q_Mem) ⊕ ((q_Mem) ⊕ (Int32 × q_Mem))) := (q_ob M l0 12 ((F_X12_isDigit l0 M).bind (fun u16 => (if u16 = 0 then some (.inr (.inr (l2, M))) else (q_gI M l0 12 11 (fun v17 => (if v17 = (-1 : Int32) then (if l3 = (4 : Int32) then some (.inr (.inl M)) else (q_gR M l0 12 5 (fun c18 => q_nn c18 (fun r19 => (q_gI M l0 12 8 (fun v20 => (q_gI M l0 12 10 (fun v21 => (q_lI M 1 r19 (v20 + v21) (fun v22 => (q_gI M l0 12 10 (fun v23 => (q_pI M l0 12 10 (v23 + (1 : Int32)) (fun M24 => some (.inl (((((10 : Int32) * l2) + v22) - (48 : Int32)), (l3 + (1 : Int32)), M24)))))))))))))))) else some (.inr (.inr (l2, M))))))))))
set_option maxRecDepth 100000 in
set_option maxHeartbeats 4000000 in
theorem bW_X12_atom_90 {K : q_K} {Q : State → Prop} {n0 : Nat} (C : q_C K yX12_atom cX12_atom 4 (Option.some Jvm.ClassFile.FieldType.int) (n0 + 6 + 1) 0 0) {rec : (Nat → Nat → q_Mem → Option (Int32 × q_Mem))} (hr : Hr_X12_atom n0 rec) (l0 : Nat) (l2 : Int32) (l3 : Int32) (M : q_Mem) {stp : (Int32 × Int32 × q_Mem) ⊕ ((q_Mem) ⊕ (Int32 × q_Mem))} (h : B_X12_atom_90 rec l0 l2 l3 M = some stp) (kC : ∀ (l2 : Int32) (l3 : Int32) (M : q_Mem), stp = .inl (l2, l3, M) → q_W K 4 Q 0 0 M 90 [some (.ref l0), none, some (.int l2), some (.int l3)] []) (kE0 : ∀ (M : q_Mem), stp = .inr (.inl M) → q_W K 4 Q 0 0 M 110 [some (.ref l0), none, none, none] []) (kE1 : ∀ (l2 : Int32) (M : q_Mem), stp = .inr (.inr (l2, M)) → q_W K 4 Q 0 0 M 156 [none, none, some (.int l2), none] []) : q_W K 4 Q 0 0 M 90 [some (.ref l0), none, some (.int l2), some (.int l3)] [] := by
  unfold B_X12_atom_90 at h
  refine q_aload_n C dX12_atom_90 rfl ?_
  obtain ⟨hk, h⟩ := q_obE h
  obtain ⟨u16, e1, h⟩ := q_bind h
  refine x_callV0 C dX12_atom_91 lkM_X12_164 mV_X12_isDigit ⟨_, rfl, rfl⟩ hk (c_X12_isDigit _ _ _ _ e1) rfl rfl (Nat.le_of_ble_eq_true rfl) (⟨by omega, by decide⟩) (by decide) ?_
  refine q_if_eq (tgt := 156) C dX12_atom_94 (by decide) h (fun _ h => ?_) (fun _ h => ?_)
  · exact q_msk [false, false, true, false] (kE1 _ _ (Option.some.inj h).symm)
  · refine q_aload_n C dX12_atom_97 rfl ?_
    refine x_getI (ci := 12) (j := 11) C dX12_atom_98 lkF_X12_124 rfl h (fun v17 h => ?_)
    refine x_iconst (v := (-1 : Int32)) C dX12_atom_101 (by decide) ?_
    refine q_icmp_ne (tgt := 156) C dX12_atom_102 (by decide) h (fun _ h => ?_) (fun _ h => ?_)
    · refine q_iload_n C dX12_atom_105 rfl ?_
      refine x_iconst (v := (4 : Int32)) C dX12_atom_106 (by decide) ?_
      refine q_icmp_ne (tgt := 117) C dX12_atom_107 (by decide) h (fun _ h => ?_) (fun _ h => ?_)
      · exact q_msk [true, false, false, false] (kE0 _ (Option.some.inj h).symm)
      · refine x_bipush (v := (10 : Int32)) C dX12_atom_117 (by decide) ?_
        refine q_iload_n C dX12_atom_119 rfl ?_
        refine q_imul C dX12_atom_120 ?_
        refine q_aload_n C dX12_atom_121 rfl ?_
        refine x_getR (ci := 12) (j := 5) C dX12_atom_122 lkF_X12_23 rfl h (fun c18 h => ?_)
        refine x_nn h (fun r19 h => ?_)
        refine q_aload_n C dX12_atom_125 rfl ?_
        refine x_getI (ci := 12) (j := 8) C dX12_atom_126 lkF_X12_121 rfl h (fun v20 h => ?_)
        refine q_aload_n C dX12_atom_129 rfl ?_
        refine x_getI (ci := 12) (j := 10) C dX12_atom_130 lkF_X12_115 rfl h (fun v21 h => ?_)
        refine q_iadd C dX12_atom_133 ?_
        refine x_bald C dX12_atom_134 h (fun v22 h => ?_)
        refine q_iadd C dX12_atom_135 ?_
        refine x_bipush (v := (48 : Int32)) C dX12_atom_136 (by decide) ?_
        refine q_isub C dX12_atom_138 ?_
        refine q_istore_n (L' := [some (.ref l0), none, some (.int ((((10 : Int32) * l2) + v22) - (48 : Int32))), some (.int l3)]) C dX12_atom_139 (by decide) rfl rfl ?_
        refine q_aload_n C dX12_atom_140 rfl ?_
        refine q_dup C dX12_atom_141 rfl ?_
        refine x_getI (ci := 12) (j := 10) C dX12_atom_142 lkF_X12_115 rfl h (fun v23 h => ?_)
        refine x_iconst (v := (1 : Int32)) C dX12_atom_145 (by decide) ?_
        refine q_iadd C dX12_atom_146 ?_
        refine x_putI (ci := 12) (j := 10) C dX12_atom_147 lkF_X12_115 (fun r hr => by cases hr; rfl) rfl h (fun M24 h => ?_)
        refine x_iinc (w := (1 : Int32)) (L' := [some (.ref l0), none, some (.int ((((10 : Int32) * l2) + v22) - (48 : Int32))), some (.int (l3 + (1 : Int32)))]) C dX12_atom_150 rfl (by decide) (by decide) rfl rfl ?_
        refine q_goto (tgt := 90) C dX12_atom_153 (by decide) ?_
        exact q_msk [true, false, true, true] (kC _ _ _ (Option.some.inj h).symm)
    · exact q_msk [false, false, true, false] (kE1 _ _ (Option.some.inj h).symm)
set_option maxRecDepth 100000 in
set_option maxHeartbeats 4000000 in
theorem lW_X12_atom_90 {K : q_K} {Q : State → Prop} {n0 : Nat} (C : q_C K yX12_atom cX12_atom 4 (Option.some Jvm.ClassFile.FieldType.int) (n0 + 6 + 1) 0 0) {rec : (Nat → Nat → q_Mem → Option (Int32 × q_Mem))} (hr : Hr_X12_atom n0 rec) (l0 : Nat) (n : Nat) : ∀ (l2 : Int32) (l3 : Int32) (M : q_Mem) (e : ((q_Mem) ⊕ (Int32 × q_Mem))), q_lp (fun s => B_X12_atom_90 rec l0 s.1 s.2.1 s.2.2) n (l2, l3, M) = some e → (∀ (M : q_Mem), e = (.inl M) → q_W K 4 Q 0 0 M 110 [some (.ref l0), none, none, none] []) → (∀ (l2 : Int32) (M : q_Mem), e = (.inr (l2, M)) → q_W K 4 Q 0 0 M 156 [none, none, some (.int l2), none] []) → q_W K 4 Q 0 0 M 90 [some (.ref l0), none, some (.int l2), some (.int l3)] [] := by
  induction n with
  | zero => intro l2 l3 M e h; cases h
  | succ n ih =>
    intro l2 l3 M e h kE0 kE1
    obtain ⟨stp, e1, e2⟩ := q_bind h
    refine bW_X12_atom_90 C hr l0 l2 l3 M e1 (fun a0 a1 a2 hs => ?_) (fun b0 hs => ?_) (fun b0 b1 hs => ?_)
    · subst hs; exact ih _ _ _ _ e2 kE0 kE1
    · subst hs; exact kE0 _ (Option.some.inj e2).symm
    · subst hs; exact kE1 _ _ (Option.some.inj e2).symm
noncomputable def J_X12_atom_86 (rec : (Nat → Nat → q_Mem → Option (Int32 × q_Mem))) (l0 : Nat) (M : q_Mem) : Option (Int32 × q_Mem) := (q_lp (fun s => B_X12_atom_90 rec l0 s.1 s.2.1 s.2.2) q_fu ((0 : Int32), (0 : Int32), M)).bind (fun e25 => match e25 with | .inl M26 => (q_ob M26 l0 12 ((F_X12_fails l0 M26).bind (fun x => match x with | (u27, M28) => some ((0 : Int32), M28)))) | .inr (w29, M30) => some (w29, M30))
set_option maxRecDepth 100000 in
set_option maxHeartbeats 4000000 in
theorem jW_X12_atom_86 {K : q_K} {n0 : Nat} (C : q_C K yX12_atom cX12_atom 4 (Option.some Jvm.ClassFile.FieldType.int) (n0 + 6 + 1) 0 0) {rec : (Nat → Nat → q_Mem → Option (Int32 × q_Mem))} (hr : Hr_X12_atom n0 rec) (l0 : Nat) (M : q_Mem) {r : Int32} {M' : q_Mem} (h : J_X12_atom_86 rec l0 M = some (r, M')) : q_W K 4 (q_Q K (some (.int r)) M' 0 0) 0 0 M 86 [some (.ref l0), none, none, none] [] := by
  unfold J_X12_atom_86 at h
  refine x_iconst (v := (0 : Int32)) C dX12_atom_86 (by decide) ?_
  refine q_istore_n (L' := [some (.ref l0), none, some (.int (0 : Int32)), none]) C dX12_atom_87 (by decide) rfl rfl ?_
  refine x_iconst (v := (0 : Int32)) C dX12_atom_88 (by decide) ?_
  refine q_istore_n (L' := [some (.ref l0), none, some (.int (0 : Int32)), some (.int (0 : Int32))]) C dX12_atom_89 (by decide) rfl rfl ?_
  obtain ⟨e25, he, h⟩ := q_bind h
  refine q_msk [true, false, true, true] (lW_X12_atom_90 C hr l0 q_fu _ _ _ _ he (fun M26 hs => ?_) (fun w29 M30 hs => ?_))
  · have hs := hs.symm
    subst hs
    refine q_aload_n C dX12_atom_110 rfl ?_
    obtain ⟨hk, h⟩ := q_obE h
    obtain ⟨⟨u27, M28⟩, e1, h⟩ := q_bind h
    refine x_callV0 C dX12_atom_111 lkM_X12_130 mV_X12_fails ⟨_, rfl, rfl⟩ hk (c_X12_fails _ _ _ _ e1) rfl rfl (Nat.le_of_ble_eq_true rfl) (⟨by omega, by decide⟩) (by decide) ?_
    refine q_pop C dX12_atom_114 rfl ?_
    refine x_iconst (v := (0 : Int32)) C dX12_atom_115 (by decide) ?_
    exact q_iret C dX12_atom_116 rfl (by decide) (by decide) (Option.some.inj h)
  · have hs := hs.symm
    subst hs
    refine q_iload_n C dX12_atom_156 rfl ?_
    exact q_iret C dX12_atom_157 rfl (by decide) (by decide) (Option.some.inj h)
noncomputable def F_X12_atom (rec : (Nat → Nat → q_Mem → Option (Int32 × q_Mem))) (l0 : Nat) (M : q_Mem) : Option (Int32 × q_Mem) := (q_ob M l0 12 ((F_X12_look l0 M).bind (fun x => match x with | (u1, M2) => ((F_X12_isAmong 32 u1 M2).bind (fun x => match x with | (u3, M4) => (if u3 = 0 then (if u1 = (91 : Int32) then (q_ob M4 l0 12 ((F_X12_goesIn l0 M4).bind (fun x => match x with | (u5, M6) => (if u5 = 0 then some ((0 : Int32), M6) else (q_ob M6 l0 12 ((rec 1 l0 M6).bind (fun x => match x with | (u7, M8) => (q_ob M8 l0 12 ((F_X12_takes l0 (93 : Int32) M8).bind (fun x => match x with | (u9, M10) => (if u9 = 0 then some ((0 : Int32), M10) else (q_gI M10 l0 12 12 (fun v11 => (q_pI M10 l0 12 12 (v11 - (1 : Int32)) (fun M12 => some (u7, M12)))))))))))))))) else (q_ob M4 l0 12 ((F_X12_isDigit l0 M4).bind (fun u13 => (if u13 = 0 then (q_ob M4 l0 12 ((F_X12_fails l0 M4).bind (fun x => match x with | (u14, M15) => J_X12_atom_86 rec l0 M15))) else J_X12_atom_86 rec l0 M4))))) else (q_gI M4 l0 12 10 (fun v31 => (q_pI M4 l0 12 10 (v31 + (1 : Int32)) (fun M32 => (q_gR M32 l0 12 4 (fun c33 => q_nn c33 (fun r34 => (q_lI M32 0 r34 u1 (fun v35 => some (v35, M32))))))))))))))))
set_option maxRecDepth 100000 in
set_option maxHeartbeats 4000000 in
theorem cr_X12_atom {l : Launch} {G : q_G} {n0 : Nat} {rec : (Nat → Nat → q_Mem → Option (Int32 × q_Mem))} (hr : Hr_X12_atom n0 rec) (l0 : Nat) (M : q_Mem) {r : Int32} {M' : q_Mem} (h : F_X12_atom rec l0 M = some (r, M')) : q_Met l G yX12_atom cX12_atom 4 (Option.some Jvm.ClassFile.FieldType.int) (n0 + 6 + 1) 0 0 [.ref l0] M (some (.int r)) M' := by
  unfold F_X12_atom at h
  refine q_enter [some (.ref l0), none, none, none] (by decide) (Nat.le_of_ble_eq_true rfl) rfl (fun K C => ?_)
  refine q_aload_n C dX12_atom_0 rfl ?_
  obtain ⟨hk, h⟩ := q_obE h
  obtain ⟨⟨u1, M2⟩, e1, h⟩ := q_bind h
  refine x_callV0 C dX12_atom_1 lkM_X12_134 mV_X12_look ⟨_, rfl, rfl⟩ hk (c_X12_look _ _ _ _ e1) rfl rfl (Nat.le_of_ble_eq_true rfl) (⟨by omega, by decide⟩) (by decide) ?_
  refine q_istore_n (L' := [some (.ref l0), some (.int u1), none, none]) C dX12_atom_4 (by decide) rfl rfl ?_
  refine q_ldcS (i := 14) C dX12_atom_5 rfl ?_
  refine q_iload_n C dX12_atom_7 rfl ?_
  obtain ⟨⟨u3, M4⟩, e1, h⟩ := q_bind h
  refine x_callS0 C dX12_atom_8 lkM_X12_150 mS_X12_isAmong (c_X12_isAmong _ _ _ _ _ e1) rfl rfl (Nat.le_of_ble_eq_true rfl) (⟨by omega, by decide⟩) (by decide) ?_
  refine q_if_eq (tgt := 31) C dX12_atom_11 (by decide) h (fun _ h => ?_) (fun _ h => ?_)
  · refine q_iload_n C dX12_atom_31 rfl ?_
    refine x_bipush (v := (91 : Int32)) C dX12_atom_32 (by decide) ?_
    refine q_icmp_ne (tgt := 74) C dX12_atom_34 (by decide) h (fun _ h => ?_) (fun _ h => ?_)
    · refine q_aload_n C dX12_atom_37 rfl ?_
      obtain ⟨hk, h⟩ := q_obE h
      obtain ⟨⟨u5, M6⟩, e1, h⟩ := q_bind h
      refine x_callV0 C dX12_atom_38 lkM_X12_154 mV_X12_goesIn ⟨_, rfl, rfl⟩ hk (c_X12_goesIn _ _ _ _ e1) rfl rfl (Nat.le_of_ble_eq_true rfl) (⟨by omega, by decide⟩) (by decide) ?_
      refine q_if_ne (tgt := 46) C dX12_atom_41 (by decide) h (fun _ h => ?_) (fun _ h => ?_)
      · refine x_iconst (v := (0 : Int32)) C dX12_atom_44 (by decide) ?_
        exact q_iret C dX12_atom_45 rfl (by decide) (by decide) (Option.some.inj h)
      · refine q_aload_n C dX12_atom_46 rfl ?_
        obtain ⟨hk, h⟩ := q_obE h
        obtain ⟨⟨u7, M8⟩, e1, h⟩ := q_bind h
        refine x_callV0 C dX12_atom_47 lkM_X12_157 mV_X12_sum ⟨_, rfl, rfl⟩ hk ((hr _ _).2.1 _ _ _ _ e1) rfl rfl (Nat.le_of_ble_eq_true rfl) (⟨by omega, by decide⟩) (by decide) ?_
        refine q_istore_n (L' := [some (.ref l0), some (.int u1), some (.int u7), none]) C dX12_atom_50 (by decide) rfl rfl ?_
        refine q_aload_n C dX12_atom_51 rfl ?_
        refine x_bipush (v := (93 : Int32)) C dX12_atom_52 (by decide) ?_
        obtain ⟨hk, h⟩ := q_obE h
        obtain ⟨⟨u9, M10⟩, e1, h⟩ := q_bind h
        refine x_callV0 C dX12_atom_54 lkM_X12_160 mV_X12_takes ⟨_, rfl, rfl⟩ hk (c_X12_takes _ _ _ _ _ e1) rfl rfl (Nat.le_of_ble_eq_true rfl) (⟨by omega, by decide⟩) (by decide) ?_
        refine q_if_ne (tgt := 62) C dX12_atom_57 (by decide) h (fun _ h => ?_) (fun _ h => ?_)
        · refine x_iconst (v := (0 : Int32)) C dX12_atom_60 (by decide) ?_
          exact q_iret C dX12_atom_61 rfl (by decide) (by decide) (Option.some.inj h)
        · refine q_aload_n C dX12_atom_62 rfl ?_
          refine q_dup C dX12_atom_63 rfl ?_
          refine x_getI (ci := 12) (j := 12) C dX12_atom_64 lkF_X12_127 rfl h (fun v11 h => ?_)
          refine x_iconst (v := (1 : Int32)) C dX12_atom_67 (by decide) ?_
          refine q_isub C dX12_atom_68 ?_
          refine x_putI (ci := 12) (j := 12) C dX12_atom_69 lkF_X12_127 (fun r hr => by cases hr; rfl) rfl h (fun M12 h => ?_)
          refine q_iload_n C dX12_atom_72 rfl ?_
          exact q_iret C dX12_atom_73 rfl (by decide) (by decide) (Option.some.inj h)
    · refine q_aload_n C dX12_atom_74 rfl ?_
      obtain ⟨hk, h⟩ := q_obE h
      obtain ⟨u13, e1, h⟩ := q_bind h
      refine x_callV0 C dX12_atom_75 lkM_X12_164 mV_X12_isDigit ⟨_, rfl, rfl⟩ hk (c_X12_isDigit _ _ _ _ e1) rfl rfl (Nat.le_of_ble_eq_true rfl) (⟨by omega, by decide⟩) (by decide) ?_
      refine q_if_ne (tgt := 86) C dX12_atom_78 (by decide) h (fun _ h => ?_) (fun _ h => ?_)
      · refine q_aload_n C dX12_atom_81 rfl ?_
        obtain ⟨hk, h⟩ := q_obE h
        obtain ⟨⟨u14, M15⟩, e1, h⟩ := q_bind h
        refine x_callV0 C dX12_atom_82 lkM_X12_130 mV_X12_fails ⟨_, rfl, rfl⟩ hk (c_X12_fails _ _ _ _ e1) rfl rfl (Nat.le_of_ble_eq_true rfl) (⟨by omega, by decide⟩) (by decide) ?_
        refine q_pop C dX12_atom_85 rfl ?_
        exact q_msk [true, false, false, false] (jW_X12_atom_86 C hr l0 M15 h)
      · exact q_msk [true, false, false, false] (jW_X12_atom_86 C hr l0 M4 h)
  · refine q_aload_n C dX12_atom_14 rfl ?_
    refine q_dup C dX12_atom_15 rfl ?_
    refine x_getI (ci := 12) (j := 10) C dX12_atom_16 lkF_X12_115 rfl h (fun v31 h => ?_)
    refine x_iconst (v := (1 : Int32)) C dX12_atom_19 (by decide) ?_
    refine q_iadd C dX12_atom_20 ?_
    refine x_putI (ci := 12) (j := 10) C dX12_atom_21 lkF_X12_115 (fun r hr => by cases hr; rfl) rfl h (fun M32 h => ?_)
    refine q_aload_n C dX12_atom_24 rfl ?_
    refine x_getR (ci := 12) (j := 4) C dX12_atom_25 lkF_X12_20 rfl h (fun c33 h => ?_)
    refine x_nn h (fun r34 h => ?_)
    refine q_iload_n C dX12_atom_28 rfl ?_
    refine x_iald C dX12_atom_29 h (fun v35 h => ?_)
    exact q_iret C dX12_atom_30 rfl (by decide) (by decide) (Option.some.inj h)
noncomputable def J_X12_sum_77_5 (rec : (Nat → Nat → q_Mem → Option (Int32 × q_Mem))) (l0 : Nat) (s0 : Int64) (M : q_Mem) : Option ((Int32 × q_Mem) ⊕ (Int32 × q_Mem)) := ((F_X12_within s0 M).bind (fun u12 => some (.inl (u12, M))))
set_option maxRecDepth 100000 in
set_option maxHeartbeats 4000000 in
theorem jW_X12_sum_77_5 {K : q_K} {Q : State → Prop} {n0 : Nat} (C : q_C K yX12_sum cX12_sum 5 (Option.some Jvm.ClassFile.FieldType.int) (n0 + 6 + 1) 0 0) {rec : (Nat → Nat → q_Mem → Option (Int32 × q_Mem))} (hr : Hr_X12_atom n0 rec) (l0 : Nat) (s0 : Int64) (M : q_Mem) {stp : (Int32 × q_Mem) ⊕ (Int32 × q_Mem)} (h : J_X12_sum_77_5 rec l0 s0 M = some stp) (kC : ∀ (l1 : Int32) (M : q_Mem), stp = .inl (l1, M) → q_W K 5 Q 0 0 M 5 [some (.ref l0), some (.int l1), none, none, none] []) (kE0 : ∀ (l1 : Int32) (M : q_Mem), stp = .inr (l1, M) → q_W K 5 Q 0 0 M 84 [none, some (.int l1), none, none, none] []) : q_W K 5 Q 0 0 M 77 [some (.ref l0), none, none, none, none] [.long s0] := by
  unfold J_X12_sum_77_5 at h
  obtain ⟨u12, e1, h⟩ := q_bind h
  refine x_callS0 C dX12_sum_77 lkM_X12_170 mS_X12_within (c_X12_within _ _ _ _ e1) rfl rfl (Nat.le_of_ble_eq_true rfl) (⟨by omega, by decide⟩) (by decide) ?_
  refine q_istore_n (L' := [some (.ref l0), some (.int u12), none, none, none]) C dX12_sum_80 (by decide) rfl rfl ?_
  refine q_goto (tgt := 5) C dX12_sum_81 (by decide) ?_
  exact q_msk [true, true, false, false, false] (kC _ _ (Option.some.inj h).symm)
noncomputable def J_X12_sum_45_5 (rec : (Nat → Nat → q_Mem → Option (Int32 × q_Mem))) (l0 : Nat) (l1 : Int32) (s0 : Int32) (M : q_Mem) : Option ((Int32 × q_Mem) ⊕ (Int32 × q_Mem)) := (q_gI M l0 12 10 (fun v8 => (q_pI M l0 12 10 (v8 + (1 : Int32)) (fun M9 => (q_ob M9 l0 12 ((rec 2 l0 M9).bind (fun x => match x with | (u10, M11) => (if s0 = 0 then J_X12_sum_77_5 rec l0 (l1.toInt64 - u10.toInt64) M11 else J_X12_sum_77_5 rec l0 (l1.toInt64 + u10.toInt64) M11))))))))
set_option maxRecDepth 100000 in
set_option maxHeartbeats 4000000 in
theorem jW_X12_sum_45_5 {K : q_K} {Q : State → Prop} {n0 : Nat} (C : q_C K yX12_sum cX12_sum 5 (Option.some Jvm.ClassFile.FieldType.int) (n0 + 6 + 1) 0 0) {rec : (Nat → Nat → q_Mem → Option (Int32 × q_Mem))} (hr : Hr_X12_atom n0 rec) (l0 : Nat) (l1 : Int32) (s0 : Int32) (M : q_Mem) {stp : (Int32 × q_Mem) ⊕ (Int32 × q_Mem)} (h : J_X12_sum_45_5 rec l0 l1 s0 M = some stp) (kC : ∀ (l1 : Int32) (M : q_Mem), stp = .inl (l1, M) → q_W K 5 Q 0 0 M 5 [some (.ref l0), some (.int l1), none, none, none] []) (kE0 : ∀ (l1 : Int32) (M : q_Mem), stp = .inr (l1, M) → q_W K 5 Q 0 0 M 84 [none, some (.int l1), none, none, none] []) : q_W K 5 Q 0 0 M 45 [some (.ref l0), some (.int l1), none, none, none] [.int s0] := by
  unfold J_X12_sum_45_5 at h
  refine q_istore_n (L' := [some (.ref l0), some (.int l1), some (.int s0), none, none]) C dX12_sum_45 (by decide) rfl rfl ?_
  refine q_aload_n C dX12_sum_46 rfl ?_
  refine q_dup C dX12_sum_47 rfl ?_
  refine x_getI (ci := 12) (j := 10) C dX12_sum_48 lkF_X12_115 rfl h (fun v8 h => ?_)
  refine x_iconst (v := (1 : Int32)) C dX12_sum_51 (by decide) ?_
  refine q_iadd C dX12_sum_52 ?_
  refine x_putI (ci := 12) (j := 10) C dX12_sum_53 lkF_X12_115 (fun r hr => by cases hr; rfl) rfl h (fun M9 h => ?_)
  refine q_aload_n C dX12_sum_56 rfl ?_
  obtain ⟨hk, h⟩ := q_obE h
  obtain ⟨⟨u10, M11⟩, e1, h⟩ := q_bind h
  refine x_callV0 C dX12_sum_57 lkM_X12_174 mV_X12_term ⟨_, rfl, rfl⟩ hk ((hr _ _).2.2 _ _ _ _ e1) rfl rfl (Nat.le_of_ble_eq_true rfl) (⟨by omega, by decide⟩) (by decide) ?_
  refine q_i2l C dX12_sum_60 ?_
  refine q_lstore_n (L' := [some (.ref l0), some (.int l1), some (.int s0), some (.long u10.toInt64), none]) C dX12_sum_61 (by decide) rfl rfl ?_
  refine q_iload_n C dX12_sum_62 rfl ?_
  refine q_if_eq (tgt := 73) C dX12_sum_63 (by decide) h (fun _ h => ?_) (fun _ h => ?_)
  · refine q_iload_n C dX12_sum_73 rfl ?_
    refine q_i2l C dX12_sum_74 ?_
    refine q_lload_n C dX12_sum_75 rfl ?_
    refine q_lsub C dX12_sum_76 ?_
    exact q_msk [true, false, false, false, false] (jW_X12_sum_77_5 C hr l0 (l1.toInt64 - u10.toInt64) M11 h kC kE0)
  · refine q_iload_n C dX12_sum_66 rfl ?_
    refine q_i2l C dX12_sum_67 ?_
    refine q_lload_n C dX12_sum_68 rfl ?_
    refine q_ladd C dX12_sum_69 ?_
    refine q_goto (tgt := 77) C dX12_sum_70 (by decide) ?_
    exact q_msk [true, false, false, false, false] (jW_X12_sum_77_5 C hr l0 (l1.toInt64 + u10.toInt64) M11 h kC kE0)
noncomputable def J_X12_sum_31_5 (rec : (Nat → Nat → q_Mem → Option (Int32 × q_Mem))) (l0 : Nat) (l1 : Int32) (M : q_Mem) : Option ((Int32 × q_Mem) ⊕ (Int32 × q_Mem)) := (q_ob M l0 12 ((F_X12_look l0 M).bind (fun x => match x with | (u6, M7) => (if u6 = (43 : Int32) then J_X12_sum_45_5 rec l0 l1 (1 : Int32) M7 else J_X12_sum_45_5 rec l0 l1 (0 : Int32) M7))))
set_option maxRecDepth 100000 in
set_option maxHeartbeats 4000000 in
theorem jW_X12_sum_31_5 {K : q_K} {Q : State → Prop} {n0 : Nat} (C : q_C K yX12_sum cX12_sum 5 (Option.some Jvm.ClassFile.FieldType.int) (n0 + 6 + 1) 0 0) {rec : (Nat → Nat → q_Mem → Option (Int32 × q_Mem))} (hr : Hr_X12_atom n0 rec) (l0 : Nat) (l1 : Int32) (M : q_Mem) {stp : (Int32 × q_Mem) ⊕ (Int32 × q_Mem)} (h : J_X12_sum_31_5 rec l0 l1 M = some stp) (kC : ∀ (l1 : Int32) (M : q_Mem), stp = .inl (l1, M) → q_W K 5 Q 0 0 M 5 [some (.ref l0), some (.int l1), none, none, none] []) (kE0 : ∀ (l1 : Int32) (M : q_Mem), stp = .inr (l1, M) → q_W K 5 Q 0 0 M 84 [none, some (.int l1), none, none, none] []) : q_W K 5 Q 0 0 M 31 [some (.ref l0), some (.int l1), none, none, none] [] := by
  unfold J_X12_sum_31_5 at h
  refine q_aload_n C dX12_sum_31 rfl ?_
  obtain ⟨hk, h⟩ := q_obE h
  obtain ⟨⟨u6, M7⟩, e1, h⟩ := q_bind h
  refine x_callV0 C dX12_sum_32 lkM_X12_134 mV_X12_look ⟨_, rfl, rfl⟩ hk (c_X12_look _ _ _ _ e1) rfl rfl (Nat.le_of_ble_eq_true rfl) (⟨by omega, by decide⟩) (by decide) ?_
  refine x_bipush (v := (43 : Int32)) C dX12_sum_35 (by decide) ?_
  refine q_icmp_ne (tgt := 44) C dX12_sum_37 (by decide) h (fun _ h => ?_) (fun _ h => ?_)
  · refine x_iconst (v := (1 : Int32)) C dX12_sum_40 (by decide) ?_
    refine q_goto (tgt := 45) C dX12_sum_41 (by decide) ?_
    exact q_msk [true, true, false, false, false] (jW_X12_sum_45_5 C hr l0 l1 (1 : Int32) M7 h kC kE0)
  · refine x_iconst (v := (0 : Int32)) C dX12_sum_44 (by decide) ?_
    exact q_msk [true, true, false, false, false] (jW_X12_sum_45_5 C hr l0 l1 (0 : Int32) M7 h kC kE0)
noncomputable def B_X12_sum_5 (rec : (Nat → Nat → q_Mem → Option (Int32 × q_Mem))) (l0 : Nat) (l1 : Int32) (M : q_Mem) : Option ((Int32 × q_Mem) ⊕ (Int32 × q_Mem)) := (q_gI M l0 12 11 (fun v3 => (if v3 = (-1 : Int32) then (q_ob M l0 12 ((F_X12_look l0 M).bind (fun x => match x with | (u4, M5) => (if u4 = (43 : Int32) then J_X12_sum_31_5 rec l0 l1 M5 else (q_ob M5 l0 12 ((F_X12_look l0 M5).bind (fun x => match x with | (u13, M14) => (if u13 = (45 : Int32) then J_X12_sum_31_5 rec l0 l1 M14 else some (.inr (l1, M14)))))))))) else some (.inr (l1, M)))))
set_option maxRecDepth 100000 in
set_option maxHeartbeats 4000000 in
theorem bW_X12_sum_5 {K : q_K} {Q : State → Prop} {n0 : Nat} (C : q_C K yX12_sum cX12_sum 5 (Option.some Jvm.ClassFile.FieldType.int) (n0 + 6 + 1) 0 0) {rec : (Nat → Nat → q_Mem → Option (Int32 × q_Mem))} (hr : Hr_X12_atom n0 rec) (l0 : Nat) (l1 : Int32) (M : q_Mem) {stp : (Int32 × q_Mem) ⊕ (Int32 × q_Mem)} (h : B_X12_sum_5 rec l0 l1 M = some stp) (kC : ∀ (l1 : Int32) (M : q_Mem), stp = .inl (l1, M) → q_W K 5 Q 0 0 M 5 [some (.ref l0), some (.int l1), none, none, none] []) (kE0 : ∀ (l1 : Int32) (M : q_Mem), stp = .inr (l1, M) → q_W K 5 Q 0 0 M 84 [none, some (.int l1), none, none, none] []) : q_W K 5 Q 0 0 M 5 [some (.ref l0), some (.int l1), none, none, none] [] := by
  unfold B_X12_sum_5 at h
  refine q_aload_n C dX12_sum_5 rfl ?_
  refine x_getI (ci := 12) (j := 11) C dX12_sum_6 lkF_X12_124 rfl h (fun v3 h => ?_)
  refine x_iconst (v := (-1 : Int32)) C dX12_sum_9 (by decide) ?_
  refine q_icmp_ne (tgt := 84) C dX12_sum_10 (by decide) h (fun _ h => ?_) (fun _ h => ?_)
  · refine q_aload_n C dX12_sum_13 rfl ?_
    obtain ⟨hk, h⟩ := q_obE h
    obtain ⟨⟨u4, M5⟩, e1, h⟩ := q_bind h
    refine x_callV0 C dX12_sum_14 lkM_X12_134 mV_X12_look ⟨_, rfl, rfl⟩ hk (c_X12_look _ _ _ _ e1) rfl rfl (Nat.le_of_ble_eq_true rfl) (⟨by omega, by decide⟩) (by decide) ?_
    refine x_bipush (v := (43 : Int32)) C dX12_sum_17 (by decide) ?_
    refine q_icmp_eq (tgt := 31) C dX12_sum_19 (by decide) h (fun _ h => ?_) (fun _ h => ?_)
    · exact q_msk [true, true, false, false, false] (jW_X12_sum_31_5 C hr l0 l1 M5 h kC kE0)
    · refine q_aload_n C dX12_sum_22 rfl ?_
      obtain ⟨hk, h⟩ := q_obE h
      obtain ⟨⟨u13, M14⟩, e1, h⟩ := q_bind h
      refine x_callV0 C dX12_sum_23 lkM_X12_134 mV_X12_look ⟨_, rfl, rfl⟩ hk (c_X12_look _ _ _ _ e1) rfl rfl (Nat.le_of_ble_eq_true rfl) (⟨by omega, by decide⟩) (by decide) ?_
      refine x_bipush (v := (45 : Int32)) C dX12_sum_26 (by decide) ?_
      refine q_icmp_ne (tgt := 84) C dX12_sum_28 (by decide) h (fun _ h => ?_) (fun _ h => ?_)
      · exact q_msk [true, true, false, false, false] (jW_X12_sum_31_5 C hr l0 l1 M14 h kC kE0)
      · exact q_msk [false, true, false, false, false] (kE0 _ _ (Option.some.inj h).symm)
  · exact q_msk [false, true, false, false, false] (kE0 _ _ (Option.some.inj h).symm)
set_option maxRecDepth 100000 in
set_option maxHeartbeats 4000000 in
theorem lW_X12_sum_5 {K : q_K} {Q : State → Prop} {n0 : Nat} (C : q_C K yX12_sum cX12_sum 5 (Option.some Jvm.ClassFile.FieldType.int) (n0 + 6 + 1) 0 0) {rec : (Nat → Nat → q_Mem → Option (Int32 × q_Mem))} (hr : Hr_X12_atom n0 rec) (l0 : Nat) (n : Nat) : ∀ (l1 : Int32) (M : q_Mem) (e : (Int32 × q_Mem)), q_lp (fun s => B_X12_sum_5 rec l0 s.1 s.2) n (l1, M) = some e → (∀ (l1 : Int32) (M : q_Mem), e = (l1, M) → q_W K 5 Q 0 0 M 84 [none, some (.int l1), none, none, none] []) → q_W K 5 Q 0 0 M 5 [some (.ref l0), some (.int l1), none, none, none] [] := by
  induction n with
  | zero => intro l1 M e h; cases h
  | succ n ih =>
    intro l1 M e h kE0
    obtain ⟨stp, e1, e2⟩ := q_bind h
    refine bW_X12_sum_5 C hr l0 l1 M e1 (fun a0 a1 hs => ?_) (fun b0 b1 hs => ?_)
    · subst hs; exact ih _ _ _ e2 kE0
    · subst hs; exact kE0 _ _ (Option.some.inj e2).symm
noncomputable def F_X12_sum (rec : (Nat → Nat → q_Mem → Option (Int32 × q_Mem))) (l0 : Nat) (M : q_Mem) : Option (Int32 × q_Mem) := (q_ob M l0 12 ((rec 2 l0 M).bind (fun x => match x with | (u1, M2) => (q_lp (fun s => B_X12_sum_5 rec l0 s.1 s.2) q_fu (u1, M2)).bind (fun e15 => match e15 with | (w16, M17) => some (w16, M17)))))
set_option maxRecDepth 100000 in
set_option maxHeartbeats 4000000 in
theorem cr_X12_sum {l : Launch} {G : q_G} {n0 : Nat} {rec : (Nat → Nat → q_Mem → Option (Int32 × q_Mem))} (hr : Hr_X12_atom n0 rec) (l0 : Nat) (M : q_Mem) {r : Int32} {M' : q_Mem} (h : F_X12_sum rec l0 M = some (r, M')) : q_Met l G yX12_sum cX12_sum 5 (Option.some Jvm.ClassFile.FieldType.int) (n0 + 6 + 1) 0 0 [.ref l0] M (some (.int r)) M' := by
  unfold F_X12_sum at h
  refine q_enter [some (.ref l0), none, none, none, none] (by decide) (Nat.le_of_ble_eq_true rfl) rfl (fun K C => ?_)
  refine q_aload_n C dX12_sum_0 rfl ?_
  obtain ⟨hk, h⟩ := q_obE h
  obtain ⟨⟨u1, M2⟩, e1, h⟩ := q_bind h
  refine x_callV0 C dX12_sum_1 lkM_X12_174 mV_X12_term ⟨_, rfl, rfl⟩ hk ((hr _ _).2.2 _ _ _ _ e1) rfl rfl (Nat.le_of_ble_eq_true rfl) (⟨by omega, by decide⟩) (by decide) ?_
  refine q_istore_n (L' := [some (.ref l0), some (.int u1), none, none, none]) C dX12_sum_4 (by decide) rfl rfl ?_
  obtain ⟨e15, he, h⟩ := q_bind h
  refine q_msk [true, true, false, false, false] (lW_X12_sum_5 C hr l0 q_fu _ _ _ he (fun w16 M17 hs => ?_))
  · have hs := hs.symm
    subst hs
    refine q_iload_n C dX12_sum_84 rfl ?_
    exact q_iret C dX12_sum_85 rfl (by decide) (by decide) (Option.some.inj h)
noncomputable def J_X12_term_87_5 (rec : (Nat → Nat → q_Mem → Option (Int32 × q_Mem))) (l0 : Nat) (s0 : Int64) (M : q_Mem) : Option ((Int32 × q_Mem) ⊕ (Int32 × q_Mem)) := ((F_X12_within s0 M).bind (fun u12 => some (.inl (u12, M))))
set_option maxRecDepth 100000 in
set_option maxHeartbeats 4000000 in
theorem jW_X12_term_87_5 {K : q_K} {Q : State → Prop} {n0 : Nat} (C : q_C K yX12_term cX12_term 5 (Option.some Jvm.ClassFile.FieldType.int) (n0 + 6 + 1) 0 0) {rec : (Nat → Nat → q_Mem → Option (Int32 × q_Mem))} (hr : Hr_X12_atom n0 rec) (l0 : Nat) (s0 : Int64) (M : q_Mem) {stp : (Int32 × q_Mem) ⊕ (Int32 × q_Mem)} (h : J_X12_term_87_5 rec l0 s0 M = some stp) (kC : ∀ (l1 : Int32) (M : q_Mem), stp = .inl (l1, M) → q_W K 5 Q 0 0 M 5 [some (.ref l0), some (.int l1), none, none, none] []) (kE0 : ∀ (l1 : Int32) (M : q_Mem), stp = .inr (l1, M) → q_W K 5 Q 0 0 M 94 [none, some (.int l1), none, none, none] []) : q_W K 5 Q 0 0 M 87 [some (.ref l0), none, none, none, none] [.long s0] := by
  unfold J_X12_term_87_5 at h
  obtain ⟨u12, e1, h⟩ := q_bind h
  refine x_callS0 C dX12_term_87 lkM_X12_170 mS_X12_within (c_X12_within _ _ _ _ e1) rfl rfl (Nat.le_of_ble_eq_true rfl) (⟨by omega, by decide⟩) (by decide) ?_
  refine q_istore_n (L' := [some (.ref l0), some (.int u12), none, none, none]) C dX12_term_90 (by decide) rfl rfl ?_
  refine q_goto (tgt := 5) C dX12_term_91 (by decide) ?_
  exact q_msk [true, true, false, false, false] (kC _ _ (Option.some.inj h).symm)
noncomputable def J_X12_term_45_5 (rec : (Nat → Nat → q_Mem → Option (Int32 × q_Mem))) (l0 : Nat) (l1 : Int32) (s0 : Int32) (M : q_Mem) : Option ((Int32 × q_Mem) ⊕ (Int32 × q_Mem)) := (q_gI M l0 12 10 (fun v8 => (q_pI M l0 12 10 (v8 + (1 : Int32)) (fun M9 => (q_ob M9 l0 12 ((rec 0 l0 M9).bind (fun x => match x with | (u10, M11) => (if s0 = 0 then (if (lg_cmp u10.toInt64 (0 : Int64)) = 0 then J_X12_term_87_5 rec l0 (0 : Int64) M11 else (q_dvl l1.toInt64 u10.toInt64 (fun v13 => J_X12_term_87_5 rec l0 v13 M11))) else J_X12_term_87_5 rec l0 (l1.toInt64 * u10.toInt64) M11))))))))
set_option maxRecDepth 100000 in
set_option maxHeartbeats 4000000 in
theorem jW_X12_term_45_5 {K : q_K} {Q : State → Prop} {n0 : Nat} (C : q_C K yX12_term cX12_term 5 (Option.some Jvm.ClassFile.FieldType.int) (n0 + 6 + 1) 0 0) {rec : (Nat → Nat → q_Mem → Option (Int32 × q_Mem))} (hr : Hr_X12_atom n0 rec) (l0 : Nat) (l1 : Int32) (s0 : Int32) (M : q_Mem) {stp : (Int32 × q_Mem) ⊕ (Int32 × q_Mem)} (h : J_X12_term_45_5 rec l0 l1 s0 M = some stp) (kC : ∀ (l1 : Int32) (M : q_Mem), stp = .inl (l1, M) → q_W K 5 Q 0 0 M 5 [some (.ref l0), some (.int l1), none, none, none] []) (kE0 : ∀ (l1 : Int32) (M : q_Mem), stp = .inr (l1, M) → q_W K 5 Q 0 0 M 94 [none, some (.int l1), none, none, none] []) : q_W K 5 Q 0 0 M 45 [some (.ref l0), some (.int l1), none, none, none] [.int s0] := by
  unfold J_X12_term_45_5 at h
  refine q_istore_n (L' := [some (.ref l0), some (.int l1), some (.int s0), none, none]) C dX12_term_45 (by decide) rfl rfl ?_
  refine q_aload_n C dX12_term_46 rfl ?_
  refine q_dup C dX12_term_47 rfl ?_
  refine x_getI (ci := 12) (j := 10) C dX12_term_48 lkF_X12_115 rfl h (fun v8 h => ?_)
  refine x_iconst (v := (1 : Int32)) C dX12_term_51 (by decide) ?_
  refine q_iadd C dX12_term_52 ?_
  refine x_putI (ci := 12) (j := 10) C dX12_term_53 lkF_X12_115 (fun r hr => by cases hr; rfl) rfl h (fun M9 h => ?_)
  refine q_aload_n C dX12_term_56 rfl ?_
  obtain ⟨hk, h⟩ := q_obE h
  obtain ⟨⟨u10, M11⟩, e1, h⟩ := q_bind h
  refine x_callV0 C dX12_term_57 lkM_X12_167 mV_X12_atom ⟨_, rfl, rfl⟩ hk ((hr _ _).1 _ _ _ _ e1) rfl rfl (Nat.le_of_ble_eq_true rfl) (⟨by omega, by decide⟩) (by decide) ?_
  refine q_i2l C dX12_term_60 ?_
  refine q_lstore_n (L' := [some (.ref l0), some (.int l1), some (.int s0), some (.long u10.toInt64), none]) C dX12_term_61 (by decide) rfl rfl ?_
  refine q_iload_n C dX12_term_62 rfl ?_
  refine q_if_eq (tgt := 73) C dX12_term_63 (by decide) h (fun _ h => ?_) (fun _ h => ?_)
  · refine q_lload_n C dX12_term_73 rfl ?_
    refine x_lconst (v := (0 : Int64)) C dX12_term_74 (by decide) ?_
    refine q_lcmp C dX12_term_75 ?_
    refine q_if_ne (tgt := 83) C dX12_term_76 (by decide) h (fun _ h => ?_) (fun _ h => ?_)
    · refine x_lconst (v := (0 : Int64)) C dX12_term_79 (by decide) ?_
      refine q_goto (tgt := 87) C dX12_term_80 (by decide) ?_
      exact q_msk [true, false, false, false, false] (jW_X12_term_87_5 C hr l0 (0 : Int64) M11 h kC kE0)
    · refine q_iload_n C dX12_term_83 rfl ?_
      refine q_i2l C dX12_term_84 ?_
      refine q_lload_n C dX12_term_85 rfl ?_
      refine q_ldiv C dX12_term_86 h (fun v13 h => ?_)
      exact q_msk [true, false, false, false, false] (jW_X12_term_87_5 C hr l0 v13 M11 h kC kE0)
  · refine q_iload_n C dX12_term_66 rfl ?_
    refine q_i2l C dX12_term_67 ?_
    refine q_lload_n C dX12_term_68 rfl ?_
    refine q_lmul C dX12_term_69 ?_
    refine q_goto (tgt := 87) C dX12_term_70 (by decide) ?_
    exact q_msk [true, false, false, false, false] (jW_X12_term_87_5 C hr l0 (l1.toInt64 * u10.toInt64) M11 h kC kE0)
noncomputable def J_X12_term_31_5 (rec : (Nat → Nat → q_Mem → Option (Int32 × q_Mem))) (l0 : Nat) (l1 : Int32) (M : q_Mem) : Option ((Int32 × q_Mem) ⊕ (Int32 × q_Mem)) := (q_ob M l0 12 ((F_X12_look l0 M).bind (fun x => match x with | (u6, M7) => (if u6 = (42 : Int32) then J_X12_term_45_5 rec l0 l1 (1 : Int32) M7 else J_X12_term_45_5 rec l0 l1 (0 : Int32) M7))))
set_option maxRecDepth 100000 in
set_option maxHeartbeats 4000000 in
theorem jW_X12_term_31_5 {K : q_K} {Q : State → Prop} {n0 : Nat} (C : q_C K yX12_term cX12_term 5 (Option.some Jvm.ClassFile.FieldType.int) (n0 + 6 + 1) 0 0) {rec : (Nat → Nat → q_Mem → Option (Int32 × q_Mem))} (hr : Hr_X12_atom n0 rec) (l0 : Nat) (l1 : Int32) (M : q_Mem) {stp : (Int32 × q_Mem) ⊕ (Int32 × q_Mem)} (h : J_X12_term_31_5 rec l0 l1 M = some stp) (kC : ∀ (l1 : Int32) (M : q_Mem), stp = .inl (l1, M) → q_W K 5 Q 0 0 M 5 [some (.ref l0), some (.int l1), none, none, none] []) (kE0 : ∀ (l1 : Int32) (M : q_Mem), stp = .inr (l1, M) → q_W K 5 Q 0 0 M 94 [none, some (.int l1), none, none, none] []) : q_W K 5 Q 0 0 M 31 [some (.ref l0), some (.int l1), none, none, none] [] := by
  unfold J_X12_term_31_5 at h
  refine q_aload_n C dX12_term_31 rfl ?_
  obtain ⟨hk, h⟩ := q_obE h
  obtain ⟨⟨u6, M7⟩, e1, h⟩ := q_bind h
  refine x_callV0 C dX12_term_32 lkM_X12_134 mV_X12_look ⟨_, rfl, rfl⟩ hk (c_X12_look _ _ _ _ e1) rfl rfl (Nat.le_of_ble_eq_true rfl) (⟨by omega, by decide⟩) (by decide) ?_
  refine x_bipush (v := (42 : Int32)) C dX12_term_35 (by decide) ?_
  refine q_icmp_ne (tgt := 44) C dX12_term_37 (by decide) h (fun _ h => ?_) (fun _ h => ?_)
  · refine x_iconst (v := (1 : Int32)) C dX12_term_40 (by decide) ?_
    refine q_goto (tgt := 45) C dX12_term_41 (by decide) ?_
    exact q_msk [true, true, false, false, false] (jW_X12_term_45_5 C hr l0 l1 (1 : Int32) M7 h kC kE0)
  · refine x_iconst (v := (0 : Int32)) C dX12_term_44 (by decide) ?_
    exact q_msk [true, true, false, false, false] (jW_X12_term_45_5 C hr l0 l1 (0 : Int32) M7 h kC kE0)
noncomputable def B_X12_term_5 (rec : (Nat → Nat → q_Mem → Option (Int32 × q_Mem))) (l0 : Nat) (l1 : Int32) (M : q_Mem) : Option ((Int32 × q_Mem) ⊕ (Int32 × q_Mem)) := (q_gI M l0 12 11 (fun v3 => (if v3 = (-1 : Int32) then (q_ob M l0 12 ((F_X12_look l0 M).bind (fun x => match x with | (u4, M5) => (if u4 = (42 : Int32) then J_X12_term_31_5 rec l0 l1 M5 else (q_ob M5 l0 12 ((F_X12_look l0 M5).bind (fun x => match x with | (u14, M15) => (if u14 = (47 : Int32) then J_X12_term_31_5 rec l0 l1 M15 else some (.inr (l1, M15)))))))))) else some (.inr (l1, M)))))
set_option maxRecDepth 100000 in
set_option maxHeartbeats 4000000 in
theorem bW_X12_term_5 {K : q_K} {Q : State → Prop} {n0 : Nat} (C : q_C K yX12_term cX12_term 5 (Option.some Jvm.ClassFile.FieldType.int) (n0 + 6 + 1) 0 0) {rec : (Nat → Nat → q_Mem → Option (Int32 × q_Mem))} (hr : Hr_X12_atom n0 rec) (l0 : Nat) (l1 : Int32) (M : q_Mem) {stp : (Int32 × q_Mem) ⊕ (Int32 × q_Mem)} (h : B_X12_term_5 rec l0 l1 M = some stp) (kC : ∀ (l1 : Int32) (M : q_Mem), stp = .inl (l1, M) → q_W K 5 Q 0 0 M 5 [some (.ref l0), some (.int l1), none, none, none] []) (kE0 : ∀ (l1 : Int32) (M : q_Mem), stp = .inr (l1, M) → q_W K 5 Q 0 0 M 94 [none, some (.int l1), none, none, none] []) : q_W K 5 Q 0 0 M 5 [some (.ref l0), some (.int l1), none, none, none] [] := by
  unfold B_X12_term_5 at h
  refine q_aload_n C dX12_term_5 rfl ?_
  refine x_getI (ci := 12) (j := 11) C dX12_term_6 lkF_X12_124 rfl h (fun v3 h => ?_)
  refine x_iconst (v := (-1 : Int32)) C dX12_term_9 (by decide) ?_
  refine q_icmp_ne (tgt := 94) C dX12_term_10 (by decide) h (fun _ h => ?_) (fun _ h => ?_)
  · refine q_aload_n C dX12_term_13 rfl ?_
    obtain ⟨hk, h⟩ := q_obE h
    obtain ⟨⟨u4, M5⟩, e1, h⟩ := q_bind h
    refine x_callV0 C dX12_term_14 lkM_X12_134 mV_X12_look ⟨_, rfl, rfl⟩ hk (c_X12_look _ _ _ _ e1) rfl rfl (Nat.le_of_ble_eq_true rfl) (⟨by omega, by decide⟩) (by decide) ?_
    refine x_bipush (v := (42 : Int32)) C dX12_term_17 (by decide) ?_
    refine q_icmp_eq (tgt := 31) C dX12_term_19 (by decide) h (fun _ h => ?_) (fun _ h => ?_)
    · exact q_msk [true, true, false, false, false] (jW_X12_term_31_5 C hr l0 l1 M5 h kC kE0)
    · refine q_aload_n C dX12_term_22 rfl ?_
      obtain ⟨hk, h⟩ := q_obE h
      obtain ⟨⟨u14, M15⟩, e1, h⟩ := q_bind h
      refine x_callV0 C dX12_term_23 lkM_X12_134 mV_X12_look ⟨_, rfl, rfl⟩ hk (c_X12_look _ _ _ _ e1) rfl rfl (Nat.le_of_ble_eq_true rfl) (⟨by omega, by decide⟩) (by decide) ?_
      refine x_bipush (v := (47 : Int32)) C dX12_term_26 (by decide) ?_
      refine q_icmp_ne (tgt := 94) C dX12_term_28 (by decide) h (fun _ h => ?_) (fun _ h => ?_)
      · exact q_msk [true, true, false, false, false] (jW_X12_term_31_5 C hr l0 l1 M15 h kC kE0)
      · exact q_msk [false, true, false, false, false] (kE0 _ _ (Option.some.inj h).symm)
  · exact q_msk [false, true, false, false, false] (kE0 _ _ (Option.some.inj h).symm)
set_option maxRecDepth 100000 in
set_option maxHeartbeats 4000000 in
theorem lW_X12_term_5 {K : q_K} {Q : State → Prop} {n0 : Nat} (C : q_C K yX12_term cX12_term 5 (Option.some Jvm.ClassFile.FieldType.int) (n0 + 6 + 1) 0 0) {rec : (Nat → Nat → q_Mem → Option (Int32 × q_Mem))} (hr : Hr_X12_atom n0 rec) (l0 : Nat) (n : Nat) : ∀ (l1 : Int32) (M : q_Mem) (e : (Int32 × q_Mem)), q_lp (fun s => B_X12_term_5 rec l0 s.1 s.2) n (l1, M) = some e → (∀ (l1 : Int32) (M : q_Mem), e = (l1, M) → q_W K 5 Q 0 0 M 94 [none, some (.int l1), none, none, none] []) → q_W K 5 Q 0 0 M 5 [some (.ref l0), some (.int l1), none, none, none] [] := by
  induction n with
  | zero => intro l1 M e h; cases h
  | succ n ih =>
    intro l1 M e h kE0
    obtain ⟨stp, e1, e2⟩ := q_bind h
    refine bW_X12_term_5 C hr l0 l1 M e1 (fun a0 a1 hs => ?_) (fun b0 b1 hs => ?_)
    · subst hs; exact ih _ _ _ e2 kE0
    · subst hs; exact kE0 _ _ (Option.some.inj e2).symm
noncomputable def F_X12_term (rec : (Nat → Nat → q_Mem → Option (Int32 × q_Mem))) (l0 : Nat) (M : q_Mem) : Option (Int32 × q_Mem) := (q_ob M l0 12 ((rec 0 l0 M).bind (fun x => match x with | (u1, M2) => (q_lp (fun s => B_X12_term_5 rec l0 s.1 s.2) q_fu (u1, M2)).bind (fun e16 => match e16 with | (w17, M18) => some (w17, M18)))))
set_option maxRecDepth 100000 in
set_option maxHeartbeats 4000000 in
theorem cr_X12_term {l : Launch} {G : q_G} {n0 : Nat} {rec : (Nat → Nat → q_Mem → Option (Int32 × q_Mem))} (hr : Hr_X12_atom n0 rec) (l0 : Nat) (M : q_Mem) {r : Int32} {M' : q_Mem} (h : F_X12_term rec l0 M = some (r, M')) : q_Met l G yX12_term cX12_term 5 (Option.some Jvm.ClassFile.FieldType.int) (n0 + 6 + 1) 0 0 [.ref l0] M (some (.int r)) M' := by
  unfold F_X12_term at h
  refine q_enter [some (.ref l0), none, none, none, none] (by decide) (Nat.le_of_ble_eq_true rfl) rfl (fun K C => ?_)
  refine q_aload_n C dX12_term_0 rfl ?_
  obtain ⟨hk, h⟩ := q_obE h
  obtain ⟨⟨u1, M2⟩, e1, h⟩ := q_bind h
  refine x_callV0 C dX12_term_1 lkM_X12_167 mV_X12_atom ⟨_, rfl, rfl⟩ hk ((hr _ _).1 _ _ _ _ e1) rfl rfl (Nat.le_of_ble_eq_true rfl) (⟨by omega, by decide⟩) (by decide) ?_
  refine q_istore_n (L' := [some (.ref l0), some (.int u1), none, none, none]) C dX12_term_4 (by decide) rfl rfl ?_
  obtain ⟨e16, he, h⟩ := q_bind h
  refine q_msk [true, true, false, false, false] (lW_X12_term_5 C hr l0 q_fu _ _ _ he (fun w17 M18 hs => ?_))
  · have hs := hs.symm
    subst hs
    refine q_iload_n C dX12_term_94 rfl ?_
    exact q_iret C dX12_term_95 rfl (by decide) (by decide) (Option.some.inj h)
noncomputable def R_X12_atom : Nat → Nat → Nat → q_Mem → Option (Int32 × q_Mem)
  | 0 => fun _ _ _ => none
  | n + 1 => fun tag a0  M => match tag with | 0 => F_X12_atom (R_X12_atom n) a0 M | 1 => F_X12_sum (R_X12_atom n) a0 M | _ => F_X12_term (R_X12_atom n) a0 M
set_option maxRecDepth 100000 in
theorem Rok_X12_atom (n : Nat) : Hr_X12_atom n (R_X12_atom n) := by
  induction n with
  | zero => exact fun l G => ⟨(fun a0 M r M' h => by cases h), (fun a0 M r M' h => by cases h), (fun a0 M r M' h => by cases h)⟩
  | succ n ih => exact fun l G => ⟨(fun a0 M r M' h => cr_X12_atom ih a0 M h), (fun a0 M r M' h => cr_X12_sum ih a0 M h), (fun a0 M r M' h => cr_X12_term ih a0 M h)⟩
theorem c_X12_atom (l : Launch) (G : q_G) (a0 : Nat) (M : q_Mem) {r : Int32} {M' : q_Mem} (h : R_X12_atom 60 0 a0 M = some (r, M')) : q_Met l G yX12_atom cX12_atom 4 (Option.some Jvm.ClassFile.FieldType.int) 66 0 0 [.ref a0] M (some (.int r)) M' := (Rok_X12_atom 60 l G).1 a0 M r M' h
theorem c_X12_sum (l : Launch) (G : q_G) (a0 : Nat) (M : q_Mem) {r : Int32} {M' : q_Mem} (h : R_X12_atom 60 1 a0 M = some (r, M')) : q_Met l G yX12_sum cX12_sum 5 (Option.some Jvm.ClassFile.FieldType.int) 66 0 0 [.ref a0] M (some (.int r)) M' := (Rok_X12_atom 60 l G).2.1 a0 M r M' h
theorem c_X12_term (l : Launch) (G : q_G) (a0 : Nat) (M : q_Mem) {r : Int32} {M' : q_Mem} (h : R_X12_atom 60 2 a0 M = some (r, M')) : q_Met l G yX12_term cX12_term 5 (Option.some Jvm.ClassFile.FieldType.int) 66 0 0 [.ref a0] M (some (.int r)) M' := (Rok_X12_atom 60 l G).2.2 a0 M r M' h
noncomputable def F_X12_isSign (l0 : Int32) (M : q_Mem) : Option (Int32) := (if l0 = (61 : Int32) then q_rq (1 : Int32) else (if l0 = (60 : Int32) then q_rq (1 : Int32) else (if l0 = (62 : Int32) then q_rq (1 : Int32) else q_rq (0 : Int32))))
set_option maxRecDepth 100000 in
set_option maxHeartbeats 4000000 in
theorem c_X12_isSign (l : Launch) (G : q_G) (l0 : Int32) (M : q_Mem) {r : Int32} (h : F_X12_isSign l0 M = some r) : q_Met l G yX12_isSign cX12_isSign 1 (Option.some Jvm.ClassFile.FieldType.boolean) 1 0 0 [.int l0] M (some (.int r)) M := by
  unfold F_X12_isSign at h
  refine q_enter [some (.int l0)] (by decide) (Nat.le_of_ble_eq_true rfl) rfl (fun K C => ?_)
  refine q_iload_n C dX12_isSign_0 rfl ?_
  refine x_bipush (v := (61 : Int32)) C dX12_isSign_1 (by decide) ?_
  refine q_icmp_eq (tgt := 18) C dX12_isSign_3 (by decide) h (fun _ h => ?_) (fun _ h => ?_)
  · refine x_iconst (v := (1 : Int32)) C dX12_isSign_18 (by decide) ?_
    refine q_goto (tgt := 23) C dX12_isSign_19 (by decide) ?_
    exact q_zret (res := (r, M)) C dX12_isSign_23 rfl (by decide) (by decide) (q_rqE h).1 (congrArg (fun z => (z, M)) (q_rqE h).2)
  · refine q_iload_n C dX12_isSign_6 rfl ?_
    refine x_bipush (v := (60 : Int32)) C dX12_isSign_7 (by decide) ?_
    refine q_icmp_eq (tgt := 18) C dX12_isSign_9 (by decide) h (fun _ h => ?_) (fun _ h => ?_)
    · refine x_iconst (v := (1 : Int32)) C dX12_isSign_18 (by decide) ?_
      refine q_goto (tgt := 23) C dX12_isSign_19 (by decide) ?_
      exact q_zret (res := (r, M)) C dX12_isSign_23 rfl (by decide) (by decide) (q_rqE h).1 (congrArg (fun z => (z, M)) (q_rqE h).2)
    · refine q_iload_n C dX12_isSign_12 rfl ?_
      refine x_bipush (v := (62 : Int32)) C dX12_isSign_13 (by decide) ?_
      refine q_icmp_ne (tgt := 22) C dX12_isSign_15 (by decide) h (fun _ h => ?_) (fun _ h => ?_)
      · refine x_iconst (v := (1 : Int32)) C dX12_isSign_18 (by decide) ?_
        refine q_goto (tgt := 23) C dX12_isSign_19 (by decide) ?_
        exact q_zret (res := (r, M)) C dX12_isSign_23 rfl (by decide) (by decide) (q_rqE h).1 (congrArg (fun z => (z, M)) (q_rqE h).2)
      · refine x_iconst (v := (0 : Int32)) C dX12_isSign_22 (by decide) ?_
        exact q_zret (res := (r, M)) C dX12_isSign_23 rfl (by decide) (by decide) (q_rqE h).1 (congrArg (fun z => (z, M)) (q_rqE h).2)
noncomputable def J_X12_compares_12 (l0 : Nat) (s0 : Int32) (M : q_Mem) : Option (Int32 × q_Mem) := (q_gI M l0 12 11 (fun v3 => (if v3 = (-1 : Int32) then (q_ob M l0 12 ((F_X12_look l0 M).bind (fun x => match x with | (u4, M5) => ((F_X12_isSign u4 M5).bind (fun u6 => (if u6 = 0 then (q_ob M5 l0 12 ((F_X12_fails l0 M5).bind (fun x => match x with | (u7, M8) => q_rz u7 M8))) else (q_gI M5 l0 12 10 (fun v9 => (q_pI M5 l0 12 10 (v9 + (1 : Int32)) (fun M10 => (q_ob M10 l0 12 ((R_X12_atom 60 1 l0 M10).bind (fun x => match x with | (u11, M12) => (if u4 = (61 : Int32) then (if s0 = u11 then q_rz (1 : Int32) M12 else q_rz (0 : Int32) M12) else (if u4 = (60 : Int32) then (if s0 < u11 then q_rz (1 : Int32) M12 else q_rz (0 : Int32) M12) else (if u11 < s0 then q_rz (1 : Int32) M12 else q_rz (0 : Int32) M12)))))))))))))))) else q_rz (0 : Int32) M)))
set_option maxRecDepth 100000 in
set_option maxHeartbeats 4000000 in
theorem jW_X12_compares_12 {K : q_K} (C : q_C K yX12_compares cX12_compares 6 (Option.some Jvm.ClassFile.FieldType.boolean) 67 0 0) (l0 : Nat) (s0 : Int32) (M : q_Mem) {r : Int32} {M' : q_Mem} (h : J_X12_compares_12 l0 s0 M = some (r, M')) : q_W K 6 (q_Q K (some (.int r)) M' 0 0) 0 0 M 12 [some (.ref l0), none, none, none, none, none] [.int s0] := by
  unfold J_X12_compares_12 at h
  refine q_istore_n (L' := [some (.ref l0), none, none, some (.int s0), none, none]) C dX12_compares_12 (by decide) rfl rfl ?_
  refine q_aload_n C dX12_compares_13 rfl ?_
  refine x_getI (ci := 12) (j := 11) C dX12_compares_14 lkF_X12_124 rfl h (fun v3 h => ?_)
  refine x_iconst (v := (-1 : Int32)) C dX12_compares_17 (by decide) ?_
  refine q_icmp_eq (tgt := 23) C dX12_compares_18 (by decide) h (fun _ h => ?_) (fun _ h => ?_)
  · refine q_aload_n C dX12_compares_23 rfl ?_
    obtain ⟨hk, h⟩ := q_obE h
    obtain ⟨⟨u4, M5⟩, e1, h⟩ := q_bind h
    refine x_callV0 C dX12_compares_24 lkM_X12_134 mV_X12_look ⟨_, rfl, rfl⟩ hk (c_X12_look _ _ _ _ e1) rfl rfl (Nat.le_of_ble_eq_true rfl) (by decide) (by decide) ?_
    refine q_istore (L' := [some (.ref l0), none, none, some (.int s0), some (.int u4), none]) C dX12_compares_27 (by decide) rfl rfl ?_
    refine q_iload C dX12_compares_29 rfl ?_
    obtain ⟨u6, e1, h⟩ := q_bind h
    refine x_callS0 C dX12_compares_31 lkM_X12_177 mS_X12_isSign (c_X12_isSign _ _ _ _ e1) rfl rfl (Nat.le_of_ble_eq_true rfl) (by decide) (by decide) ?_
    refine q_if_ne (tgt := 42) C dX12_compares_34 (by decide) h (fun _ h => ?_) (fun _ h => ?_)
    · refine q_aload_n C dX12_compares_37 rfl ?_
      obtain ⟨hk, h⟩ := q_obE h
      obtain ⟨⟨u7, M8⟩, e1, h⟩ := q_bind h
      refine x_callV0 C dX12_compares_38 lkM_X12_130 mV_X12_fails ⟨_, rfl, rfl⟩ hk (c_X12_fails _ _ _ _ e1) rfl rfl (Nat.le_of_ble_eq_true rfl) (by decide) (by decide) ?_
      exact q_zret C dX12_compares_41 rfl (by decide) (by decide) (q_rzE h).1 (q_rzE h).2
    · refine q_aload_n C dX12_compares_42 rfl ?_
      refine q_dup C dX12_compares_43 rfl ?_
      refine x_getI (ci := 12) (j := 10) C dX12_compares_44 lkF_X12_115 rfl h (fun v9 h => ?_)
      refine x_iconst (v := (1 : Int32)) C dX12_compares_47 (by decide) ?_
      refine q_iadd C dX12_compares_48 ?_
      refine x_putI (ci := 12) (j := 10) C dX12_compares_49 lkF_X12_115 (fun r hr => by cases hr; rfl) rfl h (fun M10 h => ?_)
      refine q_aload_n C dX12_compares_52 rfl ?_
      obtain ⟨hk, h⟩ := q_obE h
      obtain ⟨⟨u11, M12⟩, e1, h⟩ := q_bind h
      refine x_callV0 C dX12_compares_53 lkM_X12_157 mV_X12_sum ⟨_, rfl, rfl⟩ hk (c_X12_sum _ _ _ _ e1) rfl rfl (Nat.le_of_ble_eq_true rfl) (by decide) (by decide) ?_
      refine q_istore (L' := [some (.ref l0), none, none, some (.int s0), some (.int u4), some (.int u11)]) C dX12_compares_56 (by decide) rfl rfl ?_
      refine q_iload C dX12_compares_58 rfl ?_
      refine x_bipush (v := (61 : Int32)) C dX12_compares_60 (by decide) ?_
      refine q_icmp_ne (tgt := 79) C dX12_compares_62 (by decide) h (fun _ h => ?_) (fun _ h => ?_)
      · refine q_iload_n C dX12_compares_65 rfl ?_
        refine q_iload C dX12_compares_66 rfl ?_
        refine q_icmp_ne (tgt := 75) C dX12_compares_68 (by decide) h (fun _ h => ?_) (fun _ h => ?_)
        · refine x_iconst (v := (1 : Int32)) C dX12_compares_71 (by decide) ?_
          refine q_goto (tgt := 111) C dX12_compares_72 (by decide) ?_
          exact q_zret C dX12_compares_111 rfl (by decide) (by decide) (q_rzE h).1 (q_rzE h).2
        · refine x_iconst (v := (0 : Int32)) C dX12_compares_75 (by decide) ?_
          refine q_goto (tgt := 111) C dX12_compares_76 (by decide) ?_
          exact q_zret C dX12_compares_111 rfl (by decide) (by decide) (q_rzE h).1 (q_rzE h).2
      · refine q_iload C dX12_compares_79 rfl ?_
        refine x_bipush (v := (60 : Int32)) C dX12_compares_81 (by decide) ?_
        refine q_icmp_ne (tgt := 100) C dX12_compares_83 (by decide) h (fun _ h => ?_) (fun _ h => ?_)
        · refine q_iload_n C dX12_compares_86 rfl ?_
          refine q_iload C dX12_compares_87 rfl ?_
          refine q_icmp_ge (tgt := 96) C dX12_compares_89 (by decide) h (fun _ h => ?_) (fun _ h => ?_)
          · refine x_iconst (v := (1 : Int32)) C dX12_compares_92 (by decide) ?_
            refine q_goto (tgt := 111) C dX12_compares_93 (by decide) ?_
            exact q_zret C dX12_compares_111 rfl (by decide) (by decide) (q_rzE h).1 (q_rzE h).2
          · refine x_iconst (v := (0 : Int32)) C dX12_compares_96 (by decide) ?_
            refine q_goto (tgt := 111) C dX12_compares_97 (by decide) ?_
            exact q_zret C dX12_compares_111 rfl (by decide) (by decide) (q_rzE h).1 (q_rzE h).2
        · refine q_iload_n C dX12_compares_100 rfl ?_
          refine q_iload C dX12_compares_101 rfl ?_
          refine q_icmp_le (tgt := 110) C dX12_compares_103 (by decide) h (fun _ h => ?_) (fun _ h => ?_)
          · refine x_iconst (v := (1 : Int32)) C dX12_compares_106 (by decide) ?_
            refine q_goto (tgt := 111) C dX12_compares_107 (by decide) ?_
            exact q_zret C dX12_compares_111 rfl (by decide) (by decide) (q_rzE h).1 (q_rzE h).2
          · refine x_iconst (v := (0 : Int32)) C dX12_compares_110 (by decide) ?_
            exact q_zret C dX12_compares_111 rfl (by decide) (by decide) (q_rzE h).1 (q_rzE h).2
  · refine x_iconst (v := (0 : Int32)) C dX12_compares_21 (by decide) ?_
    exact q_zret C dX12_compares_22 rfl (by decide) (by decide) (q_rzE h).1 (q_rzE h).2
noncomputable def F_X12_compares (l0 : Nat) (l1 : Int32) (l2 : Int32) (M : q_Mem) : Option (Int32 × q_Mem) := (if l1 = 0 then (q_ob M l0 12 ((R_X12_atom 60 1 l0 M).bind (fun x => match x with | (u1, M2) => J_X12_compares_12 l0 u1 M2))) else J_X12_compares_12 l0 l2 M)
set_option maxRecDepth 100000 in
set_option maxHeartbeats 4000000 in
theorem c_X12_compares (l : Launch) (G : q_G) (l0 : Nat) (l1 : Int32) (l2 : Int32) (M : q_Mem) {r : Int32} {M' : q_Mem} (h : F_X12_compares l0 l1 l2 M = some (r, M')) : q_Met l G yX12_compares cX12_compares 6 (Option.some Jvm.ClassFile.FieldType.boolean) 67 0 0 [.ref l0, .int l1, .int l2] M (some (.int r)) M' := by
  unfold F_X12_compares at h
  refine q_enter [some (.ref l0), some (.int l1), some (.int l2), none, none, none] (by decide) (Nat.le_of_ble_eq_true rfl) rfl (fun K C => ?_)
  refine q_iload_n C dX12_compares_0 rfl ?_
  refine q_if_eq (tgt := 8) C dX12_compares_1 (by decide) h (fun _ h => ?_) (fun _ h => ?_)
  · refine q_aload_n C dX12_compares_8 rfl ?_
    obtain ⟨hk, h⟩ := q_obE h
    obtain ⟨⟨u1, M2⟩, e1, h⟩ := q_bind h
    refine x_callV0 C dX12_compares_9 lkM_X12_157 mV_X12_sum ⟨_, rfl, rfl⟩ hk (c_X12_sum _ _ _ _ e1) rfl rfl (Nat.le_of_ble_eq_true rfl) (by decide) (by decide) ?_
    exact q_msk [true, false, false, false, false, false] (jW_X12_compares_12 C l0 u1 M2 h)
  · refine q_iload_n C dX12_compares_4 rfl ?_
    refine q_goto (tgt := 12) C dX12_compares_5 (by decide) ?_
    exact q_msk [true, false, false, false, false, false] (jW_X12_compares_12 C l0 l2 M h)
def Hr_X12_condition (n0 : Nat) (rec : (Nat → Nat → Int32 → Int32 → q_Mem → Option (Int32 × q_Mem))) : Prop := ∀ (l : Launch) (G : q_G), (∀ (a0 : Nat) (a1 : Int32) (a2 : Int32) (M : q_Mem) (r : Int32) (M' : q_Mem), rec 0 a0 a1 a2 M = some (r, M') → q_Met l G yX12_condition cX12_condition 5 (Option.some Jvm.ClassFile.FieldType.boolean) (n0 + 68) 0 0 [.ref a0, .int a1, .int a2] M (some (.int r)) M') ∧ (∀ (a0 : Nat) (a1 : Int32) (a2 : Int32) (M : q_Mem) (r : Int32) (M' : q_Mem), rec 1 a0 a1 a2 M = some (r, M') → q_Met l G yX12_part cX12_part 5 (Option.some Jvm.ClassFile.FieldType.boolean) (n0 + 68) 0 0 [.ref a0, .int a1, .int a2] M (some (.int r)) M') ∧ (∀ (a0 : Nat) (M : q_Mem) (r : Int32) (M' : q_Mem), rec 2 a0 0 0 M = some (r, M') → q_Met l G yX12_unit cX12_unit 3 (Option.some Jvm.ClassFile.FieldType.boolean) (n0 + 68) 0 0 [.ref a0] M (some (.int r)) M')
noncomputable def J_X12_condition_56_7 (rec : (Nat → Nat → Int32 → Int32 → q_Mem → Option (Int32 × q_Mem))) (l0 : Nat) (s0 : Int32) (M : q_Mem) : Option ((Int32 × q_Mem) ⊕ (Int32 × q_Mem)) := some (.inl (s0, M))
set_option maxRecDepth 100000 in
set_option maxHeartbeats 4000000 in
theorem jW_X12_condition_56_7 {K : q_K} {Q : State → Prop} {n0 : Nat} (C : q_C K yX12_condition cX12_condition 5 (Option.some Jvm.ClassFile.FieldType.boolean) (n0 + 68 + 1) 0 0) {rec : (Nat → Nat → Int32 → Int32 → q_Mem → Option (Int32 × q_Mem))} (hr : Hr_X12_condition n0 rec) (l0 : Nat) (s0 : Int32) (M : q_Mem) {stp : (Int32 × q_Mem) ⊕ (Int32 × q_Mem)} (h : J_X12_condition_56_7 rec l0 s0 M = some stp) (kC : ∀ (l3 : Int32) (M : q_Mem), stp = .inl (l3, M) → q_W K 5 Q 0 0 M 7 [some (.ref l0), none, none, some (.int l3), none] []) (kE0 : ∀ (l3 : Int32) (M : q_Mem), stp = .inr (l3, M) → q_W K 5 Q 0 0 M 60 [none, none, none, some (.int l3), none] []) : q_W K 5 Q 0 0 M 56 [some (.ref l0), none, none, none, none] [.int s0] := by
  unfold J_X12_condition_56_7 at h
  refine q_istore_n (L' := [some (.ref l0), none, none, some (.int s0), none]) C dX12_condition_56 (by decide) rfl rfl ?_
  refine q_goto (tgt := 7) C dX12_condition_57 (by decide) ?_
  exact q_msk [true, false, false, true, false] (kC _ _ (Option.some.inj h).symm)
noncomputable def J_X12_condition_51_7 (rec : (Nat → Nat → Int32 → Int32 → q_Mem → Option (Int32 × q_Mem))) (l0 : Nat) (M : q_Mem) : Option ((Int32 × q_Mem) ⊕ (Int32 × q_Mem)) := J_X12_condition_56_7 rec l0 (1 : Int32) M
set_option maxRecDepth 100000 in
set_option maxHeartbeats 4000000 in
theorem jW_X12_condition_51_7 {K : q_K} {Q : State → Prop} {n0 : Nat} (C : q_C K yX12_condition cX12_condition 5 (Option.some Jvm.ClassFile.FieldType.boolean) (n0 + 68 + 1) 0 0) {rec : (Nat → Nat → Int32 → Int32 → q_Mem → Option (Int32 × q_Mem))} (hr : Hr_X12_condition n0 rec) (l0 : Nat) (M : q_Mem) {stp : (Int32 × q_Mem) ⊕ (Int32 × q_Mem)} (h : J_X12_condition_51_7 rec l0 M = some stp) (kC : ∀ (l3 : Int32) (M : q_Mem), stp = .inl (l3, M) → q_W K 5 Q 0 0 M 7 [some (.ref l0), none, none, some (.int l3), none] []) (kE0 : ∀ (l3 : Int32) (M : q_Mem), stp = .inr (l3, M) → q_W K 5 Q 0 0 M 60 [none, none, none, some (.int l3), none] []) : q_W K 5 Q 0 0 M 51 [some (.ref l0), none, none, none, none] [] := by
  unfold J_X12_condition_51_7 at h
  refine x_iconst (v := (1 : Int32)) C dX12_condition_51 (by decide) ?_
  refine q_goto (tgt := 56) C dX12_condition_52 (by decide) ?_
  exact q_msk [true, false, false, false, false] (jW_X12_condition_56_7 C hr l0 (1 : Int32) M h kC kE0)
noncomputable def B_X12_condition_7 (rec : (Nat → Nat → Int32 → Int32 → q_Mem → Option (Int32 × q_Mem))) (l0 : Nat) (l3 : Int32) (M : q_Mem) : Option ((Int32 × q_Mem) ⊕ (Int32 × q_Mem)) := (q_gI M l0 12 11 (fun v3 => (if v3 = (-1 : Int32) then (q_ob M l0 12 ((F_X12_look l0 M).bind (fun x => match x with | (u4, M5) => (if u4 = (124 : Int32) then (q_gI M5 l0 12 10 (fun v6 => (q_pI M5 l0 12 10 (v6 + (1 : Int32)) (fun M7 => (q_ob M7 l0 12 ((rec 1 l0 (0 : Int32) (0 : Int32) M7).bind (fun x => match x with | (u8, M9) => (if l3 = 0 then (if u8 = 0 then J_X12_condition_56_7 rec l0 (0 : Int32) M9 else J_X12_condition_51_7 rec l0 M9) else J_X12_condition_51_7 rec l0 M9)))))))) else some (.inr (l3, M5)))))) else some (.inr (l3, M)))))
set_option maxRecDepth 100000 in
set_option maxHeartbeats 4000000 in
theorem bW_X12_condition_7 {K : q_K} {Q : State → Prop} {n0 : Nat} (C : q_C K yX12_condition cX12_condition 5 (Option.some Jvm.ClassFile.FieldType.boolean) (n0 + 68 + 1) 0 0) {rec : (Nat → Nat → Int32 → Int32 → q_Mem → Option (Int32 × q_Mem))} (hr : Hr_X12_condition n0 rec) (l0 : Nat) (l3 : Int32) (M : q_Mem) {stp : (Int32 × q_Mem) ⊕ (Int32 × q_Mem)} (h : B_X12_condition_7 rec l0 l3 M = some stp) (kC : ∀ (l3 : Int32) (M : q_Mem), stp = .inl (l3, M) → q_W K 5 Q 0 0 M 7 [some (.ref l0), none, none, some (.int l3), none] []) (kE0 : ∀ (l3 : Int32) (M : q_Mem), stp = .inr (l3, M) → q_W K 5 Q 0 0 M 60 [none, none, none, some (.int l3), none] []) : q_W K 5 Q 0 0 M 7 [some (.ref l0), none, none, some (.int l3), none] [] := by
  unfold B_X12_condition_7 at h
  refine q_aload_n C dX12_condition_7 rfl ?_
  refine x_getI (ci := 12) (j := 11) C dX12_condition_8 lkF_X12_124 rfl h (fun v3 h => ?_)
  refine x_iconst (v := (-1 : Int32)) C dX12_condition_11 (by decide) ?_
  refine q_icmp_ne (tgt := 60) C dX12_condition_12 (by decide) h (fun _ h => ?_) (fun _ h => ?_)
  · refine q_aload_n C dX12_condition_15 rfl ?_
    obtain ⟨hk, h⟩ := q_obE h
    obtain ⟨⟨u4, M5⟩, e1, h⟩ := q_bind h
    refine x_callV0 C dX12_condition_16 lkM_X12_134 mV_X12_look ⟨_, rfl, rfl⟩ hk (c_X12_look _ _ _ _ e1) rfl rfl (Nat.le_of_ble_eq_true rfl) (⟨by omega, by decide⟩) (by decide) ?_
    refine x_bipush (v := (124 : Int32)) C dX12_condition_19 (by decide) ?_
    refine q_icmp_ne (tgt := 60) C dX12_condition_21 (by decide) h (fun _ h => ?_) (fun _ h => ?_)
    · refine q_aload_n C dX12_condition_24 rfl ?_
      refine q_dup C dX12_condition_25 rfl ?_
      refine x_getI (ci := 12) (j := 10) C dX12_condition_26 lkF_X12_115 rfl h (fun v6 h => ?_)
      refine x_iconst (v := (1 : Int32)) C dX12_condition_29 (by decide) ?_
      refine q_iadd C dX12_condition_30 ?_
      refine x_putI (ci := 12) (j := 10) C dX12_condition_31 lkF_X12_115 (fun r hr => by cases hr; rfl) rfl h (fun M7 h => ?_)
      refine q_aload_n C dX12_condition_34 rfl ?_
      refine x_iconst (v := (0 : Int32)) C dX12_condition_35 (by decide) ?_
      refine x_iconst (v := (0 : Int32)) C dX12_condition_36 (by decide) ?_
      obtain ⟨hk, h⟩ := q_obE h
      obtain ⟨⟨u8, M9⟩, e1, h⟩ := q_bind h
      refine x_callV0 C dX12_condition_37 lkM_X12_190 mV_X12_part ⟨_, rfl, rfl⟩ hk ((hr _ _).2.1 _ _ _ _ _ _ e1) rfl rfl (Nat.le_of_ble_eq_true rfl) (⟨by omega, by decide⟩) (by decide) ?_
      refine q_istore (L' := [some (.ref l0), none, none, some (.int l3), some (.int u8)]) C dX12_condition_40 (by decide) rfl rfl ?_
      refine q_iload_n C dX12_condition_42 rfl ?_
      refine q_if_ne (tgt := 51) C dX12_condition_43 (by decide) h (fun _ h => ?_) (fun _ h => ?_)
      · refine q_iload C dX12_condition_46 rfl ?_
        refine q_if_eq (tgt := 55) C dX12_condition_48 (by decide) h (fun _ h => ?_) (fun _ h => ?_)
        · refine x_iconst (v := (0 : Int32)) C dX12_condition_55 (by decide) ?_
          exact q_msk [true, false, false, false, false] (jW_X12_condition_56_7 C hr l0 (0 : Int32) M9 h kC kE0)
        · exact q_msk [true, false, false, false, false] (jW_X12_condition_51_7 C hr l0 M9 h kC kE0)
      · exact q_msk [true, false, false, false, false] (jW_X12_condition_51_7 C hr l0 M9 h kC kE0)
    · exact q_msk [false, false, false, true, false] (kE0 _ _ (Option.some.inj h).symm)
  · exact q_msk [false, false, false, true, false] (kE0 _ _ (Option.some.inj h).symm)
set_option maxRecDepth 100000 in
set_option maxHeartbeats 4000000 in
theorem lW_X12_condition_7 {K : q_K} {Q : State → Prop} {n0 : Nat} (C : q_C K yX12_condition cX12_condition 5 (Option.some Jvm.ClassFile.FieldType.boolean) (n0 + 68 + 1) 0 0) {rec : (Nat → Nat → Int32 → Int32 → q_Mem → Option (Int32 × q_Mem))} (hr : Hr_X12_condition n0 rec) (l0 : Nat) (n : Nat) : ∀ (l3 : Int32) (M : q_Mem) (e : (Int32 × q_Mem)), q_lp (fun s => B_X12_condition_7 rec l0 s.1 s.2) n (l3, M) = some e → (∀ (l3 : Int32) (M : q_Mem), e = (l3, M) → q_W K 5 Q 0 0 M 60 [none, none, none, some (.int l3), none] []) → q_W K 5 Q 0 0 M 7 [some (.ref l0), none, none, some (.int l3), none] [] := by
  induction n with
  | zero => intro l3 M e h; cases h
  | succ n ih =>
    intro l3 M e h kE0
    obtain ⟨stp, e1, e2⟩ := q_bind h
    refine bW_X12_condition_7 C hr l0 l3 M e1 (fun a0 a1 hs => ?_) (fun b0 b1 hs => ?_)
    · subst hs; exact ih _ _ _ e2 kE0
    · subst hs; exact kE0 _ _ (Option.some.inj e2).symm
noncomputable def F_X12_condition (rec : (Nat → Nat → Int32 → Int32 → q_Mem → Option (Int32 × q_Mem))) (l0 : Nat) (l1 : Int32) (l2 : Int32) (M : q_Mem) : Option (Int32 × q_Mem) := (q_ob M l0 12 ((rec 1 l0 l1 l2 M).bind (fun x => match x with | (u1, M2) => (q_lp (fun s => B_X12_condition_7 rec l0 s.1 s.2) q_fu (u1, M2)).bind (fun e10 => match e10 with | (w11, M12) => q_rz w11 M12))))
set_option maxRecDepth 100000 in
set_option maxHeartbeats 4000000 in
theorem cr_X12_condition {l : Launch} {G : q_G} {n0 : Nat} {rec : (Nat → Nat → Int32 → Int32 → q_Mem → Option (Int32 × q_Mem))} (hr : Hr_X12_condition n0 rec) (l0 : Nat) (l1 : Int32) (l2 : Int32) (M : q_Mem) {r : Int32} {M' : q_Mem} (h : F_X12_condition rec l0 l1 l2 M = some (r, M')) : q_Met l G yX12_condition cX12_condition 5 (Option.some Jvm.ClassFile.FieldType.boolean) (n0 + 68 + 1) 0 0 [.ref l0, .int l1, .int l2] M (some (.int r)) M' := by
  unfold F_X12_condition at h
  refine q_enter [some (.ref l0), some (.int l1), some (.int l2), none, none] (by decide) (Nat.le_of_ble_eq_true rfl) rfl (fun K C => ?_)
  refine q_aload_n C dX12_condition_0 rfl ?_
  refine q_iload_n C dX12_condition_1 rfl ?_
  refine q_iload_n C dX12_condition_2 rfl ?_
  obtain ⟨hk, h⟩ := q_obE h
  obtain ⟨⟨u1, M2⟩, e1, h⟩ := q_bind h
  refine x_callV0 C dX12_condition_3 lkM_X12_190 mV_X12_part ⟨_, rfl, rfl⟩ hk ((hr _ _).2.1 _ _ _ _ _ _ e1) rfl rfl (Nat.le_of_ble_eq_true rfl) (⟨by omega, by decide⟩) (by decide) ?_
  refine q_istore_n (L' := [some (.ref l0), some (.int l1), some (.int l2), some (.int u1), none]) C dX12_condition_6 (by decide) rfl rfl ?_
  obtain ⟨e10, he, h⟩ := q_bind h
  refine q_msk [true, false, false, true, false] (lW_X12_condition_7 C hr l0 q_fu _ _ _ he (fun w11 M12 hs => ?_))
  · have hs := hs.symm
    subst hs
    refine q_iload_n C dX12_condition_60 rfl ?_
    exact q_zret C dX12_condition_61 rfl (by decide) (by decide) (q_rzE h).1 (q_rzE h).2
noncomputable def J_X12_part_65_18 (rec : (Nat → Nat → Int32 → Int32 → q_Mem → Option (Int32 × q_Mem))) (l0 : Nat) (s0 : Int32) (M : q_Mem) : Option ((Int32 × q_Mem) ⊕ (Int32 × q_Mem)) := some (.inl (s0, M))
set_option maxRecDepth 100000 in
set_option maxHeartbeats 4000000 in
theorem jW_X12_part_65_18 {K : q_K} {Q : State → Prop} {n0 : Nat} (C : q_C K yX12_part cX12_part 5 (Option.some Jvm.ClassFile.FieldType.boolean) (n0 + 68 + 1) 0 0) {rec : (Nat → Nat → Int32 → Int32 → q_Mem → Option (Int32 × q_Mem))} (hr : Hr_X12_condition n0 rec) (l0 : Nat) (s0 : Int32) (M : q_Mem) {stp : (Int32 × q_Mem) ⊕ (Int32 × q_Mem)} (h : J_X12_part_65_18 rec l0 s0 M = some stp) (kC : ∀ (l3 : Int32) (M : q_Mem), stp = .inl (l3, M) → q_W K 5 Q 0 0 M 18 [some (.ref l0), none, none, some (.int l3), none] []) (kE0 : ∀ (l3 : Int32) (M : q_Mem), stp = .inr (l3, M) → q_W K 5 Q 0 0 M 69 [none, none, none, some (.int l3), none] []) : q_W K 5 Q 0 0 M 65 [some (.ref l0), none, none, none, none] [.int s0] := by
  unfold J_X12_part_65_18 at h
  refine q_istore_n (L' := [some (.ref l0), none, none, some (.int s0), none]) C dX12_part_65 (by decide) rfl rfl ?_
  refine q_goto (tgt := 18) C dX12_part_66 (by decide) ?_
  exact q_msk [true, false, false, true, false] (kC _ _ (Option.some.inj h).symm)
noncomputable def J_X12_part_64_18 (rec : (Nat → Nat → Int32 → Int32 → q_Mem → Option (Int32 × q_Mem))) (l0 : Nat) (M : q_Mem) : Option ((Int32 × q_Mem) ⊕ (Int32 × q_Mem)) := J_X12_part_65_18 rec l0 (0 : Int32) M
set_option maxRecDepth 100000 in
set_option maxHeartbeats 4000000 in
theorem jW_X12_part_64_18 {K : q_K} {Q : State → Prop} {n0 : Nat} (C : q_C K yX12_part cX12_part 5 (Option.some Jvm.ClassFile.FieldType.boolean) (n0 + 68 + 1) 0 0) {rec : (Nat → Nat → Int32 → Int32 → q_Mem → Option (Int32 × q_Mem))} (hr : Hr_X12_condition n0 rec) (l0 : Nat) (M : q_Mem) {stp : (Int32 × q_Mem) ⊕ (Int32 × q_Mem)} (h : J_X12_part_64_18 rec l0 M = some stp) (kC : ∀ (l3 : Int32) (M : q_Mem), stp = .inl (l3, M) → q_W K 5 Q 0 0 M 18 [some (.ref l0), none, none, some (.int l3), none] []) (kE0 : ∀ (l3 : Int32) (M : q_Mem), stp = .inr (l3, M) → q_W K 5 Q 0 0 M 69 [none, none, none, some (.int l3), none] []) : q_W K 5 Q 0 0 M 64 [some (.ref l0), none, none, none, none] [] := by
  unfold J_X12_part_64_18 at h
  refine x_iconst (v := (0 : Int32)) C dX12_part_64 (by decide) ?_
  exact q_msk [true, false, false, false, false] (jW_X12_part_65_18 C hr l0 (0 : Int32) M h kC kE0)
noncomputable def B_X12_part_18 (rec : (Nat → Nat → Int32 → Int32 → q_Mem → Option (Int32 × q_Mem))) (l0 : Nat) (l3 : Int32) (M : q_Mem) : Option ((Int32 × q_Mem) ⊕ (Int32 × q_Mem)) := (q_gI M l0 12 11 (fun v3 => (if v3 = (-1 : Int32) then (q_ob M l0 12 ((F_X12_look l0 M).bind (fun x => match x with | (u4, M5) => (if u4 = (38 : Int32) then (q_gI M5 l0 12 10 (fun v6 => (q_pI M5 l0 12 10 (v6 + (1 : Int32)) (fun M7 => (q_ob M7 l0 12 ((rec 2 l0 0 0 M7).bind (fun x => match x with | (u8, M9) => (if l3 = 0 then J_X12_part_64_18 rec l0 M9 else (if u8 = 0 then J_X12_part_64_18 rec l0 M9 else J_X12_part_65_18 rec l0 (1 : Int32) M9))))))))) else some (.inr (l3, M5)))))) else some (.inr (l3, M)))))
set_option maxRecDepth 100000 in
set_option maxHeartbeats 4000000 in
theorem bW_X12_part_18 {K : q_K} {Q : State → Prop} {n0 : Nat} (C : q_C K yX12_part cX12_part 5 (Option.some Jvm.ClassFile.FieldType.boolean) (n0 + 68 + 1) 0 0) {rec : (Nat → Nat → Int32 → Int32 → q_Mem → Option (Int32 × q_Mem))} (hr : Hr_X12_condition n0 rec) (l0 : Nat) (l3 : Int32) (M : q_Mem) {stp : (Int32 × q_Mem) ⊕ (Int32 × q_Mem)} (h : B_X12_part_18 rec l0 l3 M = some stp) (kC : ∀ (l3 : Int32) (M : q_Mem), stp = .inl (l3, M) → q_W K 5 Q 0 0 M 18 [some (.ref l0), none, none, some (.int l3), none] []) (kE0 : ∀ (l3 : Int32) (M : q_Mem), stp = .inr (l3, M) → q_W K 5 Q 0 0 M 69 [none, none, none, some (.int l3), none] []) : q_W K 5 Q 0 0 M 18 [some (.ref l0), none, none, some (.int l3), none] [] := by
  unfold B_X12_part_18 at h
  refine q_aload_n C dX12_part_18 rfl ?_
  refine x_getI (ci := 12) (j := 11) C dX12_part_19 lkF_X12_124 rfl h (fun v3 h => ?_)
  refine x_iconst (v := (-1 : Int32)) C dX12_part_22 (by decide) ?_
  refine q_icmp_ne (tgt := 69) C dX12_part_23 (by decide) h (fun _ h => ?_) (fun _ h => ?_)
  · refine q_aload_n C dX12_part_26 rfl ?_
    obtain ⟨hk, h⟩ := q_obE h
    obtain ⟨⟨u4, M5⟩, e1, h⟩ := q_bind h
    refine x_callV0 C dX12_part_27 lkM_X12_134 mV_X12_look ⟨_, rfl, rfl⟩ hk (c_X12_look _ _ _ _ e1) rfl rfl (Nat.le_of_ble_eq_true rfl) (⟨by omega, by decide⟩) (by decide) ?_
    refine x_bipush (v := (38 : Int32)) C dX12_part_30 (by decide) ?_
    refine q_icmp_ne (tgt := 69) C dX12_part_32 (by decide) h (fun _ h => ?_) (fun _ h => ?_)
    · refine q_aload_n C dX12_part_35 rfl ?_
      refine q_dup C dX12_part_36 rfl ?_
      refine x_getI (ci := 12) (j := 10) C dX12_part_37 lkF_X12_115 rfl h (fun v6 h => ?_)
      refine x_iconst (v := (1 : Int32)) C dX12_part_40 (by decide) ?_
      refine q_iadd C dX12_part_41 ?_
      refine x_putI (ci := 12) (j := 10) C dX12_part_42 lkF_X12_115 (fun r hr => by cases hr; rfl) rfl h (fun M7 h => ?_)
      refine q_aload_n C dX12_part_45 rfl ?_
      obtain ⟨hk, h⟩ := q_obE h
      obtain ⟨⟨u8, M9⟩, e1, h⟩ := q_bind h
      refine x_callV0 C dX12_part_46 lkM_X12_180 mV_X12_unit ⟨_, rfl, rfl⟩ hk ((hr _ _).2.2 _ _ _ _ e1) rfl rfl (Nat.le_of_ble_eq_true rfl) (⟨by omega, by decide⟩) (by decide) ?_
      refine q_istore (L' := [some (.ref l0), none, none, some (.int l3), some (.int u8)]) C dX12_part_49 (by decide) rfl rfl ?_
      refine q_iload_n C dX12_part_51 rfl ?_
      refine q_if_eq (tgt := 64) C dX12_part_52 (by decide) h (fun _ h => ?_) (fun _ h => ?_)
      · exact q_msk [true, false, false, false, false] (jW_X12_part_64_18 C hr l0 M9 h kC kE0)
      · refine q_iload C dX12_part_55 rfl ?_
        refine q_if_eq (tgt := 64) C dX12_part_57 (by decide) h (fun _ h => ?_) (fun _ h => ?_)
        · exact q_msk [true, false, false, false, false] (jW_X12_part_64_18 C hr l0 M9 h kC kE0)
        · refine x_iconst (v := (1 : Int32)) C dX12_part_60 (by decide) ?_
          refine q_goto (tgt := 65) C dX12_part_61 (by decide) ?_
          exact q_msk [true, false, false, false, false] (jW_X12_part_65_18 C hr l0 (1 : Int32) M9 h kC kE0)
    · exact q_msk [false, false, false, true, false] (kE0 _ _ (Option.some.inj h).symm)
  · exact q_msk [false, false, false, true, false] (kE0 _ _ (Option.some.inj h).symm)
set_option maxRecDepth 100000 in
set_option maxHeartbeats 4000000 in
theorem lW_X12_part_18 {K : q_K} {Q : State → Prop} {n0 : Nat} (C : q_C K yX12_part cX12_part 5 (Option.some Jvm.ClassFile.FieldType.boolean) (n0 + 68 + 1) 0 0) {rec : (Nat → Nat → Int32 → Int32 → q_Mem → Option (Int32 × q_Mem))} (hr : Hr_X12_condition n0 rec) (l0 : Nat) (n : Nat) : ∀ (l3 : Int32) (M : q_Mem) (e : (Int32 × q_Mem)), q_lp (fun s => B_X12_part_18 rec l0 s.1 s.2) n (l3, M) = some e → (∀ (l3 : Int32) (M : q_Mem), e = (l3, M) → q_W K 5 Q 0 0 M 69 [none, none, none, some (.int l3), none] []) → q_W K 5 Q 0 0 M 18 [some (.ref l0), none, none, some (.int l3), none] [] := by
  induction n with
  | zero => intro l3 M e h; cases h
  | succ n ih =>
    intro l3 M e h kE0
    obtain ⟨stp, e1, e2⟩ := q_bind h
    refine bW_X12_part_18 C hr l0 l3 M e1 (fun a0 a1 hs => ?_) (fun b0 b1 hs => ?_)
    · subst hs; exact ih _ _ _ e2 kE0
    · subst hs; exact kE0 _ _ (Option.some.inj e2).symm
noncomputable def J_X12_part_17 (rec : (Nat → Nat → Int32 → Int32 → q_Mem → Option (Int32 × q_Mem))) (l0 : Nat) (s0 : Int32) (M : q_Mem) : Option (Int32 × q_Mem) := (q_lp (fun s => B_X12_part_18 rec l0 s.1 s.2) q_fu (s0, M)).bind (fun e10 => match e10 with | (w11, M12) => q_rz w11 M12)
set_option maxRecDepth 100000 in
set_option maxHeartbeats 4000000 in
theorem jW_X12_part_17 {K : q_K} {n0 : Nat} (C : q_C K yX12_part cX12_part 5 (Option.some Jvm.ClassFile.FieldType.boolean) (n0 + 68 + 1) 0 0) {rec : (Nat → Nat → Int32 → Int32 → q_Mem → Option (Int32 × q_Mem))} (hr : Hr_X12_condition n0 rec) (l0 : Nat) (s0 : Int32) (M : q_Mem) {r : Int32} {M' : q_Mem} (h : J_X12_part_17 rec l0 s0 M = some (r, M')) : q_W K 5 (q_Q K (some (.int r)) M' 0 0) 0 0 M 17 [some (.ref l0), none, none, none, none] [.int s0] := by
  unfold J_X12_part_17 at h
  refine q_istore_n (L' := [some (.ref l0), none, none, some (.int s0), none]) C dX12_part_17 (by decide) rfl rfl ?_
  obtain ⟨e10, he, h⟩ := q_bind h
  refine q_msk [true, false, false, true, false] (lW_X12_part_18 C hr l0 q_fu _ _ _ he (fun w11 M12 hs => ?_))
  · have hs := hs.symm
    subst hs
    refine q_iload_n C dX12_part_69 rfl ?_
    exact q_zret C dX12_part_70 rfl (by decide) (by decide) (q_rzE h).1 (q_rzE h).2
noncomputable def F_X12_part (rec : (Nat → Nat → Int32 → Int32 → q_Mem → Option (Int32 × q_Mem))) (l0 : Nat) (l1 : Int32) (l2 : Int32) (M : q_Mem) : Option (Int32 × q_Mem) := (if l1 = 0 then (q_ob M l0 12 ((rec 2 l0 0 0 M).bind (fun x => match x with | (u1, M2) => J_X12_part_17 rec l0 u1 M2))) else (q_ob M l0 12 ((F_X12_compares l0 (1 : Int32) l2 M).bind (fun x => match x with | (u13, M14) => J_X12_part_17 rec l0 u13 M14))))
set_option maxRecDepth 100000 in
set_option maxHeartbeats 4000000 in
theorem cr_X12_part {l : Launch} {G : q_G} {n0 : Nat} {rec : (Nat → Nat → Int32 → Int32 → q_Mem → Option (Int32 × q_Mem))} (hr : Hr_X12_condition n0 rec) (l0 : Nat) (l1 : Int32) (l2 : Int32) (M : q_Mem) {r : Int32} {M' : q_Mem} (h : F_X12_part rec l0 l1 l2 M = some (r, M')) : q_Met l G yX12_part cX12_part 5 (Option.some Jvm.ClassFile.FieldType.boolean) (n0 + 68 + 1) 0 0 [.ref l0, .int l1, .int l2] M (some (.int r)) M' := by
  unfold F_X12_part at h
  refine q_enter [some (.ref l0), some (.int l1), some (.int l2), none, none] (by decide) (Nat.le_of_ble_eq_true rfl) rfl (fun K C => ?_)
  refine q_iload_n C dX12_part_0 rfl ?_
  refine q_if_eq (tgt := 13) C dX12_part_1 (by decide) h (fun _ h => ?_) (fun _ h => ?_)
  · refine q_aload_n C dX12_part_13 rfl ?_
    obtain ⟨hk, h⟩ := q_obE h
    obtain ⟨⟨u1, M2⟩, e1, h⟩ := q_bind h
    refine x_callV0 C dX12_part_14 lkM_X12_180 mV_X12_unit ⟨_, rfl, rfl⟩ hk ((hr _ _).2.2 _ _ _ _ e1) rfl rfl (Nat.le_of_ble_eq_true rfl) (⟨by omega, by decide⟩) (by decide) ?_
    exact q_msk [true, false, false, false, false] (jW_X12_part_17 C hr l0 u1 M2 h)
  · refine q_aload_n C dX12_part_4 rfl ?_
    refine x_iconst (v := (1 : Int32)) C dX12_part_5 (by decide) ?_
    refine q_iload_n C dX12_part_6 rfl ?_
    obtain ⟨hk, h⟩ := q_obE h
    obtain ⟨⟨u13, M14⟩, e1, h⟩ := q_bind h
    refine x_callV0 C dX12_part_7 lkM_X12_187 mV_X12_compares ⟨_, rfl, rfl⟩ hk (c_X12_compares _ _ _ _ _ _ e1) rfl rfl (Nat.le_of_ble_eq_true rfl) (⟨by omega, by decide⟩) (by decide) ?_
    refine q_goto (tgt := 17) C dX12_part_10 (by decide) ?_
    exact q_msk [true, false, false, false, false] (jW_X12_part_17 C hr l0 u13 M14 h)
noncomputable def F_X12_unit (rec : (Nat → Nat → Int32 → Int32 → q_Mem → Option (Int32 × q_Mem))) (l0 : Nat) (M : q_Mem) : Option (Int32 × q_Mem) := (q_ob M l0 12 ((F_X12_look l0 M).bind (fun x => match x with | (u1, M2) => (if u1 = (33 : Int32) then (q_ob M2 l0 12 ((F_X12_goesIn l0 M2).bind (fun x => match x with | (u3, M4) => (if u3 = 0 then q_rz (0 : Int32) M4 else (q_ob M4 l0 12 ((rec 2 l0 0 0 M4).bind (fun x => match x with | (u5, M6) => (q_gI M6 l0 12 12 (fun v7 => (q_pI M6 l0 12 12 (v7 - (1 : Int32)) (fun M8 => (if u5 = 0 then q_rz (1 : Int32) M8 else q_rz (0 : Int32) M8)))))))))))) else (if u1 = (40 : Int32) then (q_ob M2 l0 12 ((F_X12_goesIn l0 M2).bind (fun x => match x with | (u9, M10) => (if u9 = 0 then q_rz (0 : Int32) M10 else (q_ob M10 l0 12 ((rec 0 l0 (0 : Int32) (0 : Int32) M10).bind (fun x => match x with | (u11, M12) => (q_ob M12 l0 12 ((F_X12_takes l0 (41 : Int32) M12).bind (fun x => match x with | (u13, M14) => (if u13 = 0 then q_rz (0 : Int32) M14 else (q_gI M14 l0 12 12 (fun v15 => (q_pI M14 l0 12 12 (v15 - (1 : Int32)) (fun M16 => q_rz u11 M16))))))))))))))) else (q_ob M2 l0 12 ((F_X12_compares l0 (0 : Int32) (0 : Int32) M2).bind (fun x => match x with | (u17, M18) => q_rz u17 M18))))))))
set_option maxRecDepth 100000 in
set_option maxHeartbeats 4000000 in
theorem cr_X12_unit {l : Launch} {G : q_G} {n0 : Nat} {rec : (Nat → Nat → Int32 → Int32 → q_Mem → Option (Int32 × q_Mem))} (hr : Hr_X12_condition n0 rec) (l0 : Nat) (M : q_Mem) {r : Int32} {M' : q_Mem} (h : F_X12_unit rec l0 M = some (r, M')) : q_Met l G yX12_unit cX12_unit 3 (Option.some Jvm.ClassFile.FieldType.boolean) (n0 + 68 + 1) 0 0 [.ref l0] M (some (.int r)) M' := by
  unfold F_X12_unit at h
  refine q_enter [some (.ref l0), none, none] (by decide) (Nat.le_of_ble_eq_true rfl) rfl (fun K C => ?_)
  refine q_aload_n C dX12_unit_0 rfl ?_
  obtain ⟨hk, h⟩ := q_obE h
  obtain ⟨⟨u1, M2⟩, e1, h⟩ := q_bind h
  refine x_callV0 C dX12_unit_1 lkM_X12_134 mV_X12_look ⟨_, rfl, rfl⟩ hk (c_X12_look _ _ _ _ e1) rfl rfl (Nat.le_of_ble_eq_true rfl) (⟨by omega, by decide⟩) (by decide) ?_
  refine q_istore_n (L' := [some (.ref l0), some (.int u1), none]) C dX12_unit_4 (by decide) rfl rfl ?_
  refine q_iload_n C dX12_unit_5 rfl ?_
  refine x_bipush (v := (33 : Int32)) C dX12_unit_6 (by decide) ?_
  refine q_icmp_ne (tgt := 45) C dX12_unit_8 (by decide) h (fun _ h => ?_) (fun _ h => ?_)
  · refine q_aload_n C dX12_unit_11 rfl ?_
    obtain ⟨hk, h⟩ := q_obE h
    obtain ⟨⟨u3, M4⟩, e1, h⟩ := q_bind h
    refine x_callV0 C dX12_unit_12 lkM_X12_154 mV_X12_goesIn ⟨_, rfl, rfl⟩ hk (c_X12_goesIn _ _ _ _ e1) rfl rfl (Nat.le_of_ble_eq_true rfl) (⟨by omega, by decide⟩) (by decide) ?_
    refine q_if_ne (tgt := 20) C dX12_unit_15 (by decide) h (fun _ h => ?_) (fun _ h => ?_)
    · refine x_iconst (v := (0 : Int32)) C dX12_unit_18 (by decide) ?_
      exact q_zret C dX12_unit_19 rfl (by decide) (by decide) (q_rzE h).1 (q_rzE h).2
    · refine q_aload_n C dX12_unit_20 rfl ?_
      obtain ⟨hk, h⟩ := q_obE h
      obtain ⟨⟨u5, M6⟩, e1, h⟩ := q_bind h
      refine x_callV0 C dX12_unit_21 lkM_X12_180 mV_X12_unit ⟨_, rfl, rfl⟩ hk ((hr _ _).2.2 _ _ _ _ e1) rfl rfl (Nat.le_of_ble_eq_true rfl) (⟨by omega, by decide⟩) (by decide) ?_
      refine q_istore_n (L' := [some (.ref l0), some (.int u1), some (.int u5)]) C dX12_unit_24 (by decide) rfl rfl ?_
      refine q_aload_n C dX12_unit_25 rfl ?_
      refine q_dup C dX12_unit_26 rfl ?_
      refine x_getI (ci := 12) (j := 12) C dX12_unit_27 lkF_X12_127 rfl h (fun v7 h => ?_)
      refine x_iconst (v := (1 : Int32)) C dX12_unit_30 (by decide) ?_
      refine q_isub C dX12_unit_31 ?_
      refine x_putI (ci := 12) (j := 12) C dX12_unit_32 lkF_X12_127 (fun r hr => by cases hr; rfl) rfl h (fun M8 h => ?_)
      refine q_iload_n C dX12_unit_35 rfl ?_
      refine q_if_ne (tgt := 43) C dX12_unit_36 (by decide) h (fun _ h => ?_) (fun _ h => ?_)
      · refine x_iconst (v := (1 : Int32)) C dX12_unit_39 (by decide) ?_
        refine q_goto (tgt := 44) C dX12_unit_40 (by decide) ?_
        exact q_zret C dX12_unit_44 rfl (by decide) (by decide) (q_rzE h).1 (q_rzE h).2
      · refine x_iconst (v := (0 : Int32)) C dX12_unit_43 (by decide) ?_
        exact q_zret C dX12_unit_44 rfl (by decide) (by decide) (q_rzE h).1 (q_rzE h).2
  · refine q_iload_n C dX12_unit_45 rfl ?_
    refine x_bipush (v := (40 : Int32)) C dX12_unit_46 (by decide) ?_
    refine q_icmp_ne (tgt := 90) C dX12_unit_48 (by decide) h (fun _ h => ?_) (fun _ h => ?_)
    · refine q_aload_n C dX12_unit_51 rfl ?_
      obtain ⟨hk, h⟩ := q_obE h
      obtain ⟨⟨u9, M10⟩, e1, h⟩ := q_bind h
      refine x_callV0 C dX12_unit_52 lkM_X12_154 mV_X12_goesIn ⟨_, rfl, rfl⟩ hk (c_X12_goesIn _ _ _ _ e1) rfl rfl (Nat.le_of_ble_eq_true rfl) (⟨by omega, by decide⟩) (by decide) ?_
      refine q_if_ne (tgt := 60) C dX12_unit_55 (by decide) h (fun _ h => ?_) (fun _ h => ?_)
      · refine x_iconst (v := (0 : Int32)) C dX12_unit_58 (by decide) ?_
        exact q_zret C dX12_unit_59 rfl (by decide) (by decide) (q_rzE h).1 (q_rzE h).2
      · refine q_aload_n C dX12_unit_60 rfl ?_
        refine x_iconst (v := (0 : Int32)) C dX12_unit_61 (by decide) ?_
        refine x_iconst (v := (0 : Int32)) C dX12_unit_62 (by decide) ?_
        obtain ⟨hk, h⟩ := q_obE h
        obtain ⟨⟨u11, M12⟩, e1, h⟩ := q_bind h
        refine x_callV0 C dX12_unit_63 lkM_X12_183 mV_X12_condition ⟨_, rfl, rfl⟩ hk ((hr _ _).1 _ _ _ _ _ _ e1) rfl rfl (Nat.le_of_ble_eq_true rfl) (⟨by omega, by decide⟩) (by decide) ?_
        refine q_istore_n (L' := [some (.ref l0), some (.int u1), some (.int u11)]) C dX12_unit_66 (by decide) rfl rfl ?_
        refine q_aload_n C dX12_unit_67 rfl ?_
        refine x_bipush (v := (41 : Int32)) C dX12_unit_68 (by decide) ?_
        obtain ⟨hk, h⟩ := q_obE h
        obtain ⟨⟨u13, M14⟩, e1, h⟩ := q_bind h
        refine x_callV0 C dX12_unit_70 lkM_X12_160 mV_X12_takes ⟨_, rfl, rfl⟩ hk (c_X12_takes _ _ _ _ _ e1) rfl rfl (Nat.le_of_ble_eq_true rfl) (⟨by omega, by decide⟩) (by decide) ?_
        refine q_if_ne (tgt := 78) C dX12_unit_73 (by decide) h (fun _ h => ?_) (fun _ h => ?_)
        · refine x_iconst (v := (0 : Int32)) C dX12_unit_76 (by decide) ?_
          exact q_zret C dX12_unit_77 rfl (by decide) (by decide) (q_rzE h).1 (q_rzE h).2
        · refine q_aload_n C dX12_unit_78 rfl ?_
          refine q_dup C dX12_unit_79 rfl ?_
          refine x_getI (ci := 12) (j := 12) C dX12_unit_80 lkF_X12_127 rfl h (fun v15 h => ?_)
          refine x_iconst (v := (1 : Int32)) C dX12_unit_83 (by decide) ?_
          refine q_isub C dX12_unit_84 ?_
          refine x_putI (ci := 12) (j := 12) C dX12_unit_85 lkF_X12_127 (fun r hr => by cases hr; rfl) rfl h (fun M16 h => ?_)
          refine q_iload_n C dX12_unit_88 rfl ?_
          exact q_zret C dX12_unit_89 rfl (by decide) (by decide) (q_rzE h).1 (q_rzE h).2
    · refine q_aload_n C dX12_unit_90 rfl ?_
      refine x_iconst (v := (0 : Int32)) C dX12_unit_91 (by decide) ?_
      refine x_iconst (v := (0 : Int32)) C dX12_unit_92 (by decide) ?_
      obtain ⟨hk, h⟩ := q_obE h
      obtain ⟨⟨u17, M18⟩, e1, h⟩ := q_bind h
      refine x_callV0 C dX12_unit_93 lkM_X12_187 mV_X12_compares ⟨_, rfl, rfl⟩ hk (c_X12_compares _ _ _ _ _ _ e1) rfl rfl (Nat.le_of_ble_eq_true rfl) (⟨by omega, by decide⟩) (by decide) ?_
      exact q_zret C dX12_unit_96 rfl (by decide) (by decide) (q_rzE h).1 (q_rzE h).2
noncomputable def R_X12_condition : Nat → Nat → Nat → Int32 → Int32 → q_Mem → Option (Int32 × q_Mem)
  | 0 => fun _ _ _ _ _ => none
  | n + 1 => fun tag a0 b0 b1 M => match tag with | 0 => F_X12_condition (R_X12_condition n) a0 b0 b1 M | 1 => F_X12_part (R_X12_condition n) a0 b0 b1 M | _ => F_X12_unit (R_X12_condition n) a0 M
set_option maxRecDepth 100000 in
theorem Rok_X12_condition (n : Nat) : Hr_X12_condition n (R_X12_condition n) := by
  induction n with
  | zero => exact fun l G => ⟨(fun a0 a1 a2 M r M' h => by cases h), (fun a0 a1 a2 M r M' h => by cases h), (fun a0 M r M' h => by cases h)⟩
  | succ n ih => exact fun l G => ⟨(fun a0 a1 a2 M r M' h => cr_X12_condition ih a0 a1 a2 M h), (fun a0 a1 a2 M r M' h => cr_X12_part ih a0 a1 a2 M h), (fun a0 M r M' h => cr_X12_unit ih a0 M h)⟩
theorem c_X12_condition (l : Launch) (G : q_G) (a0 : Nat) (a1 : Int32) (a2 : Int32) (M : q_Mem) {r : Int32} {M' : q_Mem} (h : R_X12_condition 60 0 a0 a1 a2 M = some (r, M')) : q_Met l G yX12_condition cX12_condition 5 (Option.some Jvm.ClassFile.FieldType.boolean) 128 0 0 [.ref a0, .int a1, .int a2] M (some (.int r)) M' := (Rok_X12_condition 60 l G).1 a0 a1 a2 M r M' h
theorem c_X12_part (l : Launch) (G : q_G) (a0 : Nat) (a1 : Int32) (a2 : Int32) (M : q_Mem) {r : Int32} {M' : q_Mem} (h : R_X12_condition 60 1 a0 a1 a2 M = some (r, M')) : q_Met l G yX12_part cX12_part 5 (Option.some Jvm.ClassFile.FieldType.boolean) 128 0 0 [.ref a0, .int a1, .int a2] M (some (.int r)) M' := (Rok_X12_condition 60 l G).2.1 a0 a1 a2 M r M' h
theorem c_X12_unit (l : Launch) (G : q_G) (a0 : Nat) (M : q_Mem) {r : Int32} {M' : q_Mem} (h : R_X12_condition 60 2 a0 0 0 M = some (r, M')) : q_Met l G yX12_unit cX12_unit 3 (Option.some Jvm.ClassFile.FieldType.boolean) 128 0 0 [.ref a0] M (some (.int r)) M' := (Rok_X12_condition 60 l G).2.2 a0 M r M' h
