noncomputable def J_X2_restAt_48_4 (l0 : Nat) (l1 : Int32) (l2 : Int32) (l3 : Int32) (M : q_Mem) : Option ((Int32 × Int32) ⊕ ((Int32 × Int32) ⊕ (Unit))) := some (.inl (l2, (l3 + (1 : Int32))))
set_option maxRecDepth 100000 in
set_option maxHeartbeats 4000000 in
theorem jW_X2_restAt_48_4 {K : q_K} {Q : State → Prop} (C : q_C K yX2_restAt cX2_restAt 6 (Option.some Jvm.ClassFile.FieldType.int) 2 0 0) (l0 : Nat) (l1 : Int32) (l2 : Int32) (l3 : Int32) (M : q_Mem) {stp : (Int32 × Int32) ⊕ ((Int32 × Int32) ⊕ (Unit))} (h : J_X2_restAt_48_4 l0 l1 l2 l3 M = some stp) (kC : ∀ (l2 : Int32) (l3 : Int32), stp = .inl (l2, l3) → q_W K 6 Q 0 0 M 4 [some (.ref l0), some (.int l1), some (.int l2), some (.int l3), none, none] []) (kE0 : ∀ (l4 : Int32) (l5 : Int32), stp = .inr (.inl (l4, l5)) → q_W K 6 Q 0 0 M 36 [none, none, none, none, some (.int l4), some (.int l5)] []) (kE1 : stp = .inr (.inr ()) → q_W K 6 Q 0 0 M 54 [none, none, none, none, none, none] []) : q_W K 6 Q 0 0 M 48 [some (.ref l0), some (.int l1), some (.int l2), some (.int l3), none, none] [] := by
  unfold J_X2_restAt_48_4 at h
  refine x_iinc (w := (1 : Int32)) (L' := [some (.ref l0), some (.int l1), some (.int l2), some (.int (l3 + (1 : Int32))), none, none]) C dX2_restAt_48 rfl (by decide) (by decide) rfl rfl ?_
  refine q_goto (tgt := 4) C dX2_restAt_51 (by decide) ?_
  exact q_msk [true, true, true, true, false, false] (kC _ _ (Option.some.inj h).symm)
noncomputable def B_X2_restAt_4 (l0 : Nat) (l1 : Int32) (l2 : Int32) (l3 : Int32) (M : q_Mem) : Option ((Int32 × Int32) ⊕ ((Int32 × Int32) ⊕ (Unit))) := (if l3 < (16 : Int32) then (q_dvi l3 (4 : Int32) (fun v1 => (q_rmi l3 (4 : Int32) (fun v2 => (q_ob M l0 2 ((F_X2_isRest l0 v1 v2 M).bind (fun u3 => (if u3 = 0 then J_X2_restAt_48_4 l0 l1 l2 l3 M else (if l2 = l1 then some (.inr (.inl (v1, v2))) else J_X2_restAt_48_4 l0 l1 (l2 + (1 : Int32)) l3 M))))))))) else some (.inr (.inr ())))
set_option maxRecDepth 100000 in
set_option maxHeartbeats 4000000 in
theorem bW_X2_restAt_4 {K : q_K} {Q : State → Prop} (C : q_C K yX2_restAt cX2_restAt 6 (Option.some Jvm.ClassFile.FieldType.int) 2 0 0) (l0 : Nat) (l1 : Int32) (l2 : Int32) (l3 : Int32) (M : q_Mem) {stp : (Int32 × Int32) ⊕ ((Int32 × Int32) ⊕ (Unit))} (h : B_X2_restAt_4 l0 l1 l2 l3 M = some stp) (kC : ∀ (l2 : Int32) (l3 : Int32), stp = .inl (l2, l3) → q_W K 6 Q 0 0 M 4 [some (.ref l0), some (.int l1), some (.int l2), some (.int l3), none, none] []) (kE0 : ∀ (l4 : Int32) (l5 : Int32), stp = .inr (.inl (l4, l5)) → q_W K 6 Q 0 0 M 36 [none, none, none, none, some (.int l4), some (.int l5)] []) (kE1 : stp = .inr (.inr ()) → q_W K 6 Q 0 0 M 54 [none, none, none, none, none, none] []) : q_W K 6 Q 0 0 M 4 [some (.ref l0), some (.int l1), some (.int l2), some (.int l3), none, none] [] := by
  unfold B_X2_restAt_4 at h
  refine q_iload_n C dX2_restAt_4 rfl ?_
  refine x_bipush (v := (16 : Int32)) C dX2_restAt_5 (by decide) ?_
  refine q_icmp_ge (tgt := 54) C dX2_restAt_7 (by decide) h (fun _ h => ?_) (fun _ h => ?_)
  · refine q_iload_n C dX2_restAt_10 rfl ?_
    refine x_iconst (v := (4 : Int32)) C dX2_restAt_11 (by decide) ?_
    refine q_idiv C dX2_restAt_12 h (fun v1 h => ?_)
    refine q_istore (L' := [some (.ref l0), some (.int l1), some (.int l2), some (.int l3), some (.int v1), none]) C dX2_restAt_13 (by decide) rfl rfl ?_
    refine q_iload_n C dX2_restAt_15 rfl ?_
    refine x_iconst (v := (4 : Int32)) C dX2_restAt_16 (by decide) ?_
    refine q_irem C dX2_restAt_17 h (fun v2 h => ?_)
    refine q_istore (L' := [some (.ref l0), some (.int l1), some (.int l2), some (.int l3), some (.int v1), some (.int v2)]) C dX2_restAt_18 (by decide) rfl rfl ?_
    refine q_aload_n C dX2_restAt_20 rfl ?_
    refine q_iload C dX2_restAt_21 rfl ?_
    refine q_iload C dX2_restAt_23 rfl ?_
    obtain ⟨hk, h⟩ := q_obE h
    obtain ⟨u3, e1, h⟩ := q_bind h
    refine x_callV0 C dX2_restAt_25 lkM_X2_135 mV_X2_isRest ⟨_, rfl, rfl⟩ hk (c_X2_isRest _ _ _ _ _ _ e1) rfl rfl (Nat.le_of_ble_eq_true rfl) (by decide) (by decide) ?_
    refine q_if_eq (tgt := 48) C dX2_restAt_28 (by decide) h (fun _ h => ?_) (fun _ h => ?_)
    · exact q_msk [true, true, true, true, false, false] (jW_X2_restAt_48_4 C l0 l1 l2 l3 M h kC kE0 kE1)
    · refine q_iload_n C dX2_restAt_31 rfl ?_
      refine q_iload_n C dX2_restAt_32 rfl ?_
      refine q_icmp_ne (tgt := 45) C dX2_restAt_33 (by decide) h (fun _ h => ?_) (fun _ h => ?_)
      · exact q_msk [false, false, false, false, true, true] (kE0 _ _ (Option.some.inj h).symm)
      · refine x_iinc (w := (1 : Int32)) (L' := [some (.ref l0), some (.int l1), some (.int (l2 + (1 : Int32))), some (.int l3), some (.int v1), some (.int v2)]) C dX2_restAt_45 rfl (by decide) (by decide) rfl rfl ?_
        exact q_msk [true, true, true, true, false, false] (jW_X2_restAt_48_4 C l0 l1 (l2 + (1 : Int32)) l3 M h kC kE0 kE1)
  · exact q_msk [false, false, false, false, false, false] (kE1 (Option.some.inj h).symm)
set_option maxRecDepth 100000 in
set_option maxHeartbeats 4000000 in
theorem lW_X2_restAt_4 {K : q_K} {Q : State → Prop} (C : q_C K yX2_restAt cX2_restAt 6 (Option.some Jvm.ClassFile.FieldType.int) 2 0 0) (l0 : Nat) (l1 : Int32) (M : q_Mem) (n : Nat) : ∀ (l2 : Int32) (l3 : Int32) (e : ((Int32 × Int32) ⊕ (Unit))), q_lp (fun s => B_X2_restAt_4 l0 l1 s.1 s.2 M) n (l2, l3) = some e → (∀ (l4 : Int32) (l5 : Int32), e = (.inl (l4, l5)) → q_W K 6 Q 0 0 M 36 [none, none, none, none, some (.int l4), some (.int l5)] []) → (e = (.inr ()) → q_W K 6 Q 0 0 M 54 [none, none, none, none, none, none] []) → q_W K 6 Q 0 0 M 4 [some (.ref l0), some (.int l1), some (.int l2), some (.int l3), none, none] [] := by
  induction n with
  | zero => intro l2 l3 e h; cases h
  | succ n ih =>
    intro l2 l3 e h kE0 kE1
    obtain ⟨stp, e1, e2⟩ := q_bind h
    refine bW_X2_restAt_4 C l0 l1 l2 l3 M e1 (fun a0 a1 hs => ?_) (fun b0 b1 hs => ?_) (fun hs => ?_)
    · subst hs; exact ih _ _ _ e2 kE0 kE1
    · subst hs; exact kE0 _ _ (Option.some.inj e2).symm
    · subst hs; exact kE1 (Option.some.inj e2).symm
noncomputable def F_X2_restAt (l0 : Nat) (l1 : Int32) (M : q_Mem) : Option (Int32) := (q_lp (fun s => B_X2_restAt_4 l0 l1 s.1 s.2 M) q_fu ((0 : Int32), (0 : Int32))).bind (fun e4 => match e4 with | .inl (w5, w6) => some (((10 : Int32) * w5) + w6) | .inr () => some (-1 : Int32))
set_option maxRecDepth 100000 in
set_option maxHeartbeats 4000000 in
theorem c_X2_restAt (l : Launch) (G : q_G) (l0 : Nat) (l1 : Int32) (M : q_Mem) {r : Int32} (h : F_X2_restAt l0 l1 M = some r) : q_Met l G yX2_restAt cX2_restAt 6 (Option.some Jvm.ClassFile.FieldType.int) 2 0 0 [.ref l0, .int l1] M (some (.int r)) M := by
  unfold F_X2_restAt at h
  refine q_enter [some (.ref l0), some (.int l1), none, none, none, none] (by decide) (Nat.le_of_ble_eq_true rfl) rfl (fun K C => ?_)
  refine x_iconst (v := (0 : Int32)) C dX2_restAt_0 (by decide) ?_
  refine q_istore_n (L' := [some (.ref l0), some (.int l1), some (.int (0 : Int32)), none, none, none]) C dX2_restAt_1 (by decide) rfl rfl ?_
  refine x_iconst (v := (0 : Int32)) C dX2_restAt_2 (by decide) ?_
  refine q_istore_n (L' := [some (.ref l0), some (.int l1), some (.int (0 : Int32)), some (.int (0 : Int32)), none, none]) C dX2_restAt_3 (by decide) rfl rfl ?_
  obtain ⟨e4, he, h⟩ := q_bind h
  refine q_msk [true, true, true, true, false, false] (lW_X2_restAt_4 C l0 l1 M q_fu _ _ _ he (fun w5 w6 hs => ?_) (fun hs => ?_))
  · have hs := hs.symm
    subst hs
    refine x_bipush (v := (10 : Int32)) C dX2_restAt_36 (by decide) ?_
    refine q_iload C dX2_restAt_38 rfl ?_
    refine q_imul C dX2_restAt_40 ?_
    refine q_iload C dX2_restAt_41 rfl ?_
    refine q_iadd C dX2_restAt_43 ?_
    exact q_iret (res := (r, M)) C dX2_restAt_44 rfl (by decide) (by decide) (congrArg (fun z => (z, M)) (Option.some.inj h))
  · have hs := hs.symm
    subst hs
    refine x_iconst (v := (-1 : Int32)) C dX2_restAt_54 (by decide) ?_
    exact q_iret (res := (r, M)) C dX2_restAt_55 rfl (by decide) (by decide) (congrArg (fun z => (z, M)) (Option.some.inj h))
def Hr_X2_partsFed (n0 : Nat) (rec : (Nat → Nat → Int32 → Int32 → Int32 → Int32 → Int64 → q_Mem → Option (Int64 × q_Mem))) : Prop := ∀ (l : Launch) (G : q_G), (∀ (a0 : Nat) (a1 : Int32) (a2 : Int32) (a3 : Int32) (a4 : Int32) (a5 : Int64) (M : q_Mem) (r : Int64) (M' : q_Mem), rec 0 a0 a1 a2 a3 a4 a5 M = some (r, M') → q_Met l G yX2_partsFed cX2_partsFed 12 (Option.some Jvm.ClassFile.FieldType.long) (n0 + 7) 0 0 [.ref a0, .int a1, .int a2, .int a3, .int a4, .long a5] M (some (.long r)) M')
noncomputable def J_X2_partsFed_133 (rec : (Nat → Nat → Int32 → Int32 → Int32 → Int32 → Int64 → q_Mem → Option (Int64 × q_Mem))) (l0 : Nat) (l1 : Int32) (l2 : Int32) (l3 : Int32) (l4 : Int32) (l5 : Int64) (l7 : Nat) (l8 : Int64) (l10 : Int64) (M : q_Mem) : Option (Int64 × q_Mem) := (q_gR M l0 2 4 (fun c15 => q_nn c15 (fun r16 => (q_lR M 5 r16 l1 (fun c17 => q_nn c17 (fun r18 => (q_ob M l7 8 ((F_X8_copyFrom l7 r18 M).bind (fun x => match x with | (_, M20) => (q_gR M20 l0 2 1 (fun c21 => q_nn c21 (fun r22 => (q_ob M20 r22 1 ((F_X1_pass r22 l7 M20).bind (fun x => match x with | (_, M24) => (q_ob M24 l0 2 ((rec 0 l0 (l1 + (1 : Int32)) l2 l3 l4 (l5 - l10) M24).bind (fun x => match x with | (u25, M26) => some ((l8 + u25), M26)))))))))))))))))))
set_option maxRecDepth 100000 in
set_option maxHeartbeats 4000000 in
theorem jW_X2_partsFed_133 {K : q_K} {n0 : Nat} (C : q_C K yX2_partsFed cX2_partsFed 12 (Option.some Jvm.ClassFile.FieldType.long) (n0 + 7 + 1) 0 0) {rec : (Nat → Nat → Int32 → Int32 → Int32 → Int32 → Int64 → q_Mem → Option (Int64 × q_Mem))} (hr : Hr_X2_partsFed n0 rec) (l0 : Nat) (l1 : Int32) (l2 : Int32) (l3 : Int32) (l4 : Int32) (l5 : Int64) (l7 : Nat) (l8 : Int64) (l10 : Int64) (M : q_Mem) {r : Int64} {M' : q_Mem} (h : J_X2_partsFed_133 rec l0 l1 l2 l3 l4 l5 l7 l8 l10 M = some (r, M')) : q_W K 12 (q_Q K (some (.long r)) M' 0 0) 0 0 M 133 [some (.ref l0), some (.int l1), some (.int l2), some (.int l3), some (.int l4), some (.long l5), none, some (.ref l7), some (.long l8), none, some (.long l10), none] [] := by
  unfold J_X2_partsFed_133 at h
  refine q_aload C dX2_partsFed_133 rfl ?_
  refine q_aload_n C dX2_partsFed_135 rfl ?_
  refine x_getR (ci := 2) (j := 4) C dX2_partsFed_136 lkF_X2_18 rfl h (fun c15 h => ?_)
  refine x_nn h (fun r16 h => ?_)
  refine q_iload_n C dX2_partsFed_139 rfl ?_
  refine x_aald C dX2_partsFed_140 (by decide) h (fun c17 h => ?_)
  refine x_nn h (fun r18 h => ?_)
  obtain ⟨hk, h⟩ := q_obE h
  obtain ⟨⟨_, M20⟩, e1, h⟩ := q_bind h
  refine x_callVv0 C dX2_partsFed_141 lkM_X2_57 mV_X8_copyFrom ⟨_, rfl, rfl⟩ hk (c_X8_copyFrom _ _ _ _ _ e1) rfl rfl (Nat.le_of_ble_eq_true rfl) (⟨by omega, by decide⟩) (by decide) ?_
  refine q_aload_n C dX2_partsFed_144 rfl ?_
  refine x_getR (ci := 2) (j := 1) C dX2_partsFed_145 lkF_X2_49 rfl h (fun c21 h => ?_)
  refine x_nn h (fun r22 h => ?_)
  refine q_aload C dX2_partsFed_148 rfl ?_
  obtain ⟨hk, h⟩ := q_obE h
  obtain ⟨⟨_, M24⟩, e1, h⟩ := q_bind h
  refine x_callVv0 C dX2_partsFed_150 lkM_X2_80 mV_X1_pass ⟨_, rfl, rfl⟩ hk (c_X1_pass _ _ _ _ _ e1) rfl rfl (Nat.le_of_ble_eq_true rfl) (⟨by omega, by decide⟩) (by decide) ?_
  refine q_lload C dX2_partsFed_153 rfl ?_
  refine q_aload_n C dX2_partsFed_155 rfl ?_
  refine q_iload_n C dX2_partsFed_156 rfl ?_
  refine x_iconst (v := (1 : Int32)) C dX2_partsFed_157 (by decide) ?_
  refine q_iadd C dX2_partsFed_158 ?_
  refine q_iload_n C dX2_partsFed_159 rfl ?_
  refine q_iload_n C dX2_partsFed_160 rfl ?_
  refine q_iload C dX2_partsFed_161 rfl ?_
  refine q_lload C dX2_partsFed_163 rfl ?_
  refine q_lload C dX2_partsFed_165 rfl ?_
  refine q_lsub C dX2_partsFed_167 ?_
  obtain ⟨hk, h⟩ := q_obE h
  obtain ⟨⟨u25, M26⟩, e1, h⟩ := q_bind h
  refine x_callV0 C dX2_partsFed_168 lkM_X2_141 mV_X2_partsFed ⟨_, rfl, rfl⟩ hk ((hr _ _) _ _ _ _ _ _ _ _ _ e1) rfl rfl (Nat.le_of_ble_eq_true rfl) (⟨by omega, by decide⟩) (by decide) ?_
  refine q_ladd C dX2_partsFed_171 ?_
  exact q_lret C dX2_partsFed_172 rfl (by decide) (by decide) (Option.some.inj h)
noncomputable def J_X2_partsFed_21 (rec : (Nat → Nat → Int32 → Int32 → Int32 → Int32 → Int64 → q_Mem → Option (Int64 × q_Mem))) (l0 : Nat) (l1 : Int32) (l2 : Int32) (l5 : Int64) (M : q_Mem) : Option (Int64 × q_Mem) := (q_gR M l0 2 1 (fun c34 => q_nn c34 (fun r35 => (q_gR M l0 2 4 (fun c36 => q_nn c36 (fun r37 => (q_lR M 5 r37 l1 (fun c38 => q_nn c38 (fun r39 => (q_ob M r35 1 ((F_X1_lay r35 r39 M).bind (fun x => match x with | (_, M41) => (q_gR M41 l0 2 1 (fun c42 => q_nn c42 (fun r43 => (q_gI M41 r43 1 10 (fun v44 => (if ((v44 >>> (l2 &&& 31)) &&& (1 : Int32)) = 0 then some ((0 : Int64), M41) else some (l5, M41)))))))))))))))))))
set_option maxRecDepth 100000 in
set_option maxHeartbeats 4000000 in
theorem jW_X2_partsFed_21 {K : q_K} {n0 : Nat} (C : q_C K yX2_partsFed cX2_partsFed 12 (Option.some Jvm.ClassFile.FieldType.long) (n0 + 7 + 1) 0 0) {rec : (Nat → Nat → Int32 → Int32 → Int32 → Int32 → Int64 → q_Mem → Option (Int64 × q_Mem))} (hr : Hr_X2_partsFed n0 rec) (l0 : Nat) (l1 : Int32) (l2 : Int32) (l5 : Int64) (M : q_Mem) {r : Int64} {M' : q_Mem} (h : J_X2_partsFed_21 rec l0 l1 l2 l5 M = some (r, M')) : q_W K 12 (q_Q K (some (.long r)) M' 0 0) 0 0 M 21 [some (.ref l0), some (.int l1), some (.int l2), none, none, some (.long l5), none, none, none, none, none, none] [] := by
  unfold J_X2_partsFed_21 at h
  refine q_aload_n C dX2_partsFed_21 rfl ?_
  refine x_getR (ci := 2) (j := 1) C dX2_partsFed_22 lkF_X2_49 rfl h (fun c34 h => ?_)
  refine x_nn h (fun r35 h => ?_)
  refine q_aload_n C dX2_partsFed_25 rfl ?_
  refine x_getR (ci := 2) (j := 4) C dX2_partsFed_26 lkF_X2_18 rfl h (fun c36 h => ?_)
  refine x_nn h (fun r37 h => ?_)
  refine q_iload_n C dX2_partsFed_29 rfl ?_
  refine x_aald C dX2_partsFed_30 (by decide) h (fun c38 h => ?_)
  refine x_nn h (fun r39 h => ?_)
  obtain ⟨hk, h⟩ := q_obE h
  obtain ⟨⟨_, M41⟩, e1, h⟩ := q_bind h
  refine x_callVv0 C dX2_partsFed_31 lkM_X2_85 mV_X1_lay ⟨_, rfl, rfl⟩ hk (c_X1_lay _ _ _ _ _ e1) rfl rfl (Nat.le_of_ble_eq_true rfl) (⟨by omega, by decide⟩) (by decide) ?_
  refine q_aload_n C dX2_partsFed_34 rfl ?_
  refine x_getR (ci := 2) (j := 1) C dX2_partsFed_35 lkF_X2_49 rfl h (fun c42 h => ?_)
  refine x_nn h (fun r43 h => ?_)
  refine x_getI (ci := 1) (j := 10) C dX2_partsFed_38 lkF_X2_118 rfl h (fun v44 h => ?_)
  refine q_iload_n C dX2_partsFed_41 rfl ?_
  refine q_ishr C dX2_partsFed_42 ?_
  refine x_iconst (v := (1 : Int32)) C dX2_partsFed_43 (by decide) ?_
  refine q_iand C dX2_partsFed_44 ?_
  refine q_if_eq (tgt := 53) C dX2_partsFed_45 (by decide) h (fun _ h => ?_) (fun _ h => ?_)
  · refine x_lconst (v := (0 : Int64)) C dX2_partsFed_53 (by decide) ?_
    exact q_lret C dX2_partsFed_54 rfl (by decide) (by decide) (Option.some.inj h)
  · refine q_lload C dX2_partsFed_48 rfl ?_
    refine q_goto (tgt := 54) C dX2_partsFed_50 (by decide) ?_
    exact q_lret C dX2_partsFed_54 rfl (by decide) (by decide) (Option.some.inj h)
noncomputable def F_X2_partsFed (rec : (Nat → Nat → Int32 → Int32 → Int32 → Int32 → Int64 → q_Mem → Option (Int64 × q_Mem))) (l0 : Nat) (l1 : Int32) (l2 : Int32) (l3 : Int32) (l4 : Int32) (l5 : Int64) (M : q_Mem) : Option (Int64 × q_Mem) := (if (lg_cmp l5 (0 : Int64)) = 0 then some ((0 : Int64), M) else (if l1 < l3 then (if (l1 + (1 : Int32)) < (5 : Int32) then (q_gR M l0 2 4 (fun c1 => q_nn c1 (fun r2 => (q_lR M 5 r2 (l1 + (1 : Int32)) (fun c3 => q_nn c3 (fun r4 => (q_gR M l0 2 4 (fun c5 => q_nn c5 (fun r6 => (q_lR M 5 r6 l1 (fun c7 => q_nn c7 (fun r8 => (q_ob M r4 8 ((F_X8_copyFrom r4 r8 M).bind (fun x => match x with | (_, M10) => (q_gR M10 l0 2 2 (fun c11 => q_nn c11 (fun r12 => (q_ob M10 r12 0 ((F_X0_carryOut r12 r4 (2 : Int32) (-1 : Int32) (-1 : Int32) M10).bind (fun x => match x with | (u13, M14) => (if u13 = 0 then J_X2_partsFed_133 rec l0 l1 l2 l3 l4 l5 r4 (0 : Int64) (0 : Int64) M14 else (q_dvl (l5 * l4.toInt64) (100 : Int64) (fun v27 => (q_gR M14 l0 2 1 (fun c28 => q_nn c28 (fun r29 => (q_ob M14 r29 1 ((F_X1_pass r29 r4 M14).bind (fun x => match x with | (_, M31) => (q_ob M31 l0 2 ((rec 0 l0 (l1 + (1 : Int32)) l2 l3 l4 v27 M31).bind (fun x => match x with | (u32, M33) => J_X2_partsFed_133 rec l0 l1 l2 l3 l4 l5 r4 u32 v27 M33))))))))))))))))))))))))))))))))) else J_X2_partsFed_21 rec l0 l1 l2 l5 M) else J_X2_partsFed_21 rec l0 l1 l2 l5 M))
set_option maxRecDepth 100000 in
set_option maxHeartbeats 4000000 in
theorem cr_X2_partsFed {l : Launch} {G : q_G} {n0 : Nat} {rec : (Nat → Nat → Int32 → Int32 → Int32 → Int32 → Int64 → q_Mem → Option (Int64 × q_Mem))} (hr : Hr_X2_partsFed n0 rec) (l0 : Nat) (l1 : Int32) (l2 : Int32) (l3 : Int32) (l4 : Int32) (l5 : Int64) (M : q_Mem) {r : Int64} {M' : q_Mem} (h : F_X2_partsFed rec l0 l1 l2 l3 l4 l5 M = some (r, M')) : q_Met l G yX2_partsFed cX2_partsFed 12 (Option.some Jvm.ClassFile.FieldType.long) (n0 + 7 + 1) 0 0 [.ref l0, .int l1, .int l2, .int l3, .int l4, .long l5] M (some (.long r)) M' := by
  unfold F_X2_partsFed at h
  refine q_enter [some (.ref l0), some (.int l1), some (.int l2), some (.int l3), some (.int l4), some (.long l5), none, none, none, none, none, none] (by decide) (Nat.le_of_ble_eq_true rfl) rfl (fun K C => ?_)
  refine q_lload C dX2_partsFed_0 rfl ?_
  refine x_lconst (v := (0 : Int64)) C dX2_partsFed_2 (by decide) ?_
  refine q_lcmp C dX2_partsFed_3 ?_
  refine q_if_ne (tgt := 9) C dX2_partsFed_4 (by decide) h (fun _ h => ?_) (fun _ h => ?_)
  · refine x_lconst (v := (0 : Int64)) C dX2_partsFed_7 (by decide) ?_
    exact q_lret C dX2_partsFed_8 rfl (by decide) (by decide) (Option.some.inj h)
  · refine q_iload_n C dX2_partsFed_9 rfl ?_
    refine q_iload_n C dX2_partsFed_10 rfl ?_
    refine q_icmp_ge (tgt := 21) C dX2_partsFed_11 (by decide) h (fun _ h => ?_) (fun _ h => ?_)
    · refine q_iload_n C dX2_partsFed_14 rfl ?_
      refine x_iconst (v := (1 : Int32)) C dX2_partsFed_15 (by decide) ?_
      refine q_iadd C dX2_partsFed_16 ?_
      refine x_iconst (v := (5 : Int32)) C dX2_partsFed_17 (by decide) ?_
      refine q_icmp_lt (tgt := 55) C dX2_partsFed_18 (by decide) h (fun _ h => ?_) (fun _ h => ?_)
      · refine q_aload_n C dX2_partsFed_55 rfl ?_
        refine x_getR (ci := 2) (j := 4) C dX2_partsFed_56 lkF_X2_18 rfl h (fun c1 h => ?_)
        refine x_nn h (fun r2 h => ?_)
        refine q_iload_n C dX2_partsFed_59 rfl ?_
        refine x_iconst (v := (1 : Int32)) C dX2_partsFed_60 (by decide) ?_
        refine q_iadd C dX2_partsFed_61 ?_
        refine x_aald C dX2_partsFed_62 (by decide) h (fun c3 h => ?_)
        refine x_nn h (fun r4 h => ?_)
        refine q_astore (L' := [some (.ref l0), some (.int l1), some (.int l2), some (.int l3), some (.int l4), some (.long l5), none, some (.ref r4), none, none, none, none]) C dX2_partsFed_63 (by decide) rfl rfl ?_
        refine x_lconst (v := (0 : Int64)) C dX2_partsFed_65 (by decide) ?_
        refine q_lstore (L' := [some (.ref l0), some (.int l1), some (.int l2), some (.int l3), some (.int l4), some (.long l5), none, some (.ref r4), some (.long (0 : Int64)), none, none, none]) C dX2_partsFed_66 (by decide) rfl rfl ?_
        refine x_lconst (v := (0 : Int64)) C dX2_partsFed_68 (by decide) ?_
        refine q_lstore (L' := [some (.ref l0), some (.int l1), some (.int l2), some (.int l3), some (.int l4), some (.long l5), none, some (.ref r4), some (.long (0 : Int64)), none, some (.long (0 : Int64)), none]) C dX2_partsFed_69 (by decide) rfl rfl ?_
        refine q_aload C dX2_partsFed_71 rfl ?_
        refine q_aload_n C dX2_partsFed_73 rfl ?_
        refine x_getR (ci := 2) (j := 4) C dX2_partsFed_74 lkF_X2_18 rfl h (fun c5 h => ?_)
        refine x_nn h (fun r6 h => ?_)
        refine q_iload_n C dX2_partsFed_77 rfl ?_
        refine x_aald C dX2_partsFed_78 (by decide) h (fun c7 h => ?_)
        refine x_nn h (fun r8 h => ?_)
        obtain ⟨hk, h⟩ := q_obE h
        obtain ⟨⟨_, M10⟩, e1, h⟩ := q_bind h
        refine x_callVv0 C dX2_partsFed_79 lkM_X2_57 mV_X8_copyFrom ⟨_, rfl, rfl⟩ hk (c_X8_copyFrom _ _ _ _ _ e1) rfl rfl (Nat.le_of_ble_eq_true rfl) (⟨by omega, by decide⟩) (by decide) ?_
        refine q_aload_n C dX2_partsFed_82 rfl ?_
        refine x_getR (ci := 2) (j := 2) C dX2_partsFed_83 lkF_X2_53 rfl h (fun c11 h => ?_)
        refine x_nn h (fun r12 h => ?_)
        refine q_aload C dX2_partsFed_86 rfl ?_
        refine x_iconst (v := (2 : Int32)) C dX2_partsFed_88 (by decide) ?_
        refine x_iconst (v := (-1 : Int32)) C dX2_partsFed_89 (by decide) ?_
        refine x_iconst (v := (-1 : Int32)) C dX2_partsFed_90 (by decide) ?_
        obtain ⟨hk, h⟩ := q_obE h
        obtain ⟨⟨u13, M14⟩, e1, h⟩ := q_bind h
        refine x_callV0 C dX2_partsFed_91 lkM_X2_70 mV_X0_carryOut ⟨_, rfl, rfl⟩ hk (c_X0_carryOut _ _ _ _ _ _ _ _ e1) rfl rfl (Nat.le_of_ble_eq_true rfl) (⟨by omega, by decide⟩) (by decide) ?_
        refine q_if_eq (tgt := 133) C dX2_partsFed_94 (by decide) h (fun _ h => ?_) (fun _ h => ?_)
        · exact q_msk [true, true, true, true, true, true, false, true, true, false, true, false] (jW_X2_partsFed_133 C hr l0 l1 l2 l3 l4 l5 r4 (0 : Int64) (0 : Int64) M14 h)
        · refine q_lload C dX2_partsFed_97 rfl ?_
          refine q_iload C dX2_partsFed_99 rfl ?_
          refine q_i2l C dX2_partsFed_101 ?_
          refine q_lmul C dX2_partsFed_102 ?_
          refine q_ldc2 (v := (100 : Int64)) C dX2_partsFed_103 wd_1053 ?_
          refine q_ldiv C dX2_partsFed_106 h (fun v27 h => ?_)
          refine q_lstore (L' := [some (.ref l0), some (.int l1), some (.int l2), some (.int l3), some (.int l4), some (.long l5), none, some (.ref r4), some (.long (0 : Int64)), none, some (.long v27), none]) C dX2_partsFed_107 (by decide) rfl rfl ?_
          refine q_aload_n C dX2_partsFed_109 rfl ?_
          refine x_getR (ci := 2) (j := 1) C dX2_partsFed_110 lkF_X2_49 rfl h (fun c28 h => ?_)
          refine x_nn h (fun r29 h => ?_)
          refine q_aload C dX2_partsFed_113 rfl ?_
          obtain ⟨hk, h⟩ := q_obE h
          obtain ⟨⟨_, M31⟩, e1, h⟩ := q_bind h
          refine x_callVv0 C dX2_partsFed_115 lkM_X2_80 mV_X1_pass ⟨_, rfl, rfl⟩ hk (c_X1_pass _ _ _ _ _ e1) rfl rfl (Nat.le_of_ble_eq_true rfl) (⟨by omega, by decide⟩) (by decide) ?_
          refine q_aload_n C dX2_partsFed_118 rfl ?_
          refine q_iload_n C dX2_partsFed_119 rfl ?_
          refine x_iconst (v := (1 : Int32)) C dX2_partsFed_120 (by decide) ?_
          refine q_iadd C dX2_partsFed_121 ?_
          refine q_iload_n C dX2_partsFed_122 rfl ?_
          refine q_iload_n C dX2_partsFed_123 rfl ?_
          refine q_iload C dX2_partsFed_124 rfl ?_
          refine q_lload C dX2_partsFed_126 rfl ?_
          obtain ⟨hk, h⟩ := q_obE h
          obtain ⟨⟨u32, M33⟩, e1, h⟩ := q_bind h
          refine x_callV0 C dX2_partsFed_128 lkM_X2_141 mV_X2_partsFed ⟨_, rfl, rfl⟩ hk ((hr _ _) _ _ _ _ _ _ _ _ _ e1) rfl rfl (Nat.le_of_ble_eq_true rfl) (⟨by omega, by decide⟩) (by decide) ?_
          refine q_lstore (L' := [some (.ref l0), some (.int l1), some (.int l2), some (.int l3), some (.int l4), some (.long l5), none, some (.ref r4), some (.long u32), none, some (.long v27), none]) C dX2_partsFed_131 (by decide) rfl rfl ?_
          exact q_msk [true, true, true, true, true, true, false, true, true, false, true, false] (jW_X2_partsFed_133 C hr l0 l1 l2 l3 l4 l5 r4 u32 v27 M33 h)
      · exact q_msk [true, true, true, false, false, true, false, false, false, false, false, false] (jW_X2_partsFed_21 C hr l0 l1 l2 l5 M h)
    · exact q_msk [true, true, true, false, false, true, false, false, false, false, false, false] (jW_X2_partsFed_21 C hr l0 l1 l2 l5 M h)
noncomputable def R_X2_partsFed : Nat → Nat → Nat → Int32 → Int32 → Int32 → Int32 → Int64 → q_Mem → Option (Int64 × q_Mem)
  | 0 => fun _ _ _ _ _ _ _ _ => none
  | n + 1 => fun tag a0 b0 b1 b2 b3 b4 M => match tag with | _ => F_X2_partsFed (R_X2_partsFed n) a0 b0 b1 b2 b3 b4 M
set_option maxRecDepth 100000 in
theorem Rok_X2_partsFed (n : Nat) : Hr_X2_partsFed n (R_X2_partsFed n) := by
  induction n with
  | zero => exact fun l G => (fun a0 a1 a2 a3 a4 a5 M r M' h => by cases h)
  | succ n ih => exact fun l G => (fun a0 a1 a2 a3 a4 a5 M r M' h => cr_X2_partsFed ih a0 a1 a2 a3 a4 a5 M h)
theorem c_X2_partsFed (l : Launch) (G : q_G) (a0 : Nat) (a1 : Int32) (a2 : Int32) (a3 : Int32) (a4 : Int32) (a5 : Int64) (M : q_Mem) {r : Int64} {M' : q_Mem} (h : R_X2_partsFed 60 0 a0 a1 a2 a3 a4 a5 M = some (r, M')) : q_Met l G yX2_partsFed cX2_partsFed 12 (Option.some Jvm.ClassFile.FieldType.long) 67 0 0 [.ref a0, .int a1, .int a2, .int a3, .int a4, .long a5] M (some (.long r)) M' := (Rok_X2_partsFed 60 l G) a0 a1 a2 a3 a4 a5 M r M' h
noncomputable def F_X2_oddsOf (l0 : Nat) (l1 : Nat) (l2 : Int32) (l3 : Int32) (l4 : Int32) (M : q_Mem) : Option (Int64 × q_Mem) := (q_gR M l0 2 4 (fun c1 => q_nn c1 (fun r2 => (q_lR M 5 r2 (0 : Int32) (fun c3 => q_nn c3 (fun r4 => (q_ob M r4 8 ((F_X8_copyFrom r4 l1 M).bind (fun x => match x with | (_, M6) => (q_ob M6 l0 2 ((R_X2_partsFed 60 0 l0 (0 : Int32) l2 l3 l4 (1000000000 : Int64) M6).bind (fun x => match x with | (u7, M8) => some (u7, M8)))))))))))))
set_option maxRecDepth 100000 in
set_option maxHeartbeats 4000000 in
theorem c_X2_oddsOf (l : Launch) (G : q_G) (l0 : Nat) (l1 : Nat) (l2 : Int32) (l3 : Int32) (l4 : Int32) (M : q_Mem) {r : Int64} {M' : q_Mem} (h : F_X2_oddsOf l0 l1 l2 l3 l4 M = some (r, M')) : q_Met l G yX2_oddsOf cX2_oddsOf 5 (Option.some Jvm.ClassFile.FieldType.long) 68 0 0 [.ref l0, .ref l1, .int l2, .int l3, .int l4] M (some (.long r)) M' := by
  unfold F_X2_oddsOf at h
  refine q_enter [some (.ref l0), some (.ref l1), some (.int l2), some (.int l3), some (.int l4)] (by decide) (Nat.le_of_ble_eq_true rfl) rfl (fun K C => ?_)
  refine q_aload_n C dX2_oddsOf_0 rfl ?_
  refine x_getR (ci := 2) (j := 4) C dX2_oddsOf_1 lkF_X2_18 rfl h (fun c1 h => ?_)
  refine x_nn h (fun r2 h => ?_)
  refine x_iconst (v := (0 : Int32)) C dX2_oddsOf_4 (by decide) ?_
  refine x_aald C dX2_oddsOf_5 (by decide) h (fun c3 h => ?_)
  refine x_nn h (fun r4 h => ?_)
  refine q_aload_n C dX2_oddsOf_6 rfl ?_
  obtain ⟨hk, h⟩ := q_obE h
  obtain ⟨⟨_, M6⟩, e1, h⟩ := q_bind h
  refine x_callVv0 C dX2_oddsOf_7 lkM_X2_57 mV_X8_copyFrom ⟨_, rfl, rfl⟩ hk (c_X8_copyFrom _ _ _ _ _ e1) rfl rfl (Nat.le_of_ble_eq_true rfl) (by decide) (by decide) ?_
  refine q_aload_n C dX2_oddsOf_10 rfl ?_
  refine x_iconst (v := (0 : Int32)) C dX2_oddsOf_11 (by decide) ?_
  refine q_iload_n C dX2_oddsOf_12 rfl ?_
  refine q_iload_n C dX2_oddsOf_13 rfl ?_
  refine q_iload C dX2_oddsOf_14 rfl ?_
  refine q_ldc2 (v := (1000000000 : Int64)) C dX2_oddsOf_16 wd_1048 ?_
  obtain ⟨hk, h⟩ := q_obE h
  obtain ⟨⟨u7, M8⟩, e1, h⟩ := q_bind h
  refine x_callV0 C dX2_oddsOf_19 lkM_X2_141 mV_X2_partsFed ⟨_, rfl, rfl⟩ hk (c_X2_partsFed _ _ _ _ _ _ _ _ _ e1) rfl rfl (Nat.le_of_ble_eq_true rfl) (by decide) (by decide) ?_
  exact q_lret C dX2_oddsOf_22 rfl (by decide) (by decide) (Option.some.inj h)
noncomputable def F_X3_init (l0 : Nat) (M : q_Mem) : Option (Unit × q_Mem) := (q_nA M 0 (3 : Int32) 3 (fun k1 M2 => (q_pR M2 l0 3 0 (k1 + 1) (fun M3 => (q_nA M3 0 (15 : Int32) 15 (fun k4 M5 => (q_pR M5 l0 3 1 (k4 + 1) (fun M6 => (q_nA M6 0 (24 : Int32) 24 (fun k7 M8 => (q_pR M8 l0 3 2 (k7 + 1) (fun M9 => (q_nA M9 0 (6 : Int32) 6 (fun k10 M11 => (q_pR M11 l0 3 3 (k10 + 1) (fun M12 => (q_pI M12 l0 3 4 (0 : Int32) (fun M13 => (q_pI M13 l0 3 5 (0 : Int32) (fun M14 => (q_pZ M14 l0 3 6 (0 : Int32) (fun M15 => some ((), M15)))))))))))))))))))))))
set_option maxRecDepth 100000 in
set_option maxHeartbeats 4000000 in
theorem c_X3_init (l : Launch) (G : q_G) (l0 : Nat) (M : q_Mem) {r : Unit} {M' : q_Mem} (h : F_X3_init l0 M = some (r, M')) : q_Met l G yX3_init cX3_init 1 (Option.none : Option Jvm.ClassFile.FieldType) 2 4 48 [.ref l0] M none M' := by
  unfold F_X3_init at h
  refine q_enter [some (.ref l0)] (by decide) (Nat.le_of_ble_eq_true rfl) rfl (fun K C => ?_)
  refine q_aload_n C dX3_init_0 rfl ?_
  refine q_objI C dX3_init_1 wd_68 wd_33 wd_34 (by decide) (Nat.le_of_ble_eq_true rfl) ?_
  refine q_aload_n C dX3_init_4 rfl ?_
  refine x_iconst (v := (3 : Int32)) C dX3_init_5 (by decide) ?_
  refine x_newa C dX3_init_6 (by simp) wd_103 (by decide) h (by decide) (fun k1 M2 h => ?_)
  refine x_putR (ci := 3) (j := 0) (k1 + 1) C dX3_init_8 lkF_X3_9 (fun r hr => by cases hr; exact Or.inr ⟨rfl, rfl, wd_69⟩) (Or.inr ⟨_, rfl⟩) rfl h (fun M3 h => ?_)
  refine q_aload_n C dX3_init_11 rfl ?_
  refine x_bipush (v := (15 : Int32)) C dX3_init_12 (by decide) ?_
  refine x_newa C dX3_init_14 (by simp) wd_103 (by decide) h (by decide) (fun k4 M5 h => ?_)
  refine x_putR (ci := 3) (j := 1) (k4 + 1) C dX3_init_16 lkF_X3_15 (fun r hr => by cases hr; exact Or.inr ⟨rfl, rfl, wd_73⟩) (Or.inr ⟨_, rfl⟩) rfl h (fun M6 h => ?_)
  refine q_aload_n C dX3_init_19 rfl ?_
  refine x_bipush (v := (24 : Int32)) C dX3_init_20 (by decide) ?_
  refine x_newa C dX3_init_22 (by simp) wd_103 (by decide) h (by decide) (fun k7 M8 h => ?_)
  refine x_putR (ci := 3) (j := 2) (k7 + 1) C dX3_init_24 lkF_X3_18 (fun r hr => by cases hr; exact Or.inr ⟨rfl, rfl, wd_75⟩) (Or.inr ⟨_, rfl⟩) rfl h (fun M9 h => ?_)
  refine q_aload_n C dX3_init_27 rfl ?_
  refine x_bipush (v := (6 : Int32)) C dX3_init_28 (by decide) ?_
  refine x_newa C dX3_init_30 (by simp) wd_103 (by decide) h (by decide) (fun k10 M11 h => ?_)
  refine x_putR (ci := 3) (j := 3) (k10 + 1) C dX3_init_32 lkF_X3_21 (fun r hr => by cases hr; exact Or.inr ⟨rfl, rfl, wd_77⟩) (Or.inr ⟨_, rfl⟩) rfl h (fun M12 h => ?_)
  refine q_aload_n C dX3_init_35 rfl ?_
  refine x_iconst (v := (0 : Int32)) C dX3_init_36 (by decide) ?_
  refine x_putI (ci := 3) (j := 4) C dX3_init_37 lkF_X3_24 (fun r hr => by cases hr; rfl) rfl h (fun M13 h => ?_)
  refine q_aload_n C dX3_init_40 rfl ?_
  refine x_iconst (v := (0 : Int32)) C dX3_init_41 (by decide) ?_
  refine x_putI (ci := 3) (j := 5) C dX3_init_42 lkF_X3_28 (fun r hr => by cases hr; rfl) rfl h (fun M14 h => ?_)
  refine q_aload_n C dX3_init_45 rfl ?_
  refine x_iconst (v := (0 : Int32)) C dX3_init_46 (by decide) ?_
  refine x_putZ (ci := 3) (j := 6) C dX3_init_47 lkF_X3_31 (fun r hr => by cases hr; rfl) rfl h (fun M15 h => ?_)
  exact q_vret C dX3_init_50 rfl (by decide) (by decide) (Option.some.inj h)
noncomputable def J_X3_orderByComing_49_15 (l0 : Nat) (l1 : Int32) (l2 : Int32) (l3 : Int32) (M : q_Mem) : Option ((Int32 × Int32 × q_Mem) ⊕ (Int32 × q_Mem)) := some (.inl (l1, (l3 + (1 : Int32)), M))
set_option maxRecDepth 100000 in
set_option maxHeartbeats 4000000 in
theorem jW_X3_orderByComing_49_15 {K : q_K} {Q : State → Prop} (C : q_C K yX3_orderByComing cX3_orderByComing 4 (Option.none : Option Jvm.ClassFile.FieldType) 2 0 0) (l0 : Nat) (l1 : Int32) (l2 : Int32) (l3 : Int32) (M : q_Mem) {stp : (Int32 × Int32 × q_Mem) ⊕ (Int32 × q_Mem)} (h : J_X3_orderByComing_49_15 l0 l1 l2 l3 M = some stp) (kC : ∀ (l1 : Int32) (l3 : Int32) (M : q_Mem), stp = .inl (l1, l3, M) → q_W K 4 Q 0 0 M 15 [some (.ref l0), some (.int l1), some (.int l2), some (.int l3)] []) (kE0 : ∀ (l1 : Int32) (M : q_Mem), stp = .inr (l1, M) → q_W K 4 Q 0 0 M 55 [some (.ref l0), some (.int l1), some (.int l2), none] []) : q_W K 4 Q 0 0 M 49 [some (.ref l0), some (.int l1), some (.int l2), some (.int l3)] [] := by
  unfold J_X3_orderByComing_49_15 at h
  refine x_iinc (w := (1 : Int32)) (L' := [some (.ref l0), some (.int l1), some (.int l2), some (.int (l3 + (1 : Int32)))]) C dX3_orderByComing_49 rfl (by decide) (by decide) rfl rfl ?_
  refine q_goto (tgt := 15) C dX3_orderByComing_52 (by decide) ?_
  exact q_msk [true, true, true, true] (kC _ _ _ (Option.some.inj h).symm)
noncomputable def B_X3_orderByComing_15 (l0 : Nat) (l2 : Int32) (l1 : Int32) (l3 : Int32) (M : q_Mem) : Option ((Int32 × Int32 × q_Mem) ⊕ (Int32 × q_Mem)) := (q_gI M l0 3 5 (fun v2 => (if l3 < v2 then (q_ob M l0 3 ((F_X3_ofGuest l0 l3 (0 : Int32) M).bind (fun u3 => (if u3 = l2 then (if l1 < (6 : Int32) then (q_gR M l0 3 3 (fun c4 => q_nn c4 (fun r5 => (q_tI M r5 l1 l3 (fun M6 => J_X3_orderByComing_49_15 l0 (l1 + (1 : Int32)) l2 l3 M6))))) else J_X3_orderByComing_49_15 l0 l1 l2 l3 M) else J_X3_orderByComing_49_15 l0 l1 l2 l3 M)))) else some (.inr (l1, M)))))
set_option maxRecDepth 100000 in
set_option maxHeartbeats 4000000 in
theorem bW_X3_orderByComing_15 {K : q_K} {Q : State → Prop} (C : q_C K yX3_orderByComing cX3_orderByComing 4 (Option.none : Option Jvm.ClassFile.FieldType) 2 0 0) (l0 : Nat) (l1 : Int32) (l2 : Int32) (l3 : Int32) (M : q_Mem) {stp : (Int32 × Int32 × q_Mem) ⊕ (Int32 × q_Mem)} (h : B_X3_orderByComing_15 l0 l2 l1 l3 M = some stp) (kC : ∀ (l1 : Int32) (l3 : Int32) (M : q_Mem), stp = .inl (l1, l3, M) → q_W K 4 Q 0 0 M 15 [some (.ref l0), some (.int l1), some (.int l2), some (.int l3)] []) (kE0 : ∀ (l1 : Int32) (M : q_Mem), stp = .inr (l1, M) → q_W K 4 Q 0 0 M 55 [some (.ref l0), some (.int l1), some (.int l2), none] []) : q_W K 4 Q 0 0 M 15 [some (.ref l0), some (.int l1), some (.int l2), some (.int l3)] [] := by
  unfold B_X3_orderByComing_15 at h
  refine q_iload_n C dX3_orderByComing_15 rfl ?_
  refine q_aload_n C dX3_orderByComing_16 rfl ?_
  refine x_getI (ci := 3) (j := 5) C dX3_orderByComing_17 lkF_X3_28 rfl h (fun v2 h => ?_)
  refine q_icmp_ge (tgt := 55) C dX3_orderByComing_20 (by decide) h (fun _ h => ?_) (fun _ h => ?_)
  · refine q_aload_n C dX3_orderByComing_23 rfl ?_
    refine q_iload_n C dX3_orderByComing_24 rfl ?_
    refine x_iconst (v := (0 : Int32)) C dX3_orderByComing_25 (by decide) ?_
    obtain ⟨hk, h⟩ := q_obE h
    obtain ⟨u3, e1, h⟩ := q_bind h
    refine x_callV0 C dX3_orderByComing_26 lkM_X3_47 mV_X3_ofGuest ⟨_, rfl, rfl⟩ hk (c_X3_ofGuest _ _ _ _ _ _ e1) rfl rfl (Nat.le_of_ble_eq_true rfl) (by decide) (by decide) ?_
    refine q_iload_n C dX3_orderByComing_29 rfl ?_
    refine q_icmp_ne (tgt := 49) C dX3_orderByComing_30 (by decide) h (fun _ h => ?_) (fun _ h => ?_)
    · refine q_iload_n C dX3_orderByComing_33 rfl ?_
      refine x_bipush (v := (6 : Int32)) C dX3_orderByComing_34 (by decide) ?_
      refine q_icmp_ge (tgt := 49) C dX3_orderByComing_36 (by decide) h (fun _ h => ?_) (fun _ h => ?_)
      · refine q_aload_n C dX3_orderByComing_39 rfl ?_
        refine x_getR (ci := 3) (j := 3) C dX3_orderByComing_40 lkF_X3_21 rfl h (fun c4 h => ?_)
        refine x_nn h (fun r5 h => ?_)
        refine q_iload_n C dX3_orderByComing_43 rfl ?_
        refine q_iload_n C dX3_orderByComing_44 rfl ?_
        refine x_iast C dX3_orderByComing_45 h (fun M6 h => ?_)
        refine x_iinc (w := (1 : Int32)) (L' := [some (.ref l0), some (.int (l1 + (1 : Int32))), some (.int l2), some (.int l3)]) C dX3_orderByComing_46 rfl (by decide) (by decide) rfl rfl ?_
        exact q_msk [true, true, true, true] (jW_X3_orderByComing_49_15 C l0 (l1 + (1 : Int32)) l2 l3 M6 h kC kE0)
      · exact q_msk [true, true, true, true] (jW_X3_orderByComing_49_15 C l0 l1 l2 l3 M h kC kE0)
    · exact q_msk [true, true, true, true] (jW_X3_orderByComing_49_15 C l0 l1 l2 l3 M h kC kE0)
  · exact q_msk [true, true, true, false] (kE0 _ _ (Option.some.inj h).symm)
set_option maxRecDepth 100000 in
set_option maxHeartbeats 4000000 in
theorem lW_X3_orderByComing_15 {K : q_K} {Q : State → Prop} (C : q_C K yX3_orderByComing cX3_orderByComing 4 (Option.none : Option Jvm.ClassFile.FieldType) 2 0 0) (l0 : Nat) (l2 : Int32) (n : Nat) : ∀ (l1 : Int32) (l3 : Int32) (M : q_Mem) (e : (Int32 × q_Mem)), q_lp (fun s => B_X3_orderByComing_15 l0 l2 s.1 s.2.1 s.2.2) n (l1, l3, M) = some e → (∀ (l1 : Int32) (M : q_Mem), e = (l1, M) → q_W K 4 Q 0 0 M 55 [some (.ref l0), some (.int l1), some (.int l2), none] []) → q_W K 4 Q 0 0 M 15 [some (.ref l0), some (.int l1), some (.int l2), some (.int l3)] [] := by
  induction n with
  | zero => intro l1 l3 M e h; cases h
  | succ n ih =>
    intro l1 l3 M e h kE0
    obtain ⟨stp, e1, e2⟩ := q_bind h
    refine bW_X3_orderByComing_15 C l0 l1 l2 l3 M e1 (fun a0 a1 a2 hs => ?_) (fun b0 b1 hs => ?_)
    · subst hs; exact ih _ _ _ _ e2 kE0
    · subst hs; exact kE0 _ _ (Option.some.inj e2).symm
noncomputable def B_X3_orderByComing_4 (l0 : Nat) (l1 : Int32) (l2 : Int32) (M : q_Mem) : Option ((Int32 × Int32 × q_Mem) ⊕ (q_Mem)) := (q_lI M 0 2 (1 : Int32) (fun v1 => (if v1 < l2 then some (.inr M) else (q_lp (fun s => B_X3_orderByComing_15 l0 l2 s.1 s.2.1 s.2.2) q_fu (l1, (0 : Int32), M)).bind (fun e7 => match e7 with | (w8, M9) => some (.inl (w8, (l2 + (1 : Int32)), M9))))))
set_option maxRecDepth 100000 in
set_option maxHeartbeats 4000000 in
theorem bW_X3_orderByComing_4 {K : q_K} {Q : State → Prop} (C : q_C K yX3_orderByComing cX3_orderByComing 4 (Option.none : Option Jvm.ClassFile.FieldType) 2 0 0) (l0 : Nat) (l1 : Int32) (l2 : Int32) (M : q_Mem) {stp : (Int32 × Int32 × q_Mem) ⊕ (q_Mem)} (h : B_X3_orderByComing_4 l0 l1 l2 M = some stp) (kC : ∀ (l1 : Int32) (l2 : Int32) (M : q_Mem), stp = .inl (l1, l2, M) → q_W K 4 Q 0 0 M 4 [some (.ref l0), some (.int l1), some (.int l2), none] []) (kE0 : ∀ (M : q_Mem), stp = .inr M → q_W K 4 Q 0 0 M 61 [none, none, none, none] []) : q_W K 4 Q 0 0 M 4 [some (.ref l0), some (.int l1), some (.int l2), none] [] := by
  unfold B_X3_orderByComing_4 at h
  refine q_iload_n C dX3_orderByComing_4 rfl ?_
  refine q_getsN (w := .ref 2) C dX3_orderByComing_5 wn_535 (by simp [q_zs, q_cv, q_ad, q_NS]) rfl ?_
  refine x_iconst (v := (1 : Int32)) C dX3_orderByComing_8 (by decide) ?_
  refine x_iald C dX3_orderByComing_9 h (fun v1 h => ?_)
  refine q_icmp_gt (tgt := 61) C dX3_orderByComing_10 (by decide) h (fun _ h => ?_) (fun _ h => ?_)
  · exact q_msk [false, false, false, false] (kE0 _ (Option.some.inj h).symm)
  · refine x_iconst (v := (0 : Int32)) C dX3_orderByComing_13 (by decide) ?_
    refine q_istore_n (L' := [some (.ref l0), some (.int l1), some (.int l2), some (.int (0 : Int32))]) C dX3_orderByComing_14 (by decide) rfl rfl ?_
    obtain ⟨e7, he, h⟩ := q_bind h
    refine q_msk [true, true, true, true] (lW_X3_orderByComing_15 C l0 l2 q_fu _ _ _ _ he (fun w8 M9 hs => ?_))
    · have hs := hs.symm
      subst hs
      refine x_iinc (w := (1 : Int32)) (L' := [some (.ref l0), some (.int w8), some (.int (l2 + (1 : Int32))), none]) C dX3_orderByComing_55 rfl (by decide) (by decide) rfl rfl ?_
      refine q_goto (tgt := 4) C dX3_orderByComing_58 (by decide) ?_
      exact q_msk [true, true, true, false] (kC _ _ _ (Option.some.inj h).symm)
set_option maxRecDepth 100000 in
set_option maxHeartbeats 4000000 in
theorem lW_X3_orderByComing_4 {K : q_K} {Q : State → Prop} (C : q_C K yX3_orderByComing cX3_orderByComing 4 (Option.none : Option Jvm.ClassFile.FieldType) 2 0 0) (l0 : Nat) (n : Nat) : ∀ (l1 : Int32) (l2 : Int32) (M : q_Mem) (e : (q_Mem)), q_lp (fun s => B_X3_orderByComing_4 l0 s.1 s.2.1 s.2.2) n (l1, l2, M) = some e → (∀ (M : q_Mem), e = M → q_W K 4 Q 0 0 M 61 [none, none, none, none] []) → q_W K 4 Q 0 0 M 4 [some (.ref l0), some (.int l1), some (.int l2), none] [] := by
  induction n with
  | zero => intro l1 l2 M e h; cases h
  | succ n ih =>
    intro l1 l2 M e h kE0
    obtain ⟨stp, e1, e2⟩ := q_bind h
    refine bW_X3_orderByComing_4 C l0 l1 l2 M e1 (fun a0 a1 a2 hs => ?_) (fun b0 hs => ?_)
    · subst hs; exact ih _ _ _ _ e2 kE0
    · subst hs; exact kE0 _ (Option.some.inj e2).symm
noncomputable def F_X3_orderByComing (l0 : Nat) (M : q_Mem) : Option (Unit × q_Mem) := (q_lp (fun s => B_X3_orderByComing_4 l0 s.1 s.2.1 s.2.2) q_fu ((0 : Int32), (0 : Int32), M)).bind (fun e10 => match e10 with | M11 => some ((), M11))
set_option maxRecDepth 100000 in
set_option maxHeartbeats 4000000 in
theorem c_X3_orderByComing (l : Launch) (G : q_G) (l0 : Nat) (M : q_Mem) {r : Unit} {M' : q_Mem} (h : F_X3_orderByComing l0 M = some (r, M')) : q_Met l G yX3_orderByComing cX3_orderByComing 4 (Option.none : Option Jvm.ClassFile.FieldType) 2 0 0 [.ref l0] M none M' := by
  unfold F_X3_orderByComing at h
  refine q_enter [some (.ref l0), none, none, none] (by decide) (Nat.le_of_ble_eq_true rfl) rfl (fun K C => ?_)
  refine x_iconst (v := (0 : Int32)) C dX3_orderByComing_0 (by decide) ?_
  refine q_istore_n (L' := [some (.ref l0), some (.int (0 : Int32)), none, none]) C dX3_orderByComing_1 (by decide) rfl rfl ?_
  refine x_iconst (v := (0 : Int32)) C dX3_orderByComing_2 (by decide) ?_
  refine q_istore_n (L' := [some (.ref l0), some (.int (0 : Int32)), some (.int (0 : Int32)), none]) C dX3_orderByComing_3 (by decide) rfl rfl ?_
  obtain ⟨e10, he, h⟩ := q_bind h
  refine q_msk [true, true, true, false] (lW_X3_orderByComing_4 C l0 q_fu _ _ _ _ he (fun M11 hs => ?_))
  · have hs := hs.symm
    subst hs
    exact q_vret C dX3_orderByComing_61 rfl (by decide) (by decide) (Option.some.inj h)
noncomputable def F_X3_copyFrom (l0 : Nat) (l1 : Nat) (M : q_Mem) : Option (Unit × q_Mem) := (q_gR M l1 3 0 (fun c1 => q_nn c1 (fun r2 => (q_gR M l0 3 0 (fun c3 => q_nn c3 (fun r4 => (q_gR M l0 3 0 (fun c5 => q_nn c5 (fun r6 => (q_al M r6 (fun v7 => (q_cp M r2 (0 : Int32) r4 (0 : Int32) v7 (fun M8 => (q_gR M8 l1 3 1 (fun c9 => q_nn c9 (fun r10 => (q_gR M8 l0 3 1 (fun c11 => q_nn c11 (fun r12 => (q_gR M8 l0 3 1 (fun c13 => q_nn c13 (fun r14 => (q_al M8 r14 (fun v15 => (q_cp M8 r10 (0 : Int32) r12 (0 : Int32) v15 (fun M16 => (q_gR M16 l1 3 2 (fun c17 => q_nn c17 (fun r18 => (q_gR M16 l0 3 2 (fun c19 => q_nn c19 (fun r20 => (q_gR M16 l0 3 2 (fun c21 => q_nn c21 (fun r22 => (q_al M16 r22 (fun v23 => (q_cp M16 r18 (0 : Int32) r20 (0 : Int32) v23 (fun M24 => (q_gI M24 l1 3 4 (fun v25 => (q_pI M24 l0 3 4 v25 (fun M26 => (q_gI M26 l1 3 5 (fun v27 => (q_pI M26 l0 3 5 v27 (fun M28 => (q_gI M28 l1 3 6 (fun v29 => (q_pZ M28 l0 3 6 v29 (fun M30 => (q_ob M30 l0 3 ((F_X3_orderByComing l0 M30).bind (fun x => match x with | (_, M32) => some ((), M32)))))))))))))))))))))))))))))))))))))))))))))))))))))))
set_option maxRecDepth 100000 in
set_option maxHeartbeats 4000000 in
theorem c_X3_copyFrom (l : Launch) (G : q_G) (l0 : Nat) (l1 : Nat) (M : q_Mem) {r : Unit} {M' : q_Mem} (h : F_X3_copyFrom l0 l1 M = some (r, M')) : q_Met l G yX3_copyFrom cX3_copyFrom 2 (Option.none : Option Jvm.ClassFile.FieldType) 3 0 0 [.ref l0, .ref l1] M none M' := by
  unfold F_X3_copyFrom at h
  refine q_enter [some (.ref l0), some (.ref l1)] (by decide) (Nat.le_of_ble_eq_true rfl) rfl (fun K C => ?_)
  refine q_aload_n C dX3_copyFrom_0 rfl ?_
  refine x_getR (ci := 3) (j := 0) C dX3_copyFrom_1 lkF_X3_9 rfl h (fun c1 h => ?_)
  refine x_nn h (fun r2 h => ?_)
  refine x_iconst (v := (0 : Int32)) C dX3_copyFrom_4 (by decide) ?_
  refine q_aload_n C dX3_copyFrom_5 rfl ?_
  refine x_getR (ci := 3) (j := 0) C dX3_copyFrom_6 lkF_X3_9 rfl h (fun c3 h => ?_)
  refine x_nn h (fun r4 h => ?_)
  refine x_iconst (v := (0 : Int32)) C dX3_copyFrom_9 (by decide) ?_
  refine q_aload_n C dX3_copyFrom_10 rfl ?_
  refine x_getR (ci := 3) (j := 0) C dX3_copyFrom_11 lkF_X3_9 rfl h (fun c5 h => ?_)
  refine x_nn h (fun r6 h => ?_)
  refine x_alen C dX3_copyFrom_14 h (fun v7 h => ?_)
  refine x_copy C dX3_copyFrom_15 wd_624 wd_626 wd_625 wd_19 (by decide) (Nat.le_of_ble_eq_true rfl) h (fun M8 h => ?_)
  refine q_aload_n C dX3_copyFrom_18 rfl ?_
  refine x_getR (ci := 3) (j := 1) C dX3_copyFrom_19 lkF_X3_15 rfl h (fun c9 h => ?_)
  refine x_nn h (fun r10 h => ?_)
  refine x_iconst (v := (0 : Int32)) C dX3_copyFrom_22 (by decide) ?_
  refine q_aload_n C dX3_copyFrom_23 rfl ?_
  refine x_getR (ci := 3) (j := 1) C dX3_copyFrom_24 lkF_X3_15 rfl h (fun c11 h => ?_)
  refine x_nn h (fun r12 h => ?_)
  refine x_iconst (v := (0 : Int32)) C dX3_copyFrom_27 (by decide) ?_
  refine q_aload_n C dX3_copyFrom_28 rfl ?_
  refine x_getR (ci := 3) (j := 1) C dX3_copyFrom_29 lkF_X3_15 rfl h (fun c13 h => ?_)
  refine x_nn h (fun r14 h => ?_)
  refine x_alen C dX3_copyFrom_32 h (fun v15 h => ?_)
  refine x_copy C dX3_copyFrom_33 wd_624 wd_626 wd_625 wd_19 (by decide) (Nat.le_of_ble_eq_true rfl) h (fun M16 h => ?_)
  refine q_aload_n C dX3_copyFrom_36 rfl ?_
  refine x_getR (ci := 3) (j := 2) C dX3_copyFrom_37 lkF_X3_18 rfl h (fun c17 h => ?_)
  refine x_nn h (fun r18 h => ?_)
  refine x_iconst (v := (0 : Int32)) C dX3_copyFrom_40 (by decide) ?_
  refine q_aload_n C dX3_copyFrom_41 rfl ?_
  refine x_getR (ci := 3) (j := 2) C dX3_copyFrom_42 lkF_X3_18 rfl h (fun c19 h => ?_)
  refine x_nn h (fun r20 h => ?_)
  refine x_iconst (v := (0 : Int32)) C dX3_copyFrom_45 (by decide) ?_
  refine q_aload_n C dX3_copyFrom_46 rfl ?_
  refine x_getR (ci := 3) (j := 2) C dX3_copyFrom_47 lkF_X3_18 rfl h (fun c21 h => ?_)
  refine x_nn h (fun r22 h => ?_)
  refine x_alen C dX3_copyFrom_50 h (fun v23 h => ?_)
  refine x_copy C dX3_copyFrom_51 wd_624 wd_626 wd_625 wd_19 (by decide) (Nat.le_of_ble_eq_true rfl) h (fun M24 h => ?_)
  refine q_aload_n C dX3_copyFrom_54 rfl ?_
  refine q_aload_n C dX3_copyFrom_55 rfl ?_
  refine x_getI (ci := 3) (j := 4) C dX3_copyFrom_56 lkF_X3_24 rfl h (fun v25 h => ?_)
  refine x_putI (ci := 3) (j := 4) C dX3_copyFrom_59 lkF_X3_24 (fun r hr => by cases hr; rfl) rfl h (fun M26 h => ?_)
  refine q_aload_n C dX3_copyFrom_62 rfl ?_
  refine q_aload_n C dX3_copyFrom_63 rfl ?_
  refine x_getI (ci := 3) (j := 5) C dX3_copyFrom_64 lkF_X3_28 rfl h (fun v27 h => ?_)
  refine x_putI (ci := 3) (j := 5) C dX3_copyFrom_67 lkF_X3_28 (fun r hr => by cases hr; rfl) rfl h (fun M28 h => ?_)
  refine q_aload_n C dX3_copyFrom_70 rfl ?_
  refine q_aload_n C dX3_copyFrom_71 rfl ?_
  refine x_getI (ci := 3) (j := 6) C dX3_copyFrom_72 lkF_X3_31 rfl h (fun v29 h => ?_)
  refine x_putZ (ci := 3) (j := 6) C dX3_copyFrom_75 lkF_X3_31 (fun r hr => by cases hr; rfl) rfl h (fun M30 h => ?_)
  refine q_aload_n C dX3_copyFrom_78 rfl ?_
  obtain ⟨hk, h⟩ := q_obE h
  obtain ⟨⟨_, M32⟩, e1, h⟩ := q_bind h
  refine x_callVv0 C dX3_copyFrom_79 lkM_X3_41 mV_X3_orderByComing ⟨_, rfl, rfl⟩ hk (c_X3_orderByComing _ _ _ _ e1) rfl rfl (Nat.le_of_ble_eq_true rfl) (by decide) (by decide) ?_
  exact q_vret C dX3_copyFrom_82 rfl (by decide) (by decide) (Option.some.inj h)
noncomputable def B_X3_setUsual_3 (l0 : Nat) (l1 : Nat) (l2 : Int32) (l3 : Int32) (l4 : Int32) (M : q_Mem) : Option ((Int32 × q_Mem) ⊕ (q_Mem)) := (if l4 < l3 then (q_al M l1 (fun v1 => (if (l2 + l4) < v1 then (q_lI M 0 l0 (((3 : Int32) * l4) + (2 : Int32)) (fun v2 => (q_tI M l1 (l2 + l4) v2 (fun M3 => some (.inl ((l4 + (1 : Int32)), M3)))))) else some (.inr M)))) else some (.inr M))
set_option maxRecDepth 100000 in
set_option maxHeartbeats 4000000 in
theorem bW_X3_setUsual_3 {K : q_K} {Q : State → Prop} (C : q_C K yX3_setUsual cX3_setUsual 5 (Option.none : Option Jvm.ClassFile.FieldType) 1 0 0) (l0 : Nat) (l1 : Nat) (l2 : Int32) (l3 : Int32) (l4 : Int32) (M : q_Mem) {stp : (Int32 × q_Mem) ⊕ (q_Mem)} (h : B_X3_setUsual_3 l0 l1 l2 l3 l4 M = some stp) (kC : ∀ (l4 : Int32) (M : q_Mem), stp = .inl (l4, M) → q_W K 5 Q 0 0 M 3 [some (.ref l0), some (.ref l1), some (.int l2), some (.int l3), some (.int l4)] []) (kE0 : ∀ (M : q_Mem), stp = .inr M → q_W K 5 Q 0 0 M 38 [none, none, none, none, none] []) : q_W K 5 Q 0 0 M 3 [some (.ref l0), some (.ref l1), some (.int l2), some (.int l3), some (.int l4)] [] := by
  unfold B_X3_setUsual_3 at h
  refine q_iload C dX3_setUsual_3 rfl ?_
  refine q_iload_n C dX3_setUsual_5 rfl ?_
  refine q_icmp_ge (tgt := 38) C dX3_setUsual_6 (by decide) h (fun _ h => ?_) (fun _ h => ?_)
  · refine q_iload_n C dX3_setUsual_9 rfl ?_
    refine q_iload C dX3_setUsual_10 rfl ?_
    refine q_iadd C dX3_setUsual_12 ?_
    refine q_aload_n C dX3_setUsual_13 rfl ?_
    refine x_alen C dX3_setUsual_14 h (fun v1 h => ?_)
    refine q_icmp_ge (tgt := 38) C dX3_setUsual_15 (by decide) h (fun _ h => ?_) (fun _ h => ?_)
    · refine q_aload_n C dX3_setUsual_18 rfl ?_
      refine q_iload_n C dX3_setUsual_19 rfl ?_
      refine q_iload C dX3_setUsual_20 rfl ?_
      refine q_iadd C dX3_setUsual_22 ?_
      refine q_aload_n C dX3_setUsual_23 rfl ?_
      refine x_iconst (v := (3 : Int32)) C dX3_setUsual_24 (by decide) ?_
      refine q_iload C dX3_setUsual_25 rfl ?_
      refine q_imul C dX3_setUsual_27 ?_
      refine x_iconst (v := (2 : Int32)) C dX3_setUsual_28 (by decide) ?_
      refine q_iadd C dX3_setUsual_29 ?_
      refine x_iald C dX3_setUsual_30 h (fun v2 h => ?_)
      refine x_iast C dX3_setUsual_31 h (fun M3 h => ?_)
      refine x_iinc (w := (1 : Int32)) (L' := [some (.ref l0), some (.ref l1), some (.int l2), some (.int l3), some (.int (l4 + (1 : Int32)))]) C dX3_setUsual_32 rfl (by decide) (by decide) rfl rfl ?_
      refine q_goto (tgt := 3) C dX3_setUsual_35 (by decide) ?_
      exact q_msk [true, true, true, true, true] (kC _ _ (Option.some.inj h).symm)
    · exact q_msk [false, false, false, false, false] (kE0 _ (Option.some.inj h).symm)
  · exact q_msk [false, false, false, false, false] (kE0 _ (Option.some.inj h).symm)
set_option maxRecDepth 100000 in
set_option maxHeartbeats 4000000 in
theorem lW_X3_setUsual_3 {K : q_K} {Q : State → Prop} (C : q_C K yX3_setUsual cX3_setUsual 5 (Option.none : Option Jvm.ClassFile.FieldType) 1 0 0) (l0 : Nat) (l1 : Nat) (l2 : Int32) (l3 : Int32) (n : Nat) : ∀ (l4 : Int32) (M : q_Mem) (e : (q_Mem)), q_lp (fun s => B_X3_setUsual_3 l0 l1 l2 l3 s.1 s.2) n (l4, M) = some e → (∀ (M : q_Mem), e = M → q_W K 5 Q 0 0 M 38 [none, none, none, none, none] []) → q_W K 5 Q 0 0 M 3 [some (.ref l0), some (.ref l1), some (.int l2), some (.int l3), some (.int l4)] [] := by
  induction n with
  | zero => intro l4 M e h; cases h
  | succ n ih =>
    intro l4 M e h kE0
    obtain ⟨stp, e1, e2⟩ := q_bind h
    refine bW_X3_setUsual_3 C l0 l1 l2 l3 l4 M e1 (fun a0 a1 hs => ?_) (fun b0 hs => ?_)
    · subst hs; exact ih _ _ _ e2 kE0
    · subst hs; exact kE0 _ (Option.some.inj e2).symm
noncomputable def F_X3_setUsual (l0 : Nat) (l1 : Nat) (l2 : Int32) (l3 : Int32) (M : q_Mem) : Option (Unit × q_Mem) := (q_lp (fun s => B_X3_setUsual_3 l0 l1 l2 l3 s.1 s.2) q_fu ((0 : Int32), M)).bind (fun e4 => match e4 with | M5 => some ((), M5))
set_option maxRecDepth 100000 in
set_option maxHeartbeats 4000000 in
theorem c_X3_setUsual (l : Launch) (G : q_G) (l0 : Nat) (l1 : Nat) (l2 : Int32) (l3 : Int32) (M : q_Mem) {r : Unit} {M' : q_Mem} (h : F_X3_setUsual l0 l1 l2 l3 M = some (r, M')) : q_Met l G yX3_setUsual cX3_setUsual 5 (Option.none : Option Jvm.ClassFile.FieldType) 1 0 0 [.ref l0, .ref l1, .int l2, .int l3] M none M' := by
  unfold F_X3_setUsual at h
  refine q_enter [some (.ref l0), some (.ref l1), some (.int l2), some (.int l3), none] (by decide) (Nat.le_of_ble_eq_true rfl) rfl (fun K C => ?_)
  refine x_iconst (v := (0 : Int32)) C dX3_setUsual_0 (by decide) ?_
  refine q_istore (L' := [some (.ref l0), some (.ref l1), some (.int l2), some (.int l3), some (.int (0 : Int32))]) C dX3_setUsual_1 (by decide) rfl rfl ?_
  obtain ⟨e4, he, h⟩ := q_bind h
  refine q_msk [true, true, true, true, true] (lW_X3_setUsual_3 C l0 l1 l2 l3 q_fu _ _ _ he (fun M5 hs => ?_))
  · have hs := hs.symm
    subst hs
    exact q_vret C dX3_setUsual_38 rfl (by decide) (by decide) (Option.some.inj h)
noncomputable def B_X9_peek_5 (l0 : Nat) (l1 : Int32) (M : q_Mem) : Option ((Int32 × q_Mem) ⊕ (q_Mem)) := (q_gI M l0 9 1 (fun v2 => (if l1 < v2 then (q_gR M l0 9 0 (fun c3 => q_nn c3 (fun r4 => (q_lI M 1 r4 l1 (fun v5 => (if v5 = (32 : Int32) then (q_gI M l0 9 2 (fun v6 => (q_pI M l0 9 2 (v6 + (1 : Int32)) (fun M7 => some (.inl ((l1 + (1 : Int32)), M7)))))) else some (.inr M))))))) else some (.inr M))))
set_option maxRecDepth 100000 in
set_option maxHeartbeats 4000000 in
theorem bW_X9_peek_5 {K : q_K} {Q : State → Prop} (C : q_C K yX9_peek cX9_peek 2 (Option.some Jvm.ClassFile.FieldType.int) 1 0 0) (l0 : Nat) (l1 : Int32) (M : q_Mem) {stp : (Int32 × q_Mem) ⊕ (q_Mem)} (h : B_X9_peek_5 l0 l1 M = some stp) (kC : ∀ (l1 : Int32) (M : q_Mem), stp = .inl (l1, M) → q_W K 2 Q 0 0 M 5 [some (.ref l0), some (.int l1)] []) (kE0 : ∀ (M : q_Mem), stp = .inr M → q_W K 2 Q 0 0 M 40 [some (.ref l0), none] []) : q_W K 2 Q 0 0 M 5 [some (.ref l0), some (.int l1)] [] := by
  unfold B_X9_peek_5 at h
  refine q_iload_n C dX9_peek_5 rfl ?_
  refine q_aload_n C dX9_peek_6 rfl ?_
  refine x_getI (ci := 9) (j := 1) C dX9_peek_7 lkF_X9_15 rfl h (fun v2 h => ?_)
  refine q_icmp_ge (tgt := 40) C dX9_peek_10 (by decide) h (fun _ h => ?_) (fun _ h => ?_)
  · refine q_aload_n C dX9_peek_13 rfl ?_
    refine x_getR (ci := 9) (j := 0) C dX9_peek_14 lkF_X9_9 rfl h (fun c3 h => ?_)
    refine x_nn h (fun r4 h => ?_)
    refine q_iload_n C dX9_peek_17 rfl ?_
    refine x_bald C dX9_peek_18 h (fun v5 h => ?_)
    refine x_bipush (v := (32 : Int32)) C dX9_peek_19 (by decide) ?_
    refine q_icmp_ne (tgt := 40) C dX9_peek_21 (by decide) h (fun _ h => ?_) (fun _ h => ?_)
    · refine q_aload_n C dX9_peek_24 rfl ?_
      refine q_dup C dX9_peek_25 rfl ?_
      refine x_getI (ci := 9) (j := 2) C dX9_peek_26 lkF_X9_19 rfl h (fun v6 h => ?_)
      refine x_iconst (v := (1 : Int32)) C dX9_peek_29 (by decide) ?_
      refine q_iadd C dX9_peek_30 ?_
      refine x_putI (ci := 9) (j := 2) C dX9_peek_31 lkF_X9_19 (fun r hr => by cases hr; rfl) rfl h (fun M7 h => ?_)
      refine x_iinc (w := (1 : Int32)) (L' := [some (.ref l0), some (.int (l1 + (1 : Int32)))]) C dX9_peek_34 rfl (by decide) (by decide) rfl rfl ?_
      refine q_goto (tgt := 5) C dX9_peek_37 (by decide) ?_
      exact q_msk [true, true] (kC _ _ (Option.some.inj h).symm)
    · exact q_msk [true, false] (kE0 _ (Option.some.inj h).symm)
  · exact q_msk [true, false] (kE0 _ (Option.some.inj h).symm)
set_option maxRecDepth 100000 in
set_option maxHeartbeats 4000000 in
theorem lW_X9_peek_5 {K : q_K} {Q : State → Prop} (C : q_C K yX9_peek cX9_peek 2 (Option.some Jvm.ClassFile.FieldType.int) 1 0 0) (l0 : Nat) (n : Nat) : ∀ (l1 : Int32) (M : q_Mem) (e : (q_Mem)), q_lp (fun s => B_X9_peek_5 l0 s.1 s.2) n (l1, M) = some e → (∀ (M : q_Mem), e = M → q_W K 2 Q 0 0 M 40 [some (.ref l0), none] []) → q_W K 2 Q 0 0 M 5 [some (.ref l0), some (.int l1)] [] := by
  induction n with
  | zero => intro l1 M e h; cases h
  | succ n ih =>
    intro l1 M e h kE0
    obtain ⟨stp, e1, e2⟩ := q_bind h
    refine bW_X9_peek_5 C l0 l1 M e1 (fun a0 a1 hs => ?_) (fun b0 hs => ?_)
    · subst hs; exact ih _ _ _ e2 kE0
    · subst hs; exact kE0 _ (Option.some.inj e2).symm
noncomputable def F_X9_peek (l0 : Nat) (M : q_Mem) : Option (Int32 × q_Mem) := (q_gI M l0 9 2 (fun v1 => (q_lp (fun s => B_X9_peek_5 l0 s.1 s.2) q_fu (v1, M)).bind (fun e8 => match e8 with | M9 => (q_gI M9 l0 9 2 (fun v10 => (q_gI M9 l0 9 1 (fun v11 => (if v10 < v11 then (q_gR M9 l0 9 0 (fun c12 => q_nn c12 (fun r13 => (q_gI M9 l0 9 2 (fun v14 => (q_lI M9 1 r13 v14 (fun v15 => some ((v15 &&& (255 : Int32)), M9)))))))) else some ((-1 : Int32), M9)))))))))
set_option maxRecDepth 100000 in
set_option maxHeartbeats 4000000 in
theorem c_X9_peek (l : Launch) (G : q_G) (l0 : Nat) (M : q_Mem) {r : Int32} {M' : q_Mem} (h : F_X9_peek l0 M = some (r, M')) : q_Met l G yX9_peek cX9_peek 2 (Option.some Jvm.ClassFile.FieldType.int) 1 0 0 [.ref l0] M (some (.int r)) M' := by
  unfold F_X9_peek at h
  refine q_enter [some (.ref l0), none] (by decide) (Nat.le_of_ble_eq_true rfl) rfl (fun K C => ?_)
  refine q_aload_n C dX9_peek_0 rfl ?_
  refine x_getI (ci := 9) (j := 2) C dX9_peek_1 lkF_X9_19 rfl h (fun v1 h => ?_)
  refine q_istore_n (L' := [some (.ref l0), some (.int v1)]) C dX9_peek_4 (by decide) rfl rfl ?_
  obtain ⟨e8, he, h⟩ := q_bind h
  refine q_msk [true, true] (lW_X9_peek_5 C l0 q_fu _ _ _ he (fun M9 hs => ?_))
  · have hs := hs.symm
    subst hs
    refine q_aload_n C dX9_peek_40 rfl ?_
    refine x_getI (ci := 9) (j := 2) C dX9_peek_41 lkF_X9_19 rfl h (fun v10 h => ?_)
    refine q_aload_n C dX9_peek_44 rfl ?_
    refine x_getI (ci := 9) (j := 1) C dX9_peek_45 lkF_X9_15 rfl h (fun v11 h => ?_)
    refine q_icmp_ge (tgt := 67) C dX9_peek_48 (by decide) h (fun _ h => ?_) (fun _ h => ?_)
    · refine q_aload_n C dX9_peek_51 rfl ?_
      refine x_getR (ci := 9) (j := 0) C dX9_peek_52 lkF_X9_9 rfl h (fun c12 h => ?_)
      refine x_nn h (fun r13 h => ?_)
      refine q_aload_n C dX9_peek_55 rfl ?_
      refine x_getI (ci := 9) (j := 2) C dX9_peek_56 lkF_X9_19 rfl h (fun v14 h => ?_)
      refine x_bald C dX9_peek_59 h (fun v15 h => ?_)
      refine x_sipush (v := (255 : Int32)) C dX9_peek_60 (by decide) ?_
      refine q_iand C dX9_peek_63 ?_
      refine q_goto (tgt := 68) C dX9_peek_64 (by decide) ?_
      exact q_iret C dX9_peek_68 rfl (by decide) (by decide) (Option.some.inj h)
    · refine x_iconst (v := (-1 : Int32)) C dX9_peek_67 (by decide) ?_
      exact q_iret C dX9_peek_68 rfl (by decide) (by decide) (Option.some.inj h)
noncomputable def F_J0_coder_7d493 (l0 : Nat) (M : q_Mem) : Option (Int32) := (if (1 : Int32) = 0 then q_rt .byte (1 : Int32) else (q_gI M l0 14 1 (fun v1 => q_rt .byte v1)))
set_option maxRecDepth 100000 in
set_option maxHeartbeats 4000000 in
theorem c_J0_coder_7d493 (l : Launch) (G : q_G) (l0 : Nat) (M : q_Mem) {r : Int32} (h : F_J0_coder_7d493 l0 M = some r) : q_Met l G yJ0_coder_7d493 cJ0_coder_7d493 1 (Option.some Jvm.ClassFile.FieldType.byte) 1 0 0 [.ref l0] M (some (.int r)) M := by
  unfold F_J0_coder_7d493 at h
  refine q_enter [some (.ref l0)] (by decide) (Nat.le_of_ble_eq_true rfl) rfl (fun K C => ?_)
  refine q_gets (w := .int (1 : Int32)) C dJ0_coder_7d493_0 wd_440 (by simp [q_zs, q_cv, q_ad, q_NS]) rfl ?_
  refine q_if_eq (tgt := 13) C dJ0_coder_7d493_3 (by decide) h (fun _ h => ?_) (fun _ h => ?_)
  · refine x_iconst (v := (1 : Int32)) C dJ0_coder_7d493_13 (by decide) ?_
    exact q_nret (r := (r, M)) C dJ0_coder_7d493_14 rfl (by decide) (by decide) (q_rtE h).1 (congrArg (fun z => (z, M)) (q_rtE h).2)
  · refine q_aload_n C dJ0_coder_7d493_6 rfl ?_
    refine x_getSI C dJ0_coder_7d493_7 wd_1860 h (fun v1 h => ?_)
    refine q_goto (tgt := 14) C dJ0_coder_7d493_10 (by decide) ?_
    exact q_nret (r := (r, M)) C dJ0_coder_7d493_14 rfl (by decide) (by decide) (q_rtE h).1 (congrArg (fun z => (z, M)) (q_rtE h).2)
noncomputable def F_J0_length_8abf5 (l0 : Nat) (M : q_Mem) : Option (Int32) := (q_gR M l0 14 0 (fun c1 => q_nn c1 (fun r2 => (q_al M r2 (fun v3 => (q_ob M l0 14 ((F_J0_coder_7d493 l0 M).bind (fun u4 => some (v3 >>> (u4 &&& 31))))))))))
set_option maxRecDepth 100000 in
set_option maxHeartbeats 4000000 in
theorem c_J0_length_8abf5 (l : Launch) (G : q_G) (l0 : Nat) (M : q_Mem) {r : Int32} (h : F_J0_length_8abf5 l0 M = some r) : q_Met l G yJ0_length_8abf5 cJ0_length_8abf5 1 (Option.some Jvm.ClassFile.FieldType.int) 2 0 0 [.ref l0] M (some (.int r)) M := by
  unfold F_J0_length_8abf5 at h
  refine q_enter [some (.ref l0)] (by decide) (Nat.le_of_ble_eq_true rfl) rfl (fun K C => ?_)
  refine q_aload_n C dJ0_length_8abf5_0 rfl ?_
  refine x_getSV C dJ0_length_8abf5_1 wd_1859 h (fun c1 h => ?_)
  refine x_nn h (fun r2 h => ?_)
  refine x_alen C dJ0_length_8abf5_4 h (fun v3 h => ?_)
  refine q_aload_n C dJ0_length_8abf5_5 rfl ?_
  obtain ⟨hk, h⟩ := q_obE h
  obtain ⟨u4, e1, h⟩ := q_bind h
  refine x_callT C dJ0_length_8abf5_6 wd_436 mV_J0_coder_7d493 rfl hk (c_J0_coder_7d493 _ _ _ _ e1) rfl rfl (Nat.le_of_ble_eq_true rfl) (by decide) (by decide) ?_
  refine q_ishr C dJ0_length_8abf5_9 ?_
  exact q_iret (res := (r, M)) C dJ0_length_8abf5_10 rfl (by decide) (by decide) (congrArg (fun z => (z, M)) (Option.some.inj h))
noncomputable def F_J0_isLatin1_aae02 (l0 : Nat) (M : q_Mem) : Option (Int32) := (if (1 : Int32) = 0 then q_rq (0 : Int32) else (q_gI M l0 14 1 (fun v1 => (if v1 = 0 then q_rq (1 : Int32) else q_rq (0 : Int32)))))
set_option maxRecDepth 100000 in
set_option maxHeartbeats 4000000 in
theorem c_J0_isLatin1_aae02 (l : Launch) (G : q_G) (l0 : Nat) (M : q_Mem) {r : Int32} (h : F_J0_isLatin1_aae02 l0 M = some r) : q_Met l G yJ0_isLatin1_aae02 cJ0_isLatin1_aae02 1 (Option.some Jvm.ClassFile.FieldType.boolean) 1 0 0 [.ref l0] M (some (.int r)) M := by
  unfold F_J0_isLatin1_aae02 at h
  refine q_enter [some (.ref l0)] (by decide) (Nat.le_of_ble_eq_true rfl) rfl (fun K C => ?_)
  refine q_gets (w := .int (1 : Int32)) C dJ0_isLatin1_aae02_0 wd_440 (by simp [q_zs, q_cv, q_ad, q_NS]) rfl ?_
  refine q_if_eq (tgt := 17) C dJ0_isLatin1_aae02_3 (by decide) h (fun _ h => ?_) (fun _ h => ?_)
  · refine x_iconst (v := (0 : Int32)) C dJ0_isLatin1_aae02_17 (by decide) ?_
    exact q_zret (res := (r, M)) C dJ0_isLatin1_aae02_18 rfl (by decide) (by decide) (q_rqE h).1 (congrArg (fun z => (z, M)) (q_rqE h).2)
  · refine q_aload_n C dJ0_isLatin1_aae02_6 rfl ?_
    refine x_getSI C dJ0_isLatin1_aae02_7 wd_1860 h (fun v1 h => ?_)
    refine q_if_ne (tgt := 17) C dJ0_isLatin1_aae02_10 (by decide) h (fun _ h => ?_) (fun _ h => ?_)
    · refine x_iconst (v := (1 : Int32)) C dJ0_isLatin1_aae02_13 (by decide) ?_
      refine q_goto (tgt := 18) C dJ0_isLatin1_aae02_14 (by decide) ?_
      exact q_zret (res := (r, M)) C dJ0_isLatin1_aae02_18 rfl (by decide) (by decide) (q_rqE h).1 (congrArg (fun z => (z, M)) (q_rqE h).2)
    · refine x_iconst (v := (0 : Int32)) C dJ0_isLatin1_aae02_17 (by decide) ?_
      exact q_zret (res := (r, M)) C dJ0_isLatin1_aae02_18 rfl (by decide) (by decide) (q_rqE h).1 (congrArg (fun z => (z, M)) (q_rqE h).2)
noncomputable def F_J1_canEncode_9a6ad (l0 : Int32) (M : q_Mem) : Option (Int32) := (if l0 < 0 then q_rq (0 : Int32) else (if (255 : Int32) < l0 then q_rq (0 : Int32) else q_rq (1 : Int32)))
set_option maxRecDepth 100000 in
set_option maxHeartbeats 4000000 in
theorem c_J1_canEncode_9a6ad (l : Launch) (G : q_G) (l0 : Int32) (M : q_Mem) {r : Int32} (h : F_J1_canEncode_9a6ad l0 M = some r) : q_Met l G yJ1_canEncode_9a6ad cJ1_canEncode_9a6ad 1 (Option.some Jvm.ClassFile.FieldType.boolean) 1 0 0 [.int l0] M (some (.int r)) M := by
  unfold F_J1_canEncode_9a6ad at h
  refine q_enter [some (.int l0)] (by decide) (Nat.le_of_ble_eq_true rfl) rfl (fun K C => ?_)
  refine q_iload_n C dJ1_canEncode_9a6ad_0 rfl ?_
  refine q_if_lt (tgt := 15) C dJ1_canEncode_9a6ad_1 (by decide) h (fun _ h => ?_) (fun _ h => ?_)
  · refine x_iconst (v := (0 : Int32)) C dJ1_canEncode_9a6ad_15 (by decide) ?_
    exact q_zret (res := (r, M)) C dJ1_canEncode_9a6ad_16 rfl (by decide) (by decide) (q_rqE h).1 (congrArg (fun z => (z, M)) (q_rqE h).2)
  · refine q_iload_n C dJ1_canEncode_9a6ad_4 rfl ?_
    refine x_sipush (v := (255 : Int32)) C dJ1_canEncode_9a6ad_5 (by decide) ?_
    refine q_icmp_gt (tgt := 15) C dJ1_canEncode_9a6ad_8 (by decide) h (fun _ h => ?_) (fun _ h => ?_)
    · refine x_iconst (v := (0 : Int32)) C dJ1_canEncode_9a6ad_15 (by decide) ?_
      exact q_zret (res := (r, M)) C dJ1_canEncode_9a6ad_16 rfl (by decide) (by decide) (q_rqE h).1 (congrArg (fun z => (z, M)) (q_rqE h).2)
    · refine x_iconst (v := (1 : Int32)) C dJ1_canEncode_9a6ad_11 (by decide) ?_
      refine q_goto (tgt := 16) C dJ1_canEncode_9a6ad_12 (by decide) ?_
      exact q_zret (res := (r, M)) C dJ1_canEncode_9a6ad_16 rfl (by decide) (by decide) (q_rqE h).1 (congrArg (fun z => (z, M)) (q_rqE h).2)
noncomputable def B_J1_indexOfChar_4cfef_7 (l0 : Nat) (l3 : Int32) (l4 : Int32) (l5 : Int32) (M : q_Mem) : Option ((Int32) ⊕ ((Int32) ⊕ (Unit))) := (if l5 < l3 then (q_lI M 1 l0 l5 (fun v1 => (if v1 = l4 then some (.inr (.inl l5)) else some (.inl (l5 + (1 : Int32)))))) else some (.inr (.inr ())))
set_option maxRecDepth 100000 in
set_option maxHeartbeats 4000000 in
theorem bW_J1_indexOfChar_4cfef_7 {K : q_K} {Q : State → Prop} (C : q_C K yJ1_indexOfChar_4cfef cJ1_indexOfChar_4cfef 6 (Option.some Jvm.ClassFile.FieldType.int) 1 0 0) (l0 : Nat) (l3 : Int32) (l4 : Int32) (l5 : Int32) (M : q_Mem) {stp : (Int32) ⊕ ((Int32) ⊕ (Unit))} (h : B_J1_indexOfChar_4cfef_7 l0 l3 l4 l5 M = some stp) (kC : ∀ (l5 : Int32), stp = .inl l5 → q_W K 6 Q 0 0 M 7 [some (.ref l0), none, none, some (.int l3), some (.int l4), some (.int l5)] []) (kE0 : ∀ (l5 : Int32), stp = .inr (.inl l5) → q_W K 6 Q 0 0 M 22 [none, none, none, none, none, some (.int l5)] []) (kE1 : stp = .inr (.inr ()) → q_W K 6 Q 0 0 M 31 [none, none, none, none, none, none] []) : q_W K 6 Q 0 0 M 7 [some (.ref l0), none, none, some (.int l3), some (.int l4), some (.int l5)] [] := by
  unfold B_J1_indexOfChar_4cfef_7 at h
  refine q_iload C dJ1_indexOfChar_4cfef_7 rfl ?_
  refine q_iload_n C dJ1_indexOfChar_4cfef_9 rfl ?_
  refine q_icmp_ge (tgt := 31) C dJ1_indexOfChar_4cfef_10 (by decide) h (fun _ h => ?_) (fun _ h => ?_)
  · refine q_aload_n C dJ1_indexOfChar_4cfef_13 rfl ?_
    refine q_iload C dJ1_indexOfChar_4cfef_14 rfl ?_
    refine x_bald C dJ1_indexOfChar_4cfef_16 h (fun v1 h => ?_)
    refine q_iload C dJ1_indexOfChar_4cfef_17 rfl ?_
    refine q_icmp_ne (tgt := 25) C dJ1_indexOfChar_4cfef_19 (by decide) h (fun _ h => ?_) (fun _ h => ?_)
    · exact q_msk [false, false, false, false, false, true] (kE0 _ (Option.some.inj h).symm)
    · refine x_iinc (w := (1 : Int32)) (L' := [some (.ref l0), none, none, some (.int l3), some (.int l4), some (.int (l5 + (1 : Int32)))]) C dJ1_indexOfChar_4cfef_25 rfl (by decide) (by decide) rfl rfl ?_
      refine q_goto (tgt := 7) C dJ1_indexOfChar_4cfef_28 (by decide) ?_
      exact q_msk [true, false, false, true, true, true] (kC _ (Option.some.inj h).symm)
  · exact q_msk [false, false, false, false, false, false] (kE1 (Option.some.inj h).symm)
set_option maxRecDepth 100000 in
set_option maxHeartbeats 4000000 in
theorem lW_J1_indexOfChar_4cfef_7 {K : q_K} {Q : State → Prop} (C : q_C K yJ1_indexOfChar_4cfef cJ1_indexOfChar_4cfef 6 (Option.some Jvm.ClassFile.FieldType.int) 1 0 0) (l0 : Nat) (l3 : Int32) (l4 : Int32) (M : q_Mem) (n : Nat) : ∀ (l5 : Int32) (e : ((Int32) ⊕ (Unit))), q_lp (fun s => B_J1_indexOfChar_4cfef_7 l0 l3 l4 s M) n l5 = some e → (∀ (l5 : Int32), e = (.inl l5) → q_W K 6 Q 0 0 M 22 [none, none, none, none, none, some (.int l5)] []) → (e = (.inr ()) → q_W K 6 Q 0 0 M 31 [none, none, none, none, none, none] []) → q_W K 6 Q 0 0 M 7 [some (.ref l0), none, none, some (.int l3), some (.int l4), some (.int l5)] [] := by
  induction n with
  | zero => intro l5 e h; cases h
  | succ n ih =>
    intro l5 e h kE0 kE1
    obtain ⟨stp, e1, e2⟩ := q_bind h
    refine bW_J1_indexOfChar_4cfef_7 C l0 l3 l4 l5 M e1 (fun a0 hs => ?_) (fun b0 hs => ?_) (fun hs => ?_)
    · subst hs; exact ih _ _ e2 kE0 kE1
    · subst hs; exact kE0 _ (Option.some.inj e2).symm
    · subst hs; exact kE1 (Option.some.inj e2).symm
noncomputable def F_J1_indexOfChar_4cfef (l0 : Nat) (l1 : Int32) (l2 : Int32) (l3 : Int32) (M : q_Mem) : Option (Int32) := (q_lp (fun s => B_J1_indexOfChar_4cfef_7 l0 l3 l1.toInt8.toInt32 s M) q_fu l2).bind (fun e2 => match e2 with | .inl w3 => some w3 | .inr () => some (-1 : Int32))
set_option maxRecDepth 100000 in
set_option maxHeartbeats 4000000 in
theorem c_J1_indexOfChar_4cfef (l : Launch) (G : q_G) (l0 : Nat) (l1 : Int32) (l2 : Int32) (l3 : Int32) (M : q_Mem) {r : Int32} (h : F_J1_indexOfChar_4cfef l0 l1 l2 l3 M = some r) : q_Met l G yJ1_indexOfChar_4cfef cJ1_indexOfChar_4cfef 6 (Option.some Jvm.ClassFile.FieldType.int) 1 0 0 [.ref l0, .int l1, .int l2, .int l3] M (some (.int r)) M := by
  unfold F_J1_indexOfChar_4cfef at h
  refine q_enter [some (.ref l0), some (.int l1), some (.int l2), some (.int l3), none, none] (by decide) (Nat.le_of_ble_eq_true rfl) rfl (fun K C => ?_)
  refine q_iload_n C dJ1_indexOfChar_4cfef_0 rfl ?_
  refine q_i2b C dJ1_indexOfChar_4cfef_1 ?_
  refine q_istore (L' := [some (.ref l0), some (.int l1), some (.int l2), some (.int l3), some (.int l1.toInt8.toInt32), none]) C dJ1_indexOfChar_4cfef_2 (by decide) rfl rfl ?_
  refine q_iload_n C dJ1_indexOfChar_4cfef_4 rfl ?_
  refine q_istore (L' := [some (.ref l0), some (.int l1), some (.int l2), some (.int l3), some (.int l1.toInt8.toInt32), some (.int l2)]) C dJ1_indexOfChar_4cfef_5 (by decide) rfl rfl ?_
  obtain ⟨e2, he, h⟩ := q_bind h
  refine q_msk [true, false, false, true, true, true] (lW_J1_indexOfChar_4cfef_7 C l0 l3 l1.toInt8.toInt32 M q_fu _ _ he (fun w3 hs => ?_) (fun hs => ?_))
  · have hs := hs.symm
    subst hs
    refine q_iload C dJ1_indexOfChar_4cfef_22 rfl ?_
    exact q_iret (res := (r, M)) C dJ1_indexOfChar_4cfef_24 rfl (by decide) (by decide) (congrArg (fun z => (z, M)) (Option.some.inj h))
  · have hs := hs.symm
    subst hs
    refine x_iconst (v := (-1 : Int32)) C dJ1_indexOfChar_4cfef_31 (by decide) ?_
    exact q_iret (res := (r, M)) C dJ1_indexOfChar_4cfef_32 rfl (by decide) (by decide) (congrArg (fun z => (z, M)) (Option.some.inj h))
noncomputable def F_J1_indexOf_4cfef (l0 : Nat) (l1 : Int32) (l2 : Int32) (l3 : Int32) (M : q_Mem) : Option (Int32) := ((F_J1_canEncode_9a6ad l1 M).bind (fun u1 => (if u1 = 0 then some (-1 : Int32) else (q_al M l0 (fun v2 => (if (q_mx l2 (0 : Int32)) < (q_mn l3 v2) then ((F_J1_indexOfChar_4cfef l0 l1 (q_mx l2 (0 : Int32)) (q_mn l3 v2) M).bind (fun u3 => some u3)) else some (-1 : Int32)))))))
set_option maxRecDepth 100000 in
set_option maxHeartbeats 4000000 in
theorem c_J1_indexOf_4cfef (l : Launch) (G : q_G) (l0 : Nat) (l1 : Int32) (l2 : Int32) (l3 : Int32) (M : q_Mem) {r : Int32} (h : F_J1_indexOf_4cfef l0 l1 l2 l3 M = some r) : q_Met l G yJ1_indexOf_4cfef cJ1_indexOf_4cfef 4 (Option.some Jvm.ClassFile.FieldType.int) 2 0 0 [.ref l0, .int l1, .int l2, .int l3] M (some (.int r)) M := by
  unfold F_J1_indexOf_4cfef at h
  refine q_enter [some (.ref l0), some (.int l1), some (.int l2), some (.int l3)] (by decide) (Nat.le_of_ble_eq_true rfl) rfl (fun K C => ?_)
  refine q_iload_n C dJ1_indexOf_4cfef_0 rfl ?_
  obtain ⟨u1, e1, h⟩ := q_bind h
  refine x_callS0 C dJ1_indexOf_4cfef_1 lkM_J1_88 mS_J1_canEncode_9a6ad (c_J1_canEncode_9a6ad _ _ _ _ e1) rfl rfl (Nat.le_of_ble_eq_true rfl) (by decide) (by decide) ?_
  refine q_if_ne (tgt := 9) C dJ1_indexOf_4cfef_4 (by decide) h (fun _ h => ?_) (fun _ h => ?_)
  · refine x_iconst (v := (-1 : Int32)) C dJ1_indexOf_4cfef_7 (by decide) ?_
    exact q_iret (res := (r, M)) C dJ1_indexOf_4cfef_8 rfl (by decide) (by decide) (congrArg (fun z => (z, M)) (Option.some.inj h))
  · refine q_iload_n C dJ1_indexOf_4cfef_9 rfl ?_
    refine x_iconst (v := (0 : Int32)) C dJ1_indexOf_4cfef_10 (by decide) ?_
    refine q_max C dJ1_indexOf_4cfef_11 wd_466 wd_467 wd_15 wd_468 (by decide) (Nat.le_of_ble_eq_true rfl) (by decide) ?_
    refine q_istore_n (L' := [some (.ref l0), some (.int l1), some (.int (q_mx l2 (0 : Int32))), some (.int l3)]) C dJ1_indexOf_4cfef_14 (by decide) rfl rfl ?_
    refine q_iload_n C dJ1_indexOf_4cfef_15 rfl ?_
    refine q_aload_n C dJ1_indexOf_4cfef_16 rfl ?_
    refine x_alen C dJ1_indexOf_4cfef_17 h (fun v2 h => ?_)
    refine q_min C dJ1_indexOf_4cfef_18 wd_469 wd_470 wd_15 wd_471 (by decide) (Nat.le_of_ble_eq_true rfl) (by decide) ?_
    refine q_istore_n (L' := [some (.ref l0), some (.int l1), some (.int (q_mx l2 (0 : Int32))), some (.int (q_mn l3 v2))]) C dJ1_indexOf_4cfef_21 (by decide) rfl rfl ?_
    refine q_iload_n C dJ1_indexOf_4cfef_22 rfl ?_
    refine q_iload_n C dJ1_indexOf_4cfef_23 rfl ?_
    refine q_icmp_lt (tgt := 29) C dJ1_indexOf_4cfef_24 (by decide) h (fun _ h => ?_) (fun _ h => ?_)
    · refine q_aload_n C dJ1_indexOf_4cfef_29 rfl ?_
      refine q_iload_n C dJ1_indexOf_4cfef_30 rfl ?_
      refine q_iload_n C dJ1_indexOf_4cfef_31 rfl ?_
      refine q_iload_n C dJ1_indexOf_4cfef_32 rfl ?_
      obtain ⟨u3, e1, h⟩ := q_bind h
      refine x_callS0 C dJ1_indexOf_4cfef_33 lkM_J1_95 mS_J1_indexOfChar_4cfef (c_J1_indexOfChar_4cfef _ _ _ _ _ _ _ e1) rfl rfl (Nat.le_of_ble_eq_true rfl) (by decide) (by decide) ?_
      exact q_iret (res := (r, M)) C dJ1_indexOf_4cfef_36 rfl (by decide) (by decide) (congrArg (fun z => (z, M)) (Option.some.inj h))
    · refine x_iconst (v := (-1 : Int32)) C dJ1_indexOf_4cfef_27 (by decide) ?_
      exact q_iret (res := (r, M)) C dJ1_indexOf_4cfef_28 rfl (by decide) (by decide) (congrArg (fun z => (z, M)) (Option.some.inj h))
