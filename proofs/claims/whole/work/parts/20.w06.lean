def Hr_X5_readCondition (n0 : Nat) (rec : (Nat → Nat → Int32 → Int32 → q_Mem → Option (Int32 × q_Mem))) : Prop := ∀ (l : Launch) (G : q_G), (∀ (a0 : Nat) (a1 : Int32) (a2 : Int32) (M : q_Mem) (r : Int32) (M' : q_Mem), rec 0 a0 a1 a2 M = some (r, M') → q_Met l G yX5_readCondition cX5_readCondition 4 (Option.some Jvm.ClassFile.FieldType.boolean) (n0 + 67) 0 0 [.ref a0, .int a1, .int a2] M (some (.int r)) M') ∧ (∀ (a0 : Nat) (a1 : Int32) (M : q_Mem) (r : Int32) (M' : q_Mem), rec 1 a0 a1 0 M = some (r, M') → q_Met l G yX5_readNested cX5_readNested 2 (Option.some Jvm.ClassFile.FieldType.boolean) (n0 + 67) 0 0 [.ref a0, .int a1] M (some (.int r)) M') ∧ (∀ (a0 : Nat) (a1 : Int32) (a2 : Int32) (M : q_Mem) (r : Int32) (M' : q_Mem), rec 2 a0 a1 a2 M = some (r, M') → q_Met l G yX5_readTruth cX5_readTruth 4 (Option.some Jvm.ClassFile.FieldType.boolean) (n0 + 67) 0 0 [.ref a0, .int a1, .int a2] M (some (.int r)) M') ∧ (∀ (a0 : Nat) (a1 : Int32) (a2 : Int32) (M : q_Mem) (r : Int32) (M' : q_Mem), rec 3 a0 a1 a2 M = some (r, M') → q_Met l G yX5_readUnit cX5_readUnit 4 (Option.some Jvm.ClassFile.FieldType.boolean) (n0 + 67) 0 0 [.ref a0, .int a1, .int a2] M (some (.int r)) M')
noncomputable def B_X5_readCondition_13 (rec : (Nat → Nat → Int32 → Int32 → q_Mem → Option (Int32 × q_Mem))) (l0 : Nat) (l1 : Int32) (l3 : Int32) (M : q_Mem) : Option ((Int32 × q_Mem) ⊕ ((q_Mem) ⊕ (q_Mem))) := (if l3 < (240 : Int32) then (q_gR M l0 5 0 (fun c3 => q_nn c3 (fun r4 => (q_ob M r4 9 ((F_X9_take r4 (124 : Int32) M).bind (fun x => match x with | (u5, M6) => (if u5 = 0 then some (.inr (.inr M6)) else (q_ob M6 l0 5 ((rec 2 l0 l1 (0 : Int32) M6).bind (fun x => match x with | (u7, M8) => (if u7 = 0 then some (.inr (.inl M8)) else (q_ob M8 l0 5 ((F_X5_write l0 (-15 : Int32) M8).bind (fun x => match x with | (_, M10) => some (.inl ((l3 + (1 : Int32)), M10)))))))))))))))) else some (.inr (.inr M)))
set_option maxRecDepth 100000 in
set_option maxHeartbeats 4000000 in
theorem bW_X5_readCondition_13 {K : q_K} {Q : State → Prop} {n0 : Nat} (C : q_C K yX5_readCondition cX5_readCondition 4 (Option.some Jvm.ClassFile.FieldType.boolean) (n0 + 67 + 1) 0 0) {rec : (Nat → Nat → Int32 → Int32 → q_Mem → Option (Int32 × q_Mem))} (hr : Hr_X5_readCondition n0 rec) (l0 : Nat) (l1 : Int32) (l3 : Int32) (M : q_Mem) {stp : (Int32 × q_Mem) ⊕ ((q_Mem) ⊕ (q_Mem))} (h : B_X5_readCondition_13 rec l0 l1 l3 M = some stp) (kC : ∀ (l3 : Int32) (M : q_Mem), stp = .inl (l3, M) → q_W K 4 Q 0 0 M 13 [some (.ref l0), some (.int l1), none, some (.int l3)] []) (kE0 : ∀ (M : q_Mem), stp = .inr (.inl M) → q_W K 4 Q 0 0 M 41 [none, none, none, none] []) (kE1 : ∀ (M : q_Mem), stp = .inr (.inr M) → q_W K 4 Q 0 0 M 55 [none, none, none, none] []) : q_W K 4 Q 0 0 M 13 [some (.ref l0), some (.int l1), none, some (.int l3)] [] := by
  unfold B_X5_readCondition_13 at h
  refine q_iload_n C dX5_readCondition_13 rfl ?_
  refine x_sipush (v := (240 : Int32)) C dX5_readCondition_14 (by decide) ?_
  refine q_icmp_ge (tgt := 55) C dX5_readCondition_17 (by decide) h (fun _ h => ?_) (fun _ h => ?_)
  · refine q_aload_n C dX5_readCondition_20 rfl ?_
    refine x_getR (ci := 5) (j := 0) C dX5_readCondition_21 lkF_X5_19 rfl h (fun c3 h => ?_)
    refine x_nn h (fun r4 h => ?_)
    refine x_bipush (v := (124 : Int32)) C dX5_readCondition_24 (by decide) ?_
    obtain ⟨hk, h⟩ := q_obE h
    obtain ⟨⟨u5, M6⟩, e1, h⟩ := q_bind h
    refine x_callV0 C dX5_readCondition_26 lkM_X5_39 mV_X9_take ⟨_, rfl, rfl⟩ hk (c_X9_take _ _ _ _ _ e1) rfl rfl (Nat.le_of_ble_eq_true rfl) (⟨by omega, by decide⟩) (by decide) ?_
    refine q_if_eq (tgt := 55) C dX5_readCondition_29 (by decide) h (fun _ h => ?_) (fun _ h => ?_)
    · exact q_msk [false, false, false, false] (kE1 _ (Option.some.inj h).symm)
    · refine q_aload_n C dX5_readCondition_32 rfl ?_
      refine q_iload_n C dX5_readCondition_33 rfl ?_
      refine x_iconst (v := (0 : Int32)) C dX5_readCondition_34 (by decide) ?_
      obtain ⟨hk, h⟩ := q_obE h
      obtain ⟨⟨u7, M8⟩, e1, h⟩ := q_bind h
      refine x_callV0 C dX5_readCondition_35 lkM_X5_63 mV_X5_readTruth ⟨_, rfl, rfl⟩ hk ((hr _ _).2.2.1 _ _ _ _ _ _ e1) rfl rfl (Nat.le_of_ble_eq_true rfl) (⟨by omega, by decide⟩) (by decide) ?_
      refine q_if_ne (tgt := 43) C dX5_readCondition_38 (by decide) h (fun _ h => ?_) (fun _ h => ?_)
      · exact q_msk [false, false, false, false] (kE0 _ (Option.some.inj h).symm)
      · refine q_aload_n C dX5_readCondition_43 rfl ?_
        refine x_bipush (v := (-15 : Int32)) C dX5_readCondition_44 (by decide) ?_
        obtain ⟨hk, h⟩ := q_obE h
        obtain ⟨⟨_, M10⟩, e1, h⟩ := q_bind h
        refine x_callVv0 C dX5_readCondition_46 lkM_X5_55 mV_X5_write ⟨_, rfl, rfl⟩ hk (c_X5_write _ _ _ _ _ e1) rfl rfl (Nat.le_of_ble_eq_true rfl) (⟨by omega, by decide⟩) (by decide) ?_
        refine x_iinc (w := (1 : Int32)) (L' := [some (.ref l0), some (.int l1), none, some (.int (l3 + (1 : Int32)))]) C dX5_readCondition_49 rfl (by decide) (by decide) rfl rfl ?_
        refine q_goto (tgt := 13) C dX5_readCondition_52 (by decide) ?_
        exact q_msk [true, true, false, true] (kC _ _ (Option.some.inj h).symm)
  · exact q_msk [false, false, false, false] (kE1 _ (Option.some.inj h).symm)
set_option maxRecDepth 100000 in
set_option maxHeartbeats 4000000 in
theorem lW_X5_readCondition_13 {K : q_K} {Q : State → Prop} {n0 : Nat} (C : q_C K yX5_readCondition cX5_readCondition 4 (Option.some Jvm.ClassFile.FieldType.boolean) (n0 + 67 + 1) 0 0) {rec : (Nat → Nat → Int32 → Int32 → q_Mem → Option (Int32 × q_Mem))} (hr : Hr_X5_readCondition n0 rec) (l0 : Nat) (l1 : Int32) (n : Nat) : ∀ (l3 : Int32) (M : q_Mem) (e : ((q_Mem) ⊕ (q_Mem))), q_lp (fun s => B_X5_readCondition_13 rec l0 l1 s.1 s.2) n (l3, M) = some e → (∀ (M : q_Mem), e = (.inl M) → q_W K 4 Q 0 0 M 41 [none, none, none, none] []) → (∀ (M : q_Mem), e = (.inr M) → q_W K 4 Q 0 0 M 55 [none, none, none, none] []) → q_W K 4 Q 0 0 M 13 [some (.ref l0), some (.int l1), none, some (.int l3)] [] := by
  induction n with
  | zero => intro l3 M e h; cases h
  | succ n ih =>
    intro l3 M e h kE0 kE1
    obtain ⟨stp, e1, e2⟩ := q_bind h
    refine bW_X5_readCondition_13 C hr l0 l1 l3 M e1 (fun a0 a1 hs => ?_) (fun b0 hs => ?_) (fun b0 hs => ?_)
    · subst hs; exact ih _ _ _ e2 kE0 kE1
    · subst hs; exact kE0 _ (Option.some.inj e2).symm
    · subst hs; exact kE1 _ (Option.some.inj e2).symm
noncomputable def F_X5_readCondition (rec : (Nat → Nat → Int32 → Int32 → q_Mem → Option (Int32 × q_Mem))) (l0 : Nat) (l1 : Int32) (l2 : Int32) (M : q_Mem) : Option (Int32 × q_Mem) := (q_ob M l0 5 ((rec 2 l0 l1 l2 M).bind (fun x => match x with | (u1, M2) => (if u1 = 0 then q_rz (0 : Int32) M2 else (q_lp (fun s => B_X5_readCondition_13 rec l0 l1 s.1 s.2) q_fu ((0 : Int32), M2)).bind (fun e11 => match e11 with | .inl M12 => q_rz (0 : Int32) M12 | .inr M13 => q_rz (1 : Int32) M13)))))
set_option maxRecDepth 100000 in
set_option maxHeartbeats 4000000 in
theorem cr_X5_readCondition {l : Launch} {G : q_G} {n0 : Nat} {rec : (Nat → Nat → Int32 → Int32 → q_Mem → Option (Int32 × q_Mem))} (hr : Hr_X5_readCondition n0 rec) (l0 : Nat) (l1 : Int32) (l2 : Int32) (M : q_Mem) {r : Int32} {M' : q_Mem} (h : F_X5_readCondition rec l0 l1 l2 M = some (r, M')) : q_Met l G yX5_readCondition cX5_readCondition 4 (Option.some Jvm.ClassFile.FieldType.boolean) (n0 + 67 + 1) 0 0 [.ref l0, .int l1, .int l2] M (some (.int r)) M' := by
  unfold F_X5_readCondition at h
  refine q_enter [some (.ref l0), some (.int l1), some (.int l2), none] (by decide) (Nat.le_of_ble_eq_true rfl) rfl (fun K C => ?_)
  refine q_aload_n C dX5_readCondition_0 rfl ?_
  refine q_iload_n C dX5_readCondition_1 rfl ?_
  refine q_iload_n C dX5_readCondition_2 rfl ?_
  obtain ⟨hk, h⟩ := q_obE h
  obtain ⟨⟨u1, M2⟩, e1, h⟩ := q_bind h
  refine x_callV0 C dX5_readCondition_3 lkM_X5_63 mV_X5_readTruth ⟨_, rfl, rfl⟩ hk ((hr _ _).2.2.1 _ _ _ _ _ _ e1) rfl rfl (Nat.le_of_ble_eq_true rfl) (⟨by omega, by decide⟩) (by decide) ?_
  refine q_if_ne (tgt := 11) C dX5_readCondition_6 (by decide) h (fun _ h => ?_) (fun _ h => ?_)
  · refine x_iconst (v := (0 : Int32)) C dX5_readCondition_9 (by decide) ?_
    exact q_zret C dX5_readCondition_10 rfl (by decide) (by decide) (q_rzE h).1 (q_rzE h).2
  · refine x_iconst (v := (0 : Int32)) C dX5_readCondition_11 (by decide) ?_
    refine q_istore_n (L' := [some (.ref l0), some (.int l1), some (.int l2), some (.int (0 : Int32))]) C dX5_readCondition_12 (by decide) rfl rfl ?_
    obtain ⟨e11, he, h⟩ := q_bind h
    refine q_msk [true, true, false, true] (lW_X5_readCondition_13 C hr l0 l1 q_fu _ _ _ he (fun M12 hs => ?_) (fun M13 hs => ?_))
    · have hs := hs.symm
      subst hs
      refine x_iconst (v := (0 : Int32)) C dX5_readCondition_41 (by decide) ?_
      exact q_zret C dX5_readCondition_42 rfl (by decide) (by decide) (q_rzE h).1 (q_rzE h).2
    · have hs := hs.symm
      subst hs
      refine x_iconst (v := (1 : Int32)) C dX5_readCondition_55 (by decide) ?_
      exact q_zret C dX5_readCondition_56 rfl (by decide) (by decide) (q_rzE h).1 (q_rzE h).2
noncomputable def F_X5_readNested (rec : (Nat → Nat → Int32 → Int32 → q_Mem → Option (Int32 × q_Mem))) (l0 : Nat) (l1 : Int32) (M : q_Mem) : Option (Int32 × q_Mem) := (q_gR M l0 5 0 (fun c1 => q_nn c1 (fun r2 => (q_ob M r2 9 ((F_X9_take r2 (40 : Int32) M).bind (fun x => match x with | (u3, M4) => (if u3 = 0 then (q_gR M4 l0 5 0 (fun c5 => q_nn c5 (fun r6 => (q_ob M4 r6 9 ((F_X9_take r6 (33 : Int32) M4).bind (fun x => match x with | (u7, M8) => (if u7 = 0 then q_rz (0 : Int32) M8 else (q_ob M8 l0 5 ((rec 3 l0 l1 (0 : Int32) M8).bind (fun x => match x with | (u9, M10) => (if u9 = 0 then q_rz (0 : Int32) M10 else (q_ob M10 l0 5 ((F_X5_write l0 (-16 : Int32) M10).bind (fun x => match x with | (_, M12) => q_rz (1 : Int32) M12)))))))))))))) else (q_ob M4 l0 5 ((rec 0 l0 l1 (0 : Int32) M4).bind (fun x => match x with | (u13, M14) => (if u13 = 0 then q_rz (0 : Int32) M14 else (q_gR M14 l0 5 0 (fun c15 => q_nn c15 (fun r16 => (q_ob M14 r16 9 ((F_X9_take r16 (41 : Int32) M14).bind (fun x => match x with | (u17, M18) => (if u17 = 0 then q_rz (0 : Int32) M18 else q_rz (1 : Int32) M18))))))))))))))))))
set_option maxRecDepth 100000 in
set_option maxHeartbeats 4000000 in
theorem cr_X5_readNested {l : Launch} {G : q_G} {n0 : Nat} {rec : (Nat → Nat → Int32 → Int32 → q_Mem → Option (Int32 × q_Mem))} (hr : Hr_X5_readCondition n0 rec) (l0 : Nat) (l1 : Int32) (M : q_Mem) {r : Int32} {M' : q_Mem} (h : F_X5_readNested rec l0 l1 M = some (r, M')) : q_Met l G yX5_readNested cX5_readNested 2 (Option.some Jvm.ClassFile.FieldType.boolean) (n0 + 67 + 1) 0 0 [.ref l0, .int l1] M (some (.int r)) M' := by
  unfold F_X5_readNested at h
  refine q_enter [some (.ref l0), some (.int l1)] (by decide) (Nat.le_of_ble_eq_true rfl) rfl (fun K C => ?_)
  refine q_aload_n C dX5_readNested_0 rfl ?_
  refine x_getR (ci := 5) (j := 0) C dX5_readNested_1 lkF_X5_19 rfl h (fun c1 h => ?_)
  refine x_nn h (fun r2 h => ?_)
  refine x_bipush (v := (40 : Int32)) C dX5_readNested_4 (by decide) ?_
  obtain ⟨hk, h⟩ := q_obE h
  obtain ⟨⟨u3, M4⟩, e1, h⟩ := q_bind h
  refine x_callV0 C dX5_readNested_6 lkM_X5_39 mV_X9_take ⟨_, rfl, rfl⟩ hk (c_X9_take _ _ _ _ _ e1) rfl rfl (Nat.le_of_ble_eq_true rfl) (⟨by omega, by decide⟩) (by decide) ?_
  refine q_if_eq (tgt := 39) C dX5_readNested_9 (by decide) h (fun _ h => ?_) (fun _ h => ?_)
  · refine q_aload_n C dX5_readNested_39 rfl ?_
    refine x_getR (ci := 5) (j := 0) C dX5_readNested_40 lkF_X5_19 rfl h (fun c5 h => ?_)
    refine x_nn h (fun r6 h => ?_)
    refine x_bipush (v := (33 : Int32)) C dX5_readNested_43 (by decide) ?_
    obtain ⟨hk, h⟩ := q_obE h
    obtain ⟨⟨u7, M8⟩, e1, h⟩ := q_bind h
    refine x_callV0 C dX5_readNested_45 lkM_X5_39 mV_X9_take ⟨_, rfl, rfl⟩ hk (c_X9_take _ _ _ _ _ e1) rfl rfl (Nat.le_of_ble_eq_true rfl) (⟨by omega, by decide⟩) (by decide) ?_
    refine q_if_eq (tgt := 60) C dX5_readNested_48 (by decide) h (fun _ h => ?_) (fun _ h => ?_)
    · refine x_iconst (v := (0 : Int32)) C dX5_readNested_60 (by decide) ?_
      exact q_zret C dX5_readNested_61 rfl (by decide) (by decide) (q_rzE h).1 (q_rzE h).2
    · refine q_aload_n C dX5_readNested_51 rfl ?_
      refine q_iload_n C dX5_readNested_52 rfl ?_
      refine x_iconst (v := (0 : Int32)) C dX5_readNested_53 (by decide) ?_
      obtain ⟨hk, h⟩ := q_obE h
      obtain ⟨⟨u9, M10⟩, e1, h⟩ := q_bind h
      refine x_callV0 C dX5_readNested_54 lkM_X5_66 mV_X5_readUnit ⟨_, rfl, rfl⟩ hk ((hr _ _).2.2.2 _ _ _ _ _ _ e1) rfl rfl (Nat.le_of_ble_eq_true rfl) (⟨by omega, by decide⟩) (by decide) ?_
      refine q_if_ne (tgt := 62) C dX5_readNested_57 (by decide) h (fun _ h => ?_) (fun _ h => ?_)
      · refine x_iconst (v := (0 : Int32)) C dX5_readNested_60 (by decide) ?_
        exact q_zret C dX5_readNested_61 rfl (by decide) (by decide) (q_rzE h).1 (q_rzE h).2
      · refine q_aload_n C dX5_readNested_62 rfl ?_
        refine x_bipush (v := (-16 : Int32)) C dX5_readNested_63 (by decide) ?_
        obtain ⟨hk, h⟩ := q_obE h
        obtain ⟨⟨_, M12⟩, e1, h⟩ := q_bind h
        refine x_callVv0 C dX5_readNested_65 lkM_X5_55 mV_X5_write ⟨_, rfl, rfl⟩ hk (c_X5_write _ _ _ _ _ e1) rfl rfl (Nat.le_of_ble_eq_true rfl) (⟨by omega, by decide⟩) (by decide) ?_
        refine x_iconst (v := (1 : Int32)) C dX5_readNested_68 (by decide) ?_
        exact q_zret C dX5_readNested_69 rfl (by decide) (by decide) (q_rzE h).1 (q_rzE h).2
  · refine q_aload_n C dX5_readNested_12 rfl ?_
    refine q_iload_n C dX5_readNested_13 rfl ?_
    refine x_iconst (v := (0 : Int32)) C dX5_readNested_14 (by decide) ?_
    obtain ⟨hk, h⟩ := q_obE h
    obtain ⟨⟨u13, M14⟩, e1, h⟩ := q_bind h
    refine x_callV0 C dX5_readNested_15 lkM_X5_59 mV_X5_readCondition ⟨_, rfl, rfl⟩ hk ((hr _ _).1 _ _ _ _ _ _ e1) rfl rfl (Nat.le_of_ble_eq_true rfl) (⟨by omega, by decide⟩) (by decide) ?_
    refine q_if_eq (tgt := 37) C dX5_readNested_18 (by decide) h (fun _ h => ?_) (fun _ h => ?_)
    · refine x_iconst (v := (0 : Int32)) C dX5_readNested_37 (by decide) ?_
      exact q_zret C dX5_readNested_38 rfl (by decide) (by decide) (q_rzE h).1 (q_rzE h).2
    · refine q_aload_n C dX5_readNested_21 rfl ?_
      refine x_getR (ci := 5) (j := 0) C dX5_readNested_22 lkF_X5_19 rfl h (fun c15 h => ?_)
      refine x_nn h (fun r16 h => ?_)
      refine x_bipush (v := (41 : Int32)) C dX5_readNested_25 (by decide) ?_
      obtain ⟨hk, h⟩ := q_obE h
      obtain ⟨⟨u17, M18⟩, e1, h⟩ := q_bind h
      refine x_callV0 C dX5_readNested_27 lkM_X5_39 mV_X9_take ⟨_, rfl, rfl⟩ hk (c_X9_take _ _ _ _ _ e1) rfl rfl (Nat.le_of_ble_eq_true rfl) (⟨by omega, by decide⟩) (by decide) ?_
      refine q_if_eq (tgt := 37) C dX5_readNested_30 (by decide) h (fun _ h => ?_) (fun _ h => ?_)
      · refine x_iconst (v := (0 : Int32)) C dX5_readNested_37 (by decide) ?_
        exact q_zret C dX5_readNested_38 rfl (by decide) (by decide) (q_rzE h).1 (q_rzE h).2
      · refine x_iconst (v := (1 : Int32)) C dX5_readNested_33 (by decide) ?_
        refine q_goto (tgt := 38) C dX5_readNested_34 (by decide) ?_
        exact q_zret C dX5_readNested_38 rfl (by decide) (by decide) (q_rzE h).1 (q_rzE h).2
noncomputable def B_X5_readTruth_13 (rec : (Nat → Nat → Int32 → Int32 → q_Mem → Option (Int32 × q_Mem))) (l0 : Nat) (l1 : Int32) (l3 : Int32) (M : q_Mem) : Option ((Int32 × q_Mem) ⊕ ((q_Mem) ⊕ (q_Mem))) := (if l3 < (240 : Int32) then (q_gR M l0 5 0 (fun c3 => q_nn c3 (fun r4 => (q_ob M r4 9 ((F_X9_take r4 (38 : Int32) M).bind (fun x => match x with | (u5, M6) => (if u5 = 0 then some (.inr (.inr M6)) else (q_ob M6 l0 5 ((rec 3 l0 l1 (0 : Int32) M6).bind (fun x => match x with | (u7, M8) => (if u7 = 0 then some (.inr (.inl M8)) else (q_ob M8 l0 5 ((F_X5_write l0 (-14 : Int32) M8).bind (fun x => match x with | (_, M10) => some (.inl ((l3 + (1 : Int32)), M10)))))))))))))))) else some (.inr (.inr M)))
set_option maxRecDepth 100000 in
set_option maxHeartbeats 4000000 in
theorem bW_X5_readTruth_13 {K : q_K} {Q : State → Prop} {n0 : Nat} (C : q_C K yX5_readTruth cX5_readTruth 4 (Option.some Jvm.ClassFile.FieldType.boolean) (n0 + 67 + 1) 0 0) {rec : (Nat → Nat → Int32 → Int32 → q_Mem → Option (Int32 × q_Mem))} (hr : Hr_X5_readCondition n0 rec) (l0 : Nat) (l1 : Int32) (l3 : Int32) (M : q_Mem) {stp : (Int32 × q_Mem) ⊕ ((q_Mem) ⊕ (q_Mem))} (h : B_X5_readTruth_13 rec l0 l1 l3 M = some stp) (kC : ∀ (l3 : Int32) (M : q_Mem), stp = .inl (l3, M) → q_W K 4 Q 0 0 M 13 [some (.ref l0), some (.int l1), none, some (.int l3)] []) (kE0 : ∀ (M : q_Mem), stp = .inr (.inl M) → q_W K 4 Q 0 0 M 41 [none, none, none, none] []) (kE1 : ∀ (M : q_Mem), stp = .inr (.inr M) → q_W K 4 Q 0 0 M 55 [none, none, none, none] []) : q_W K 4 Q 0 0 M 13 [some (.ref l0), some (.int l1), none, some (.int l3)] [] := by
  unfold B_X5_readTruth_13 at h
  refine q_iload_n C dX5_readTruth_13 rfl ?_
  refine x_sipush (v := (240 : Int32)) C dX5_readTruth_14 (by decide) ?_
  refine q_icmp_ge (tgt := 55) C dX5_readTruth_17 (by decide) h (fun _ h => ?_) (fun _ h => ?_)
  · refine q_aload_n C dX5_readTruth_20 rfl ?_
    refine x_getR (ci := 5) (j := 0) C dX5_readTruth_21 lkF_X5_19 rfl h (fun c3 h => ?_)
    refine x_nn h (fun r4 h => ?_)
    refine x_bipush (v := (38 : Int32)) C dX5_readTruth_24 (by decide) ?_
    obtain ⟨hk, h⟩ := q_obE h
    obtain ⟨⟨u5, M6⟩, e1, h⟩ := q_bind h
    refine x_callV0 C dX5_readTruth_26 lkM_X5_39 mV_X9_take ⟨_, rfl, rfl⟩ hk (c_X9_take _ _ _ _ _ e1) rfl rfl (Nat.le_of_ble_eq_true rfl) (⟨by omega, by decide⟩) (by decide) ?_
    refine q_if_eq (tgt := 55) C dX5_readTruth_29 (by decide) h (fun _ h => ?_) (fun _ h => ?_)
    · exact q_msk [false, false, false, false] (kE1 _ (Option.some.inj h).symm)
    · refine q_aload_n C dX5_readTruth_32 rfl ?_
      refine q_iload_n C dX5_readTruth_33 rfl ?_
      refine x_iconst (v := (0 : Int32)) C dX5_readTruth_34 (by decide) ?_
      obtain ⟨hk, h⟩ := q_obE h
      obtain ⟨⟨u7, M8⟩, e1, h⟩ := q_bind h
      refine x_callV0 C dX5_readTruth_35 lkM_X5_66 mV_X5_readUnit ⟨_, rfl, rfl⟩ hk ((hr _ _).2.2.2 _ _ _ _ _ _ e1) rfl rfl (Nat.le_of_ble_eq_true rfl) (⟨by omega, by decide⟩) (by decide) ?_
      refine q_if_ne (tgt := 43) C dX5_readTruth_38 (by decide) h (fun _ h => ?_) (fun _ h => ?_)
      · exact q_msk [false, false, false, false] (kE0 _ (Option.some.inj h).symm)
      · refine q_aload_n C dX5_readTruth_43 rfl ?_
        refine x_bipush (v := (-14 : Int32)) C dX5_readTruth_44 (by decide) ?_
        obtain ⟨hk, h⟩ := q_obE h
        obtain ⟨⟨_, M10⟩, e1, h⟩ := q_bind h
        refine x_callVv0 C dX5_readTruth_46 lkM_X5_55 mV_X5_write ⟨_, rfl, rfl⟩ hk (c_X5_write _ _ _ _ _ e1) rfl rfl (Nat.le_of_ble_eq_true rfl) (⟨by omega, by decide⟩) (by decide) ?_
        refine x_iinc (w := (1 : Int32)) (L' := [some (.ref l0), some (.int l1), none, some (.int (l3 + (1 : Int32)))]) C dX5_readTruth_49 rfl (by decide) (by decide) rfl rfl ?_
        refine q_goto (tgt := 13) C dX5_readTruth_52 (by decide) ?_
        exact q_msk [true, true, false, true] (kC _ _ (Option.some.inj h).symm)
  · exact q_msk [false, false, false, false] (kE1 _ (Option.some.inj h).symm)
set_option maxRecDepth 100000 in
set_option maxHeartbeats 4000000 in
theorem lW_X5_readTruth_13 {K : q_K} {Q : State → Prop} {n0 : Nat} (C : q_C K yX5_readTruth cX5_readTruth 4 (Option.some Jvm.ClassFile.FieldType.boolean) (n0 + 67 + 1) 0 0) {rec : (Nat → Nat → Int32 → Int32 → q_Mem → Option (Int32 × q_Mem))} (hr : Hr_X5_readCondition n0 rec) (l0 : Nat) (l1 : Int32) (n : Nat) : ∀ (l3 : Int32) (M : q_Mem) (e : ((q_Mem) ⊕ (q_Mem))), q_lp (fun s => B_X5_readTruth_13 rec l0 l1 s.1 s.2) n (l3, M) = some e → (∀ (M : q_Mem), e = (.inl M) → q_W K 4 Q 0 0 M 41 [none, none, none, none] []) → (∀ (M : q_Mem), e = (.inr M) → q_W K 4 Q 0 0 M 55 [none, none, none, none] []) → q_W K 4 Q 0 0 M 13 [some (.ref l0), some (.int l1), none, some (.int l3)] [] := by
  induction n with
  | zero => intro l3 M e h; cases h
  | succ n ih =>
    intro l3 M e h kE0 kE1
    obtain ⟨stp, e1, e2⟩ := q_bind h
    refine bW_X5_readTruth_13 C hr l0 l1 l3 M e1 (fun a0 a1 hs => ?_) (fun b0 hs => ?_) (fun b0 hs => ?_)
    · subst hs; exact ih _ _ _ e2 kE0 kE1
    · subst hs; exact kE0 _ (Option.some.inj e2).symm
    · subst hs; exact kE1 _ (Option.some.inj e2).symm
noncomputable def F_X5_readTruth (rec : (Nat → Nat → Int32 → Int32 → q_Mem → Option (Int32 × q_Mem))) (l0 : Nat) (l1 : Int32) (l2 : Int32) (M : q_Mem) : Option (Int32 × q_Mem) := (q_ob M l0 5 ((rec 3 l0 l1 l2 M).bind (fun x => match x with | (u1, M2) => (if u1 = 0 then q_rz (0 : Int32) M2 else (q_lp (fun s => B_X5_readTruth_13 rec l0 l1 s.1 s.2) q_fu ((0 : Int32), M2)).bind (fun e11 => match e11 with | .inl M12 => q_rz (0 : Int32) M12 | .inr M13 => q_rz (1 : Int32) M13)))))
set_option maxRecDepth 100000 in
set_option maxHeartbeats 4000000 in
theorem cr_X5_readTruth {l : Launch} {G : q_G} {n0 : Nat} {rec : (Nat → Nat → Int32 → Int32 → q_Mem → Option (Int32 × q_Mem))} (hr : Hr_X5_readCondition n0 rec) (l0 : Nat) (l1 : Int32) (l2 : Int32) (M : q_Mem) {r : Int32} {M' : q_Mem} (h : F_X5_readTruth rec l0 l1 l2 M = some (r, M')) : q_Met l G yX5_readTruth cX5_readTruth 4 (Option.some Jvm.ClassFile.FieldType.boolean) (n0 + 67 + 1) 0 0 [.ref l0, .int l1, .int l2] M (some (.int r)) M' := by
  unfold F_X5_readTruth at h
  refine q_enter [some (.ref l0), some (.int l1), some (.int l2), none] (by decide) (Nat.le_of_ble_eq_true rfl) rfl (fun K C => ?_)
  refine q_aload_n C dX5_readTruth_0 rfl ?_
  refine q_iload_n C dX5_readTruth_1 rfl ?_
  refine q_iload_n C dX5_readTruth_2 rfl ?_
  obtain ⟨hk, h⟩ := q_obE h
  obtain ⟨⟨u1, M2⟩, e1, h⟩ := q_bind h
  refine x_callV0 C dX5_readTruth_3 lkM_X5_66 mV_X5_readUnit ⟨_, rfl, rfl⟩ hk ((hr _ _).2.2.2 _ _ _ _ _ _ e1) rfl rfl (Nat.le_of_ble_eq_true rfl) (⟨by omega, by decide⟩) (by decide) ?_
  refine q_if_ne (tgt := 11) C dX5_readTruth_6 (by decide) h (fun _ h => ?_) (fun _ h => ?_)
  · refine x_iconst (v := (0 : Int32)) C dX5_readTruth_9 (by decide) ?_
    exact q_zret C dX5_readTruth_10 rfl (by decide) (by decide) (q_rzE h).1 (q_rzE h).2
  · refine x_iconst (v := (0 : Int32)) C dX5_readTruth_11 (by decide) ?_
    refine q_istore_n (L' := [some (.ref l0), some (.int l1), some (.int l2), some (.int (0 : Int32))]) C dX5_readTruth_12 (by decide) rfl rfl ?_
    obtain ⟨e11, he, h⟩ := q_bind h
    refine q_msk [true, true, false, true] (lW_X5_readTruth_13 C hr l0 l1 q_fu _ _ _ he (fun M12 hs => ?_) (fun M13 hs => ?_))
    · have hs := hs.symm
      subst hs
      refine x_iconst (v := (0 : Int32)) C dX5_readTruth_41 (by decide) ?_
      exact q_zret C dX5_readTruth_42 rfl (by decide) (by decide) (q_rzE h).1 (q_rzE h).2
    · have hs := hs.symm
      subst hs
      refine x_iconst (v := (1 : Int32)) C dX5_readTruth_55 (by decide) ?_
      exact q_zret C dX5_readTruth_56 rfl (by decide) (by decide) (q_rzE h).1 (q_rzE h).2
noncomputable def J_X5_readUnit_53 (rec : (Nat → Nat → Int32 → Int32 → q_Mem → Option (Int32 × q_Mem))) (l0 : Nat) (l1 : Int32) (M : q_Mem) : Option (Int32 × q_Mem) := (q_gR M l0 5 0 (fun c7 => q_nn c7 (fun r8 => (q_ob M r8 9 ((F_X9_peekAmong r8 12 M).bind (fun x => match x with | (u9, M10) => (if u9 = (-1 : Int32) then q_rz (0 : Int32) M10 else (q_gR M10 l0 5 0 (fun c11 => q_nn c11 (fun r12 => (q_gI M10 r12 9 2 (fun v13 => (q_pI M10 r12 9 2 (v13 + (1 : Int32)) (fun M14 => (q_ob M14 l0 5 ((R_X5_readAtom 60 1 l0 l1 M14).bind (fun x => match x with | (u15, M16) => (if u15 = 0 then q_rz (0 : Int32) M16 else (q_ob M16 l0 5 ((F_X5_write l0 ((-11 : Int32) - u9) M16).bind (fun x => match x with | (_, M18) => q_rz (1 : Int32) M18)))))))))))))))))))))
set_option maxRecDepth 100000 in
set_option maxHeartbeats 4000000 in
theorem jW_X5_readUnit_53 {K : q_K} {n0 : Nat} (C : q_C K yX5_readUnit cX5_readUnit 4 (Option.some Jvm.ClassFile.FieldType.boolean) (n0 + 67 + 1) 0 0) {rec : (Nat → Nat → Int32 → Int32 → q_Mem → Option (Int32 × q_Mem))} (hr : Hr_X5_readCondition n0 rec) (l0 : Nat) (l1 : Int32) (M : q_Mem) {r : Int32} {M' : q_Mem} (h : J_X5_readUnit_53 rec l0 l1 M = some (r, M')) : q_W K 4 (q_Q K (some (.int r)) M' 0 0) 0 0 M 53 [some (.ref l0), some (.int l1), none, none] [] := by
  unfold J_X5_readUnit_53 at h
  refine q_aload_n C dX5_readUnit_53 rfl ?_
  refine x_getR (ci := 5) (j := 0) C dX5_readUnit_54 lkF_X5_19 rfl h (fun c7 h => ?_)
  refine x_nn h (fun r8 h => ?_)
  refine q_ldcS (i := 4) C dX5_readUnit_57 rfl ?_
  obtain ⟨hk, h⟩ := q_obE h
  obtain ⟨⟨u9, M10⟩, e1, h⟩ := q_bind h
  refine x_callV0 C dX5_readUnit_59 lkM_X5_45 mV_X9_peekAmong ⟨_, rfl, rfl⟩ hk (c_X9_peekAmong _ _ _ _ _ e1) rfl rfl (Nat.le_of_ble_eq_true rfl) (⟨by omega, by decide⟩) (by decide) ?_
  refine q_istore_n (L' := [some (.ref l0), some (.int l1), none, some (.int u9)]) C dX5_readUnit_62 (by decide) rfl rfl ?_
  refine q_iload_n C dX5_readUnit_63 rfl ?_
  refine x_iconst (v := (-1 : Int32)) C dX5_readUnit_64 (by decide) ?_
  refine q_icmp_ne (tgt := 70) C dX5_readUnit_65 (by decide) h (fun _ h => ?_) (fun _ h => ?_)
  · refine x_iconst (v := (0 : Int32)) C dX5_readUnit_68 (by decide) ?_
    exact q_zret C dX5_readUnit_69 rfl (by decide) (by decide) (q_rzE h).1 (q_rzE h).2
  · refine q_aload_n C dX5_readUnit_70 rfl ?_
    refine x_getR (ci := 5) (j := 0) C dX5_readUnit_71 lkF_X5_19 rfl h (fun c11 h => ?_)
    refine x_nn h (fun r12 h => ?_)
    refine q_dup C dX5_readUnit_74 rfl ?_
    refine x_getI (ci := 9) (j := 2) C dX5_readUnit_75 lkF_X5_72 rfl h (fun v13 h => ?_)
    refine x_iconst (v := (1 : Int32)) C dX5_readUnit_78 (by decide) ?_
    refine q_iadd C dX5_readUnit_79 ?_
    refine x_putI (ci := 9) (j := 2) C dX5_readUnit_80 lkF_X5_72 (fun r hr => by cases hr; rfl) rfl h (fun M14 h => ?_)
    refine q_aload_n C dX5_readUnit_83 rfl ?_
    refine q_iload_n C dX5_readUnit_84 rfl ?_
    obtain ⟨hk, h⟩ := q_obE h
    obtain ⟨⟨u15, M16⟩, e1, h⟩ := q_bind h
    refine x_callV0 C dX5_readUnit_85 lkM_X5_49 mV_X5_readSum ⟨_, rfl, rfl⟩ hk (c_X5_readSum _ _ _ _ _ e1) rfl rfl (Nat.le_of_ble_eq_true rfl) (⟨by omega, by decide⟩) (by decide) ?_
    refine q_if_ne (tgt := 93) C dX5_readUnit_88 (by decide) h (fun _ h => ?_) (fun _ h => ?_)
    · refine x_iconst (v := (0 : Int32)) C dX5_readUnit_91 (by decide) ?_
      exact q_zret C dX5_readUnit_92 rfl (by decide) (by decide) (q_rzE h).1 (q_rzE h).2
    · refine q_aload_n C dX5_readUnit_93 rfl ?_
      refine x_bipush (v := (-11 : Int32)) C dX5_readUnit_94 (by decide) ?_
      refine q_iload_n C dX5_readUnit_96 rfl ?_
      refine q_isub C dX5_readUnit_97 ?_
      obtain ⟨hk, h⟩ := q_obE h
      obtain ⟨⟨_, M18⟩, e1, h⟩ := q_bind h
      refine x_callVv0 C dX5_readUnit_98 lkM_X5_55 mV_X5_write ⟨_, rfl, rfl⟩ hk (c_X5_write _ _ _ _ _ e1) rfl rfl (Nat.le_of_ble_eq_true rfl) (⟨by omega, by decide⟩) (by decide) ?_
      refine x_iconst (v := (1 : Int32)) C dX5_readUnit_101 (by decide) ?_
      exact q_zret C dX5_readUnit_102 rfl (by decide) (by decide) (q_rzE h).1 (q_rzE h).2
noncomputable def J_X5_readUnit_39 (rec : (Nat → Nat → Int32 → Int32 → q_Mem → Option (Int32 × q_Mem))) (l0 : Nat) (l1 : Int32) (l2 : Int32) (M : q_Mem) : Option (Int32 × q_Mem) := (if l2 = 0 then (q_ob M l0 5 ((R_X5_readAtom 60 1 l0 l1 M).bind (fun x => match x with | (u5, M6) => (if u5 = 0 then q_rz (0 : Int32) M6 else J_X5_readUnit_53 rec l0 l1 M6)))) else J_X5_readUnit_53 rec l0 l1 M)
set_option maxRecDepth 100000 in
set_option maxHeartbeats 4000000 in
theorem jW_X5_readUnit_39 {K : q_K} {n0 : Nat} (C : q_C K yX5_readUnit cX5_readUnit 4 (Option.some Jvm.ClassFile.FieldType.boolean) (n0 + 67 + 1) 0 0) {rec : (Nat → Nat → Int32 → Int32 → q_Mem → Option (Int32 × q_Mem))} (hr : Hr_X5_readCondition n0 rec) (l0 : Nat) (l1 : Int32) (l2 : Int32) (M : q_Mem) {r : Int32} {M' : q_Mem} (h : J_X5_readUnit_39 rec l0 l1 l2 M = some (r, M')) : q_W K 4 (q_Q K (some (.int r)) M' 0 0) 0 0 M 39 [some (.ref l0), some (.int l1), some (.int l2), none] [] := by
  unfold J_X5_readUnit_39 at h
  refine q_iload_n C dX5_readUnit_39 rfl ?_
  refine q_if_ne (tgt := 53) C dX5_readUnit_40 (by decide) h (fun _ h => ?_) (fun _ h => ?_)
  · refine q_aload_n C dX5_readUnit_43 rfl ?_
    refine q_iload_n C dX5_readUnit_44 rfl ?_
    obtain ⟨hk, h⟩ := q_obE h
    obtain ⟨⟨u5, M6⟩, e1, h⟩ := q_bind h
    refine x_callV0 C dX5_readUnit_45 lkM_X5_49 mV_X5_readSum ⟨_, rfl, rfl⟩ hk (c_X5_readSum _ _ _ _ _ e1) rfl rfl (Nat.le_of_ble_eq_true rfl) (⟨by omega, by decide⟩) (by decide) ?_
    refine q_if_ne (tgt := 53) C dX5_readUnit_48 (by decide) h (fun _ h => ?_) (fun _ h => ?_)
    · refine x_iconst (v := (0 : Int32)) C dX5_readUnit_51 (by decide) ?_
      exact q_zret C dX5_readUnit_52 rfl (by decide) (by decide) (q_rzE h).1 (q_rzE h).2
    · exact q_msk [true, true, false, false] (jW_X5_readUnit_53 C hr l0 l1 M6 h)
  · exact q_msk [true, true, false, false] (jW_X5_readUnit_53 C hr l0 l1 M h)
noncomputable def F_X5_readUnit (rec : (Nat → Nat → Int32 → Int32 → q_Mem → Option (Int32 × q_Mem))) (l0 : Nat) (l1 : Int32) (l2 : Int32) (M : q_Mem) : Option (Int32 × q_Mem) := (if l2 = 0 then (q_gR M l0 5 0 (fun c1 => q_nn c1 (fun r2 => (q_ob M r2 9 ((F_X9_peekAmong r2 10 M).bind (fun x => match x with | (u3, M4) => (if u3 = (-1 : Int32) then J_X5_readUnit_39 rec l0 l1 l2 M4 else (if l1 < (6 : Int32) then (q_ob M4 l0 5 ((rec 1 l0 (l1 + (1 : Int32)) 0 M4).bind (fun x => match x with | (u19, M20) => (if u19 = 0 then q_rz (0 : Int32) M20 else q_rz (1 : Int32) M20)))) else q_rz (0 : Int32) M4)))))))) else J_X5_readUnit_39 rec l0 l1 l2 M)
set_option maxRecDepth 100000 in
set_option maxHeartbeats 4000000 in
theorem cr_X5_readUnit {l : Launch} {G : q_G} {n0 : Nat} {rec : (Nat → Nat → Int32 → Int32 → q_Mem → Option (Int32 × q_Mem))} (hr : Hr_X5_readCondition n0 rec) (l0 : Nat) (l1 : Int32) (l2 : Int32) (M : q_Mem) {r : Int32} {M' : q_Mem} (h : F_X5_readUnit rec l0 l1 l2 M = some (r, M')) : q_Met l G yX5_readUnit cX5_readUnit 4 (Option.some Jvm.ClassFile.FieldType.boolean) (n0 + 67 + 1) 0 0 [.ref l0, .int l1, .int l2] M (some (.int r)) M' := by
  unfold F_X5_readUnit at h
  refine q_enter [some (.ref l0), some (.int l1), some (.int l2), none] (by decide) (Nat.le_of_ble_eq_true rfl) rfl (fun K C => ?_)
  refine q_iload_n C dX5_readUnit_0 rfl ?_
  refine q_if_ne (tgt := 39) C dX5_readUnit_1 (by decide) h (fun _ h => ?_) (fun _ h => ?_)
  · refine q_aload_n C dX5_readUnit_4 rfl ?_
    refine x_getR (ci := 5) (j := 0) C dX5_readUnit_5 lkF_X5_19 rfl h (fun c1 h => ?_)
    refine x_nn h (fun r2 h => ?_)
    refine q_ldcS (i := 3) C dX5_readUnit_8 rfl ?_
    obtain ⟨hk, h⟩ := q_obE h
    obtain ⟨⟨u3, M4⟩, e1, h⟩ := q_bind h
    refine x_callV0 C dX5_readUnit_10 lkM_X5_45 mV_X9_peekAmong ⟨_, rfl, rfl⟩ hk (c_X9_peekAmong _ _ _ _ _ e1) rfl rfl (Nat.le_of_ble_eq_true rfl) (⟨by omega, by decide⟩) (by decide) ?_
    refine x_iconst (v := (-1 : Int32)) C dX5_readUnit_13 (by decide) ?_
    refine q_icmp_eq (tgt := 39) C dX5_readUnit_14 (by decide) h (fun _ h => ?_) (fun _ h => ?_)
    · exact q_msk [true, true, true, false] (jW_X5_readUnit_39 C hr l0 l1 l2 M4 h)
    · refine q_iload_n C dX5_readUnit_17 rfl ?_
      refine x_bipush (v := (6 : Int32)) C dX5_readUnit_18 (by decide) ?_
      refine q_icmp_ge (tgt := 37) C dX5_readUnit_20 (by decide) h (fun _ h => ?_) (fun _ h => ?_)
      · refine q_aload_n C dX5_readUnit_23 rfl ?_
        refine q_iload_n C dX5_readUnit_24 rfl ?_
        refine x_iconst (v := (1 : Int32)) C dX5_readUnit_25 (by decide) ?_
        refine q_iadd C dX5_readUnit_26 ?_
        obtain ⟨hk, h⟩ := q_obE h
        obtain ⟨⟨u19, M20⟩, e1, h⟩ := q_bind h
        refine x_callV0 C dX5_readUnit_27 lkM_X5_69 mV_X5_readNested ⟨_, rfl, rfl⟩ hk ((hr _ _).2.1 _ _ _ _ _ e1) rfl rfl (Nat.le_of_ble_eq_true rfl) (⟨by omega, by decide⟩) (by decide) ?_
        refine q_if_eq (tgt := 37) C dX5_readUnit_30 (by decide) h (fun _ h => ?_) (fun _ h => ?_)
        · refine x_iconst (v := (0 : Int32)) C dX5_readUnit_37 (by decide) ?_
          exact q_zret C dX5_readUnit_38 rfl (by decide) (by decide) (q_rzE h).1 (q_rzE h).2
        · refine x_iconst (v := (1 : Int32)) C dX5_readUnit_33 (by decide) ?_
          refine q_goto (tgt := 38) C dX5_readUnit_34 (by decide) ?_
          exact q_zret C dX5_readUnit_38 rfl (by decide) (by decide) (q_rzE h).1 (q_rzE h).2
      · refine x_iconst (v := (0 : Int32)) C dX5_readUnit_37 (by decide) ?_
        exact q_zret C dX5_readUnit_38 rfl (by decide) (by decide) (q_rzE h).1 (q_rzE h).2
  · exact q_msk [true, true, true, false] (jW_X5_readUnit_39 C hr l0 l1 l2 M h)
noncomputable def R_X5_readCondition : Nat → Nat → Nat → Int32 → Int32 → q_Mem → Option (Int32 × q_Mem)
  | 0 => fun _ _ _ _ _ => none
  | n + 1 => fun tag a0 b0 b1 M => match tag with | 0 => F_X5_readCondition (R_X5_readCondition n) a0 b0 b1 M | 1 => F_X5_readNested (R_X5_readCondition n) a0 b0 M | 2 => F_X5_readTruth (R_X5_readCondition n) a0 b0 b1 M | _ => F_X5_readUnit (R_X5_readCondition n) a0 b0 b1 M
set_option maxRecDepth 100000 in
theorem Rok_X5_readCondition (n : Nat) : Hr_X5_readCondition n (R_X5_readCondition n) := by
  induction n with
  | zero => exact fun l G => ⟨(fun a0 a1 a2 M r M' h => by cases h), (fun a0 a1 M r M' h => by cases h), (fun a0 a1 a2 M r M' h => by cases h), (fun a0 a1 a2 M r M' h => by cases h)⟩
  | succ n ih => exact fun l G => ⟨(fun a0 a1 a2 M r M' h => cr_X5_readCondition ih a0 a1 a2 M h), (fun a0 a1 M r M' h => cr_X5_readNested ih a0 a1 M h), (fun a0 a1 a2 M r M' h => cr_X5_readTruth ih a0 a1 a2 M h), (fun a0 a1 a2 M r M' h => cr_X5_readUnit ih a0 a1 a2 M h)⟩
theorem c_X5_readCondition (l : Launch) (G : q_G) (a0 : Nat) (a1 : Int32) (a2 : Int32) (M : q_Mem) {r : Int32} {M' : q_Mem} (h : R_X5_readCondition 60 0 a0 a1 a2 M = some (r, M')) : q_Met l G yX5_readCondition cX5_readCondition 4 (Option.some Jvm.ClassFile.FieldType.boolean) 127 0 0 [.ref a0, .int a1, .int a2] M (some (.int r)) M' := (Rok_X5_readCondition 60 l G).1 a0 a1 a2 M r M' h
theorem c_X5_readNested (l : Launch) (G : q_G) (a0 : Nat) (a1 : Int32) (M : q_Mem) {r : Int32} {M' : q_Mem} (h : R_X5_readCondition 60 1 a0 a1 0 M = some (r, M')) : q_Met l G yX5_readNested cX5_readNested 2 (Option.some Jvm.ClassFile.FieldType.boolean) 127 0 0 [.ref a0, .int a1] M (some (.int r)) M' := (Rok_X5_readCondition 60 l G).2.1 a0 a1 M r M' h
theorem c_X5_readTruth (l : Launch) (G : q_G) (a0 : Nat) (a1 : Int32) (a2 : Int32) (M : q_Mem) {r : Int32} {M' : q_Mem} (h : R_X5_readCondition 60 2 a0 a1 a2 M = some (r, M')) : q_Met l G yX5_readTruth cX5_readTruth 4 (Option.some Jvm.ClassFile.FieldType.boolean) 127 0 0 [.ref a0, .int a1, .int a2] M (some (.int r)) M' := (Rok_X5_readCondition 60 l G).2.2.1 a0 a1 a2 M r M' h
theorem c_X5_readUnit (l : Launch) (G : q_G) (a0 : Nat) (a1 : Int32) (a2 : Int32) (M : q_Mem) {r : Int32} {M' : q_Mem} (h : R_X5_readCondition 60 3 a0 a1 a2 M = some (r, M')) : q_Met l G yX5_readUnit cX5_readUnit 4 (Option.some Jvm.ClassFile.FieldType.boolean) 127 0 0 [.ref a0, .int a1, .int a2] M (some (.int r)) M' := (Rok_X5_readCondition 60 l G).2.2.2 a0 a1 a2 M r M' h
noncomputable def J_X5_readClause_84 (l0 : Nat) (l1 : Int32) (M : q_Mem) : Option (Int32 × q_Mem) := (q_ob M l0 5 ((R_X5_readCondition 60 0 l0 (0 : Int32) l1 M).bind (fun x => match x with | (u13, M14) => (if u13 = 0 then q_rz (0 : Int32) M14 else (q_gR M14 l0 5 0 (fun c15 => q_nn c15 (fun r16 => (q_ob M14 r16 9 ((F_X9_take r16 (63 : Int32) M14).bind (fun x => match x with | (u17, M18) => (if u17 = 0 then q_rz (0 : Int32) M18 else (q_ob M18 l0 5 ((F_X5_write l0 (-17 : Int32) M18).bind (fun x => match x with | (_, M20) => (q_gI M20 l0 5 2 (fun v21 => (q_ob M20 l0 5 ((F_X5_write l0 (0 : Int32) M20).bind (fun x => match x with | (_, M23) => (q_ob M23 l0 5 ((R_X5_readAtom 60 1 l0 (0 : Int32) M23).bind (fun x => match x with | (u24, M25) => (if u24 = 0 then q_rz (0 : Int32) M25 else (q_ob M25 l0 5 ((F_X5_write l0 (-18 : Int32) M25).bind (fun x => match x with | (_, M27) => (q_gR M27 l0 5 1 (fun c28 => q_nn c28 (fun r29 => (q_al M27 r29 (fun v30 => (if v21 < v30 then (q_gR M27 l0 5 1 (fun c31 => q_nn c31 (fun r32 => (q_gI M27 l0 5 2 (fun v33 => (q_tI M27 r32 v21 v33 (fun M34 => q_rz (1 : Int32) M34))))))) else q_rz (1 : Int32) M27))))))))))))))))))))))))))))))))
set_option maxRecDepth 100000 in
set_option maxHeartbeats 4000000 in
theorem jW_X5_readClause_84 {K : q_K} (C : q_C K yX5_readClause cX5_readClause 3 (Option.some Jvm.ClassFile.FieldType.boolean) 128 0 0) (l0 : Nat) (l1 : Int32) (M : q_Mem) {r : Int32} {M' : q_Mem} (h : J_X5_readClause_84 l0 l1 M = some (r, M')) : q_W K 3 (q_Q K (some (.int r)) M' 0 0) 0 0 M 84 [some (.ref l0), some (.int l1), none] [] := by
  unfold J_X5_readClause_84 at h
  refine q_aload_n C dX5_readClause_84 rfl ?_
  refine x_iconst (v := (0 : Int32)) C dX5_readClause_85 (by decide) ?_
  refine q_iload_n C dX5_readClause_86 rfl ?_
  obtain ⟨hk, h⟩ := q_obE h
  obtain ⟨⟨u13, M14⟩, e1, h⟩ := q_bind h
  refine x_callV0 C dX5_readClause_87 lkM_X5_59 mV_X5_readCondition ⟨_, rfl, rfl⟩ hk (c_X5_readCondition _ _ _ _ _ _ e1) rfl rfl (Nat.le_of_ble_eq_true rfl) (by decide) (by decide) ?_
  refine q_if_eq (tgt := 105) C dX5_readClause_90 (by decide) h (fun _ h => ?_) (fun _ h => ?_)
  · refine x_iconst (v := (0 : Int32)) C dX5_readClause_105 (by decide) ?_
    exact q_zret C dX5_readClause_106 rfl (by decide) (by decide) (q_rzE h).1 (q_rzE h).2
  · refine q_aload_n C dX5_readClause_93 rfl ?_
    refine x_getR (ci := 5) (j := 0) C dX5_readClause_94 lkF_X5_19 rfl h (fun c15 h => ?_)
    refine x_nn h (fun r16 h => ?_)
    refine x_bipush (v := (63 : Int32)) C dX5_readClause_97 (by decide) ?_
    obtain ⟨hk, h⟩ := q_obE h
    obtain ⟨⟨u17, M18⟩, e1, h⟩ := q_bind h
    refine x_callV0 C dX5_readClause_99 lkM_X5_39 mV_X9_take ⟨_, rfl, rfl⟩ hk (c_X9_take _ _ _ _ _ e1) rfl rfl (Nat.le_of_ble_eq_true rfl) (by decide) (by decide) ?_
    refine q_if_ne (tgt := 107) C dX5_readClause_102 (by decide) h (fun _ h => ?_) (fun _ h => ?_)
    · refine x_iconst (v := (0 : Int32)) C dX5_readClause_105 (by decide) ?_
      exact q_zret C dX5_readClause_106 rfl (by decide) (by decide) (q_rzE h).1 (q_rzE h).2
    · refine q_aload_n C dX5_readClause_107 rfl ?_
      refine x_bipush (v := (-17 : Int32)) C dX5_readClause_108 (by decide) ?_
      obtain ⟨hk, h⟩ := q_obE h
      obtain ⟨⟨_, M20⟩, e1, h⟩ := q_bind h
      refine x_callVv0 C dX5_readClause_110 lkM_X5_55 mV_X5_write ⟨_, rfl, rfl⟩ hk (c_X5_write _ _ _ _ _ e1) rfl rfl (Nat.le_of_ble_eq_true rfl) (by decide) (by decide) ?_
      refine q_aload_n C dX5_readClause_113 rfl ?_
      refine x_getI (ci := 5) (j := 2) C dX5_readClause_114 lkF_X5_15 rfl h (fun v21 h => ?_)
      refine q_istore_n (L' := [some (.ref l0), some (.int l1), some (.int v21)]) C dX5_readClause_117 (by decide) rfl rfl ?_
      refine q_aload_n C dX5_readClause_118 rfl ?_
      refine x_iconst (v := (0 : Int32)) C dX5_readClause_119 (by decide) ?_
      obtain ⟨hk, h⟩ := q_obE h
      obtain ⟨⟨_, M23⟩, e1, h⟩ := q_bind h
      refine x_callVv0 C dX5_readClause_120 lkM_X5_55 mV_X5_write ⟨_, rfl, rfl⟩ hk (c_X5_write _ _ _ _ _ e1) rfl rfl (Nat.le_of_ble_eq_true rfl) (by decide) (by decide) ?_
      refine q_aload_n C dX5_readClause_123 rfl ?_
      refine x_iconst (v := (0 : Int32)) C dX5_readClause_124 (by decide) ?_
      obtain ⟨hk, h⟩ := q_obE h
      obtain ⟨⟨u24, M25⟩, e1, h⟩ := q_bind h
      refine x_callV0 C dX5_readClause_125 lkM_X5_49 mV_X5_readSum ⟨_, rfl, rfl⟩ hk (c_X5_readSum _ _ _ _ _ e1) rfl rfl (Nat.le_of_ble_eq_true rfl) (by decide) (by decide) ?_
      refine q_if_ne (tgt := 133) C dX5_readClause_128 (by decide) h (fun _ h => ?_) (fun _ h => ?_)
      · refine x_iconst (v := (0 : Int32)) C dX5_readClause_131 (by decide) ?_
        exact q_zret C dX5_readClause_132 rfl (by decide) (by decide) (q_rzE h).1 (q_rzE h).2
      · refine q_aload_n C dX5_readClause_133 rfl ?_
        refine x_bipush (v := (-18 : Int32)) C dX5_readClause_134 (by decide) ?_
        obtain ⟨hk, h⟩ := q_obE h
        obtain ⟨⟨_, M27⟩, e1, h⟩ := q_bind h
        refine x_callVv0 C dX5_readClause_136 lkM_X5_55 mV_X5_write ⟨_, rfl, rfl⟩ hk (c_X5_write _ _ _ _ _ e1) rfl rfl (Nat.le_of_ble_eq_true rfl) (by decide) (by decide) ?_
        refine q_iload_n C dX5_readClause_139 rfl ?_
        refine q_aload_n C dX5_readClause_140 rfl ?_
        refine x_getR (ci := 5) (j := 1) C dX5_readClause_141 lkF_X5_9 rfl h (fun c28 h => ?_)
        refine x_nn h (fun r29 h => ?_)
        refine x_alen C dX5_readClause_144 h (fun v30 h => ?_)
        refine q_icmp_ge (tgt := 158) C dX5_readClause_145 (by decide) h (fun _ h => ?_) (fun _ h => ?_)
        · refine q_aload_n C dX5_readClause_148 rfl ?_
          refine x_getR (ci := 5) (j := 1) C dX5_readClause_149 lkF_X5_9 rfl h (fun c31 h => ?_)
          refine x_nn h (fun r32 h => ?_)
          refine q_iload_n C dX5_readClause_152 rfl ?_
          refine q_aload_n C dX5_readClause_153 rfl ?_
          refine x_getI (ci := 5) (j := 2) C dX5_readClause_154 lkF_X5_15 rfl h (fun v33 h => ?_)
          refine x_iast C dX5_readClause_157 h (fun M34 h => ?_)
          refine x_iconst (v := (1 : Int32)) C dX5_readClause_158 (by decide) ?_
          exact q_zret C dX5_readClause_159 rfl (by decide) (by decide) (q_rzE h).1 (q_rzE h).2
        · refine x_iconst (v := (1 : Int32)) C dX5_readClause_158 (by decide) ?_
          exact q_zret C dX5_readClause_159 rfl (by decide) (by decide) (q_rzE h).1 (q_rzE h).2
noncomputable def J_X5_readClause_59 (l0 : Nat) (l1 : Int32) (M : q_Mem) : Option (Int32 × q_Mem) := (if l1 = 0 then J_X5_readClause_84 l0 l1 M else (q_gR M l0 5 0 (fun c35 => q_nn c35 (fun r36 => (q_ob M r36 9 ((F_X9_peekAmong r36 12 M).bind (fun x => match x with | (u37, M38) => (if u37 = (-1 : Int32) then (q_ob M38 l0 5 ((F_X5_write l0 (-18 : Int32) M38).bind (fun x => match x with | (_, M40) => q_rz (1 : Int32) M40))) else J_X5_readClause_84 l0 l1 M38))))))))
set_option maxRecDepth 100000 in
set_option maxHeartbeats 4000000 in
theorem jW_X5_readClause_59 {K : q_K} (C : q_C K yX5_readClause cX5_readClause 3 (Option.some Jvm.ClassFile.FieldType.boolean) 128 0 0) (l0 : Nat) (l1 : Int32) (M : q_Mem) {r : Int32} {M' : q_Mem} (h : J_X5_readClause_59 l0 l1 M = some (r, M')) : q_W K 3 (q_Q K (some (.int r)) M' 0 0) 0 0 M 59 [some (.ref l0), some (.int l1), none] [] := by
  unfold J_X5_readClause_59 at h
  refine q_iload_n C dX5_readClause_59 rfl ?_
  refine q_if_eq (tgt := 84) C dX5_readClause_60 (by decide) h (fun _ h => ?_) (fun _ h => ?_)
  · exact q_msk [true, true, false] (jW_X5_readClause_84 C l0 l1 M h)
  · refine q_aload_n C dX5_readClause_63 rfl ?_
    refine x_getR (ci := 5) (j := 0) C dX5_readClause_64 lkF_X5_19 rfl h (fun c35 h => ?_)
    refine x_nn h (fun r36 h => ?_)
    refine q_ldcS (i := 4) C dX5_readClause_67 rfl ?_
    obtain ⟨hk, h⟩ := q_obE h
    obtain ⟨⟨u37, M38⟩, e1, h⟩ := q_bind h
    refine x_callV0 C dX5_readClause_69 lkM_X5_45 mV_X9_peekAmong ⟨_, rfl, rfl⟩ hk (c_X9_peekAmong _ _ _ _ _ e1) rfl rfl (Nat.le_of_ble_eq_true rfl) (by decide) (by decide) ?_
    refine x_iconst (v := (-1 : Int32)) C dX5_readClause_72 (by decide) ?_
    refine q_icmp_ne (tgt := 84) C dX5_readClause_73 (by decide) h (fun _ h => ?_) (fun _ h => ?_)
    · refine q_aload_n C dX5_readClause_76 rfl ?_
      refine x_bipush (v := (-18 : Int32)) C dX5_readClause_77 (by decide) ?_
      obtain ⟨hk, h⟩ := q_obE h
      obtain ⟨⟨_, M40⟩, e1, h⟩ := q_bind h
      refine x_callVv0 C dX5_readClause_79 lkM_X5_55 mV_X5_write ⟨_, rfl, rfl⟩ hk (c_X5_write _ _ _ _ _ e1) rfl rfl (Nat.le_of_ble_eq_true rfl) (by decide) (by decide) ?_
      refine x_iconst (v := (1 : Int32)) C dX5_readClause_82 (by decide) ?_
      exact q_zret C dX5_readClause_83 rfl (by decide) (by decide) (q_rzE h).1 (q_rzE h).2
    · exact q_msk [true, true, false] (jW_X5_readClause_84 C l0 l1 M38 h)
noncomputable def J_X5_readClause_44 (l0 : Nat) (s0 : Int32) (M : q_Mem) : Option (Int32 × q_Mem) := (if s0 = 0 then J_X5_readClause_59 l0 s0 M else (q_ob M l0 5 ((R_X5_readAtom 60 1 l0 (0 : Int32) M).bind (fun x => match x with | (u41, M42) => (if u41 = 0 then q_rz (0 : Int32) M42 else J_X5_readClause_59 l0 s0 M42)))))
set_option maxRecDepth 100000 in
set_option maxHeartbeats 4000000 in
theorem jW_X5_readClause_44 {K : q_K} (C : q_C K yX5_readClause cX5_readClause 3 (Option.some Jvm.ClassFile.FieldType.boolean) 128 0 0) (l0 : Nat) (s0 : Int32) (M : q_Mem) {r : Int32} {M' : q_Mem} (h : J_X5_readClause_44 l0 s0 M = some (r, M')) : q_W K 3 (q_Q K (some (.int r)) M' 0 0) 0 0 M 44 [some (.ref l0), none, none] [.int s0] := by
  unfold J_X5_readClause_44 at h
  refine q_istore_n (L' := [some (.ref l0), some (.int s0), none]) C dX5_readClause_44 (by decide) rfl rfl ?_
  refine q_iload_n C dX5_readClause_45 rfl ?_
  refine q_if_eq (tgt := 59) C dX5_readClause_46 (by decide) h (fun _ h => ?_) (fun _ h => ?_)
  · exact q_msk [true, true, false] (jW_X5_readClause_59 C l0 s0 M h)
  · refine q_aload_n C dX5_readClause_49 rfl ?_
    refine x_iconst (v := (0 : Int32)) C dX5_readClause_50 (by decide) ?_
    obtain ⟨hk, h⟩ := q_obE h
    obtain ⟨⟨u41, M42⟩, e1, h⟩ := q_bind h
    refine x_callV0 C dX5_readClause_51 lkM_X5_49 mV_X5_readSum ⟨_, rfl, rfl⟩ hk (c_X5_readSum _ _ _ _ _ e1) rfl rfl (Nat.le_of_ble_eq_true rfl) (by decide) (by decide) ?_
    refine q_if_ne (tgt := 59) C dX5_readClause_54 (by decide) h (fun _ h => ?_) (fun _ h => ?_)
    · refine x_iconst (v := (0 : Int32)) C dX5_readClause_57 (by decide) ?_
      exact q_zret C dX5_readClause_58 rfl (by decide) (by decide) (q_rzE h).1 (q_rzE h).2
    · exact q_msk [true, true, false] (jW_X5_readClause_59 C l0 s0 M42 h)
noncomputable def F_X5_readClause (l0 : Nat) (M : q_Mem) : Option (Int32 × q_Mem) := (q_gR M l0 5 0 (fun c1 => q_nn c1 (fun r2 => (q_ob M r2 9 ((F_X9_take r2 (121 : Int32) M).bind (fun x => match x with | (u3, M4) => (if u3 = 0 then q_rz (0 : Int32) M4 else (q_gR M4 l0 5 0 (fun c5 => q_nn c5 (fun r6 => (q_ob M4 r6 9 ((F_X9_take r6 (58 : Int32) M4).bind (fun x => match x with | (u7, M8) => (if u7 = 0 then q_rz (0 : Int32) M8 else (q_gR M8 l0 5 0 (fun c9 => q_nn c9 (fun r10 => (q_ob M8 r10 9 ((F_X9_peekAmong r10 10 M8).bind (fun x => match x with | (u11, M12) => (if u11 = (-1 : Int32) then J_X5_readClause_44 l0 (1 : Int32) M12 else J_X5_readClause_44 l0 (0 : Int32) M12)))))))))))))))))))))
set_option maxRecDepth 100000 in
set_option maxHeartbeats 4000000 in
theorem c_X5_readClause (l : Launch) (G : q_G) (l0 : Nat) (M : q_Mem) {r : Int32} {M' : q_Mem} (h : F_X5_readClause l0 M = some (r, M')) : q_Met l G yX5_readClause cX5_readClause 3 (Option.some Jvm.ClassFile.FieldType.boolean) 128 0 0 [.ref l0] M (some (.int r)) M' := by
  unfold F_X5_readClause at h
  refine q_enter [some (.ref l0), none, none] (by decide) (Nat.le_of_ble_eq_true rfl) rfl (fun K C => ?_)
  refine q_aload_n C dX5_readClause_0 rfl ?_
  refine x_getR (ci := 5) (j := 0) C dX5_readClause_1 lkF_X5_19 rfl h (fun c1 h => ?_)
  refine x_nn h (fun r2 h => ?_)
  refine x_bipush (v := (121 : Int32)) C dX5_readClause_4 (by decide) ?_
  obtain ⟨hk, h⟩ := q_obE h
  obtain ⟨⟨u3, M4⟩, e1, h⟩ := q_bind h
  refine x_callV0 C dX5_readClause_6 lkM_X5_39 mV_X9_take ⟨_, rfl, rfl⟩ hk (c_X9_take _ _ _ _ _ e1) rfl rfl (Nat.le_of_ble_eq_true rfl) (by decide) (by decide) ?_
  refine q_if_eq (tgt := 24) C dX5_readClause_9 (by decide) h (fun _ h => ?_) (fun _ h => ?_)
  · refine x_iconst (v := (0 : Int32)) C dX5_readClause_24 (by decide) ?_
    exact q_zret C dX5_readClause_25 rfl (by decide) (by decide) (q_rzE h).1 (q_rzE h).2
  · refine q_aload_n C dX5_readClause_12 rfl ?_
    refine x_getR (ci := 5) (j := 0) C dX5_readClause_13 lkF_X5_19 rfl h (fun c5 h => ?_)
    refine x_nn h (fun r6 h => ?_)
    refine x_bipush (v := (58 : Int32)) C dX5_readClause_16 (by decide) ?_
    obtain ⟨hk, h⟩ := q_obE h
    obtain ⟨⟨u7, M8⟩, e1, h⟩ := q_bind h
    refine x_callV0 C dX5_readClause_18 lkM_X5_39 mV_X9_take ⟨_, rfl, rfl⟩ hk (c_X9_take _ _ _ _ _ e1) rfl rfl (Nat.le_of_ble_eq_true rfl) (by decide) (by decide) ?_
    refine q_if_ne (tgt := 26) C dX5_readClause_21 (by decide) h (fun _ h => ?_) (fun _ h => ?_)
    · refine x_iconst (v := (0 : Int32)) C dX5_readClause_24 (by decide) ?_
      exact q_zret C dX5_readClause_25 rfl (by decide) (by decide) (q_rzE h).1 (q_rzE h).2
    · refine q_aload_n C dX5_readClause_26 rfl ?_
      refine x_getR (ci := 5) (j := 0) C dX5_readClause_27 lkF_X5_19 rfl h (fun c9 h => ?_)
      refine x_nn h (fun r10 h => ?_)
      refine q_ldcS (i := 3) C dX5_readClause_30 rfl ?_
      obtain ⟨hk, h⟩ := q_obE h
      obtain ⟨⟨u11, M12⟩, e1, h⟩ := q_bind h
      refine x_callV0 C dX5_readClause_32 lkM_X5_45 mV_X9_peekAmong ⟨_, rfl, rfl⟩ hk (c_X9_peekAmong _ _ _ _ _ e1) rfl rfl (Nat.le_of_ble_eq_true rfl) (by decide) (by decide) ?_
      refine x_iconst (v := (-1 : Int32)) C dX5_readClause_35 (by decide) ?_
      refine q_icmp_ne (tgt := 43) C dX5_readClause_36 (by decide) h (fun _ h => ?_) (fun _ h => ?_)
      · refine x_iconst (v := (1 : Int32)) C dX5_readClause_39 (by decide) ?_
        refine q_goto (tgt := 44) C dX5_readClause_40 (by decide) ?_
        exact q_msk [true, false, false] (jW_X5_readClause_44 C l0 (1 : Int32) M12 h)
      · refine x_iconst (v := (0 : Int32)) C dX5_readClause_43 (by decide) ?_
        exact q_msk [true, false, false] (jW_X5_readClause_44 C l0 (0 : Int32) M12 h)
noncomputable def B_X5_readLaw_7 (l0 : Nat) (l1 : Int32) (M : q_Mem) : Option ((Int32 × q_Mem) ⊕ ((q_Mem) ⊕ ((q_Mem) ⊕ ((q_Mem) ⊕ (q_Mem))))) := (if (240 : Int32) < l1 then some (.inr (.inr (.inr (.inr M)))) else (q_ob M l0 5 ((F_X5_readClause l0 M).bind (fun x => match x with | (u2, M3) => (if u2 = 0 then some (.inr (.inl M3)) else (q_gR M3 l0 5 0 (fun c4 => q_nn c4 (fun r5 => (q_ob M3 r5 9 ((F_X9_peek r5 M3).bind (fun x => match x with | (u6, M7) => (if u6 = (-1 : Int32) then some (.inr (.inr (.inl M7))) else (q_gR M7 l0 5 0 (fun c8 => q_nn c8 (fun r9 => (q_ob M7 r9 9 ((F_X9_take r9 (59 : Int32) M7).bind (fun x => match x with | (u10, M11) => (if u10 = 0 then some (.inr (.inr (.inr (.inl M11)))) else some (.inl ((l1 + (1 : Int32)), M11)))))))))))))))))))))
set_option maxRecDepth 100000 in
set_option maxHeartbeats 4000000 in
theorem bW_X5_readLaw_7 {K : q_K} {Q : State → Prop} (C : q_C K yX5_readLaw cX5_readLaw 2 (Option.some Jvm.ClassFile.FieldType.boolean) 129 0 0) (l0 : Nat) (l1 : Int32) (M : q_Mem) {stp : (Int32 × q_Mem) ⊕ ((q_Mem) ⊕ ((q_Mem) ⊕ ((q_Mem) ⊕ (q_Mem))))} (h : B_X5_readLaw_7 l0 l1 M = some stp) (kC : ∀ (l1 : Int32) (M : q_Mem), stp = .inl (l1, M) → q_W K 2 Q 0 0 M 7 [some (.ref l0), some (.int l1)] []) (kE0 : ∀ (M : q_Mem), stp = .inr (.inl M) → q_W K 2 Q 0 0 M 21 [none, none] []) (kE1 : ∀ (M : q_Mem), stp = .inr (.inr (.inl M)) → q_W K 2 Q 0 0 M 34 [none, none] []) (kE2 : ∀ (M : q_Mem), stp = .inr (.inr (.inr (.inl M))) → q_W K 2 Q 0 0 M 48 [none, none] []) (kE3 : ∀ (M : q_Mem), stp = .inr (.inr (.inr (.inr M))) → q_W K 2 Q 0 0 M 56 [none, none] []) : q_W K 2 Q 0 0 M 7 [some (.ref l0), some (.int l1)] [] := by
  unfold B_X5_readLaw_7 at h
  refine q_iload_n C dX5_readLaw_7 rfl ?_
  refine x_sipush (v := (240 : Int32)) C dX5_readLaw_8 (by decide) ?_
  refine q_icmp_gt (tgt := 56) C dX5_readLaw_11 (by decide) h (fun _ h => ?_) (fun _ h => ?_)
  · exact q_msk [false, false] (kE3 _ (Option.some.inj h).symm)
  · refine q_aload_n C dX5_readLaw_14 rfl ?_
    obtain ⟨hk, h⟩ := q_obE h
    obtain ⟨⟨u2, M3⟩, e1, h⟩ := q_bind h
    refine x_callV0 C dX5_readLaw_15 lkM_X5_29 mV_X5_readClause ⟨_, rfl, rfl⟩ hk (c_X5_readClause _ _ _ _ e1) rfl rfl (Nat.le_of_ble_eq_true rfl) (by decide) (by decide) ?_
    refine q_if_ne (tgt := 23) C dX5_readLaw_18 (by decide) h (fun _ h => ?_) (fun _ h => ?_)
    · exact q_msk [false, false] (kE0 _ (Option.some.inj h).symm)
    · refine q_aload_n C dX5_readLaw_23 rfl ?_
      refine x_getR (ci := 5) (j := 0) C dX5_readLaw_24 lkF_X5_19 rfl h (fun c4 h => ?_)
      refine x_nn h (fun r5 h => ?_)
      obtain ⟨hk, h⟩ := q_obE h
      obtain ⟨⟨u6, M7⟩, e1, h⟩ := q_bind h
      refine x_callV0 C dX5_readLaw_27 lkM_X5_33 mV_X9_peek ⟨_, rfl, rfl⟩ hk (c_X9_peek _ _ _ _ e1) rfl rfl (Nat.le_of_ble_eq_true rfl) (by decide) (by decide) ?_
      refine x_iconst (v := (-1 : Int32)) C dX5_readLaw_30 (by decide) ?_
      refine q_icmp_ne (tgt := 36) C dX5_readLaw_31 (by decide) h (fun _ h => ?_) (fun _ h => ?_)
      · exact q_msk [false, false] (kE1 _ (Option.some.inj h).symm)
      · refine q_aload_n C dX5_readLaw_36 rfl ?_
        refine x_getR (ci := 5) (j := 0) C dX5_readLaw_37 lkF_X5_19 rfl h (fun c8 h => ?_)
        refine x_nn h (fun r9 h => ?_)
        refine x_bipush (v := (59 : Int32)) C dX5_readLaw_40 (by decide) ?_
        obtain ⟨hk, h⟩ := q_obE h
        obtain ⟨⟨u10, M11⟩, e1, h⟩ := q_bind h
        refine x_callV0 C dX5_readLaw_42 lkM_X5_39 mV_X9_take ⟨_, rfl, rfl⟩ hk (c_X9_take _ _ _ _ _ e1) rfl rfl (Nat.le_of_ble_eq_true rfl) (by decide) (by decide) ?_
        refine q_if_ne (tgt := 50) C dX5_readLaw_45 (by decide) h (fun _ h => ?_) (fun _ h => ?_)
        · exact q_msk [false, false] (kE2 _ (Option.some.inj h).symm)
        · refine x_iinc (w := (1 : Int32)) (L' := [some (.ref l0), some (.int (l1 + (1 : Int32)))]) C dX5_readLaw_50 rfl (by decide) (by decide) rfl rfl ?_
          refine q_goto (tgt := 7) C dX5_readLaw_53 (by decide) ?_
          exact q_msk [true, true] (kC _ _ (Option.some.inj h).symm)
set_option maxRecDepth 100000 in
set_option maxHeartbeats 4000000 in
theorem lW_X5_readLaw_7 {K : q_K} {Q : State → Prop} (C : q_C K yX5_readLaw cX5_readLaw 2 (Option.some Jvm.ClassFile.FieldType.boolean) 129 0 0) (l0 : Nat) (n : Nat) : ∀ (l1 : Int32) (M : q_Mem) (e : ((q_Mem) ⊕ ((q_Mem) ⊕ ((q_Mem) ⊕ (q_Mem))))), q_lp (fun s => B_X5_readLaw_7 l0 s.1 s.2) n (l1, M) = some e → (∀ (M : q_Mem), e = (.inl M) → q_W K 2 Q 0 0 M 21 [none, none] []) → (∀ (M : q_Mem), e = (.inr (.inl M)) → q_W K 2 Q 0 0 M 34 [none, none] []) → (∀ (M : q_Mem), e = (.inr (.inr (.inl M))) → q_W K 2 Q 0 0 M 48 [none, none] []) → (∀ (M : q_Mem), e = (.inr (.inr (.inr M))) → q_W K 2 Q 0 0 M 56 [none, none] []) → q_W K 2 Q 0 0 M 7 [some (.ref l0), some (.int l1)] [] := by
  induction n with
  | zero => intro l1 M e h; cases h
  | succ n ih =>
    intro l1 M e h kE0 kE1 kE2 kE3
    obtain ⟨stp, e1, e2⟩ := q_bind h
    refine bW_X5_readLaw_7 C l0 l1 M e1 (fun a0 a1 hs => ?_) (fun b0 hs => ?_) (fun b0 hs => ?_) (fun b0 hs => ?_) (fun b0 hs => ?_)
    · subst hs; exact ih _ _ _ e2 kE0 kE1 kE2 kE3
    · subst hs; exact kE0 _ (Option.some.inj e2).symm
    · subst hs; exact kE1 _ (Option.some.inj e2).symm
    · subst hs; exact kE2 _ (Option.some.inj e2).symm
    · subst hs; exact kE3 _ (Option.some.inj e2).symm
noncomputable def F_X5_readLaw (l0 : Nat) (M : q_Mem) : Option (Int32 × q_Mem) := (q_pI M l0 5 2 (0 : Int32) (fun M1 => (q_lp (fun s => B_X5_readLaw_7 l0 s.1 s.2) q_fu ((0 : Int32), M1)).bind (fun e12 => match e12 with | .inl M13 => q_rz (0 : Int32) M13 | .inr (.inl M14) => q_rz (1 : Int32) M14 | .inr (.inr (.inl M15)) => q_rz (0 : Int32) M15 | .inr (.inr (.inr M16)) => q_rz (0 : Int32) M16)))
set_option maxRecDepth 100000 in
set_option maxHeartbeats 4000000 in
theorem c_X5_readLaw (l : Launch) (G : q_G) (l0 : Nat) (M : q_Mem) {r : Int32} {M' : q_Mem} (h : F_X5_readLaw l0 M = some (r, M')) : q_Met l G yX5_readLaw cX5_readLaw 2 (Option.some Jvm.ClassFile.FieldType.boolean) 129 0 0 [.ref l0] M (some (.int r)) M' := by
  unfold F_X5_readLaw at h
  refine q_enter [some (.ref l0), none] (by decide) (Nat.le_of_ble_eq_true rfl) rfl (fun K C => ?_)
  refine q_aload_n C dX5_readLaw_0 rfl ?_
  refine x_iconst (v := (0 : Int32)) C dX5_readLaw_1 (by decide) ?_
  refine x_putI (ci := 5) (j := 2) C dX5_readLaw_2 lkF_X5_15 (fun r hr => by cases hr; rfl) rfl h (fun M1 h => ?_)
  refine x_iconst (v := (0 : Int32)) C dX5_readLaw_5 (by decide) ?_
  refine q_istore_n (L' := [some (.ref l0), some (.int (0 : Int32))]) C dX5_readLaw_6 (by decide) rfl rfl ?_
  obtain ⟨e12, he, h⟩ := q_bind h
  refine q_msk [true, true] (lW_X5_readLaw_7 C l0 q_fu _ _ _ he (fun M13 hs => ?_) (fun M14 hs => ?_) (fun M15 hs => ?_) (fun M16 hs => ?_))
  · have hs := hs.symm
    subst hs
    refine x_iconst (v := (0 : Int32)) C dX5_readLaw_21 (by decide) ?_
    exact q_zret C dX5_readLaw_22 rfl (by decide) (by decide) (q_rzE h).1 (q_rzE h).2
  · have hs := hs.symm
    subst hs
    refine x_iconst (v := (1 : Int32)) C dX5_readLaw_34 (by decide) ?_
    exact q_zret C dX5_readLaw_35 rfl (by decide) (by decide) (q_rzE h).1 (q_rzE h).2
  · have hs := hs.symm
    subst hs
    refine x_iconst (v := (0 : Int32)) C dX5_readLaw_48 (by decide) ?_
    exact q_zret C dX5_readLaw_49 rfl (by decide) (by decide) (q_rzE h).1 (q_rzE h).2
  · have hs := hs.symm
    subst hs
    refine x_iconst (v := (0 : Int32)) C dX5_readLaw_56 (by decide) ?_
    exact q_zret C dX5_readLaw_57 rfl (by decide) (by decide) (q_rzE h).1 (q_rzE h).2
noncomputable def F_X6_init (l0 : Nat) (M : q_Mem) : Option (Unit × q_Mem) := (q_nA M 0 (1240 : Int32) 1240 (fun k1 M2 => (q_pR M2 l0 6 0 (k1 + 1) (fun M3 => (q_nA M3 0 (384 : Int32) 384 (fun k4 M5 => (q_pR M5 l0 6 1 (k4 + 1) (fun M6 => (q_nA M6 0 (384 : Int32) 384 (fun k7 M8 => (q_pR M8 l0 6 2 (k7 + 1) (fun M9 => (q_nO M9 8 (fun k10 M11 => ((F_X8_init k10 M11).bind (fun x => match x with | (_, M13) => (q_pR M13 l0 6 3 (k10 + 1) (fun M14 => (q_pZ M14 l0 6 4 (0 : Int32) (fun M15 => (q_pI M15 l0 6 5 (0 : Int32) (fun M16 => (q_pI M16 l0 6 6 (0 : Int32) (fun M17 => some ((), M17)))))))))))))))))))))))))
set_option maxRecDepth 100000 in
set_option maxHeartbeats 4000000 in
theorem c_X6_init (l : Launch) (G : q_G) (l0 : Nat) (M : q_Mem) {r : Unit} {M' : q_Mem} (h : F_X6_init l0 M = some (r, M')) : q_Met l G yX6_init cX6_init 1 (Option.none : Option Jvm.ClassFile.FieldType) 3 5 2040 [.ref l0] M none M' := by
  unfold F_X6_init at h
  refine q_enter [some (.ref l0)] (by decide) (Nat.le_of_ble_eq_true rfl) rfl (fun K C => ?_)
  refine q_aload_n C dX6_init_0 rfl ?_
  refine q_objI C dX6_init_1 wd_144 wd_33 wd_34 (by decide) (Nat.le_of_ble_eq_true rfl) ?_
  refine q_aload_n C dX6_init_4 rfl ?_
  refine x_sipush (v := (1240 : Int32)) C dX6_init_5 (by decide) ?_
  refine x_newa C dX6_init_8 (by simp) wd_103 (by decide) h (by decide) (fun k1 M2 h => ?_)
  refine x_putR (ci := 6) (j := 0) (k1 + 1) C dX6_init_10 lkF_X6_9 (fun r hr => by cases hr; exact Or.inr ⟨rfl, rfl, wd_147⟩) (Or.inr ⟨_, rfl⟩) rfl h (fun M3 h => ?_)
  refine q_aload_n C dX6_init_13 rfl ?_
  refine x_sipush (v := (384 : Int32)) C dX6_init_14 (by decide) ?_
  refine x_newa C dX6_init_17 (by simp) wd_103 (by decide) h (by decide) (fun k4 M5 h => ?_)
  refine x_putR (ci := 6) (j := 1) (k4 + 1) C dX6_init_19 lkF_X6_15 (fun r hr => by cases hr; exact Or.inr ⟨rfl, rfl, wd_148⟩) (Or.inr ⟨_, rfl⟩) rfl h (fun M6 h => ?_)
  refine q_aload_n C dX6_init_22 rfl ?_
  refine x_sipush (v := (384 : Int32)) C dX6_init_23 (by decide) ?_
  refine x_newa C dX6_init_26 (by simp) wd_103 (by decide) h (by decide) (fun k7 M8 h => ?_)
  refine x_putR (ci := 6) (j := 2) (k7 + 1) C dX6_init_28 lkF_X6_18 (fun r hr => by cases hr; exact Or.inr ⟨rfl, rfl, wd_149⟩) (Or.inr ⟨_, rfl⟩) rfl h (fun M9 h => ?_)
  refine q_aload_n C dX6_init_31 rfl ?_
  refine x_new (ci := 8) C dX6_init_32 rfl clok_8 wd_145 wd_125 wd_5 df_8 h (by decide) (fun k10 M11 h => ?_)
  refine q_dup C dX6_init_35 rfl ?_
  obtain ⟨⟨_, M13⟩, e1, h⟩ := q_bind h
  refine x_callI C dX6_init_36 lkM_X6_23 mI_X8_init (c_X8_init _ _ _ _ e1) rfl rfl (Nat.le_of_ble_eq_true rfl) (by decide) (by decide) ?_
  refine x_putR (ci := 6) (j := 3) (k10 + 1) C dX6_init_39 lkF_X6_24 (fun r hr => by cases hr; exact Or.inr ⟨rfl, rfl, wd_150⟩) (Or.inl ⟨_, rfl⟩) rfl h (fun M14 h => ?_)
  refine q_aload_n C dX6_init_42 rfl ?_
  refine x_iconst (v := (0 : Int32)) C dX6_init_43 (by decide) ?_
  refine x_putZ (ci := 6) (j := 4) C dX6_init_44 lkF_X6_28 (fun r hr => by cases hr; rfl) rfl h (fun M15 h => ?_)
  refine q_aload_n C dX6_init_47 rfl ?_
  refine x_iconst (v := (0 : Int32)) C dX6_init_48 (by decide) ?_
  refine x_putI (ci := 6) (j := 5) C dX6_init_49 lkF_X6_32 (fun r hr => by cases hr; rfl) rfl h (fun M16 h => ?_)
  refine q_aload_n C dX6_init_52 rfl ?_
  refine x_iconst (v := (0 : Int32)) C dX6_init_53 (by decide) ?_
  refine x_putI (ci := 6) (j := 6) C dX6_init_54 lkF_X6_36 (fun r hr => by cases hr; rfl) rfl h (fun M17 h => ?_)
  exact q_vret C dX6_init_57 rfl (by decide) (by decide) (Option.some.inj h)
noncomputable def F_X6_forget (l0 : Nat) (M : q_Mem) : Option (Unit × q_Mem) := (q_pI M l0 6 6 (0 : Int32) (fun M1 => (q_pZ M1 l0 6 4 (0 : Int32) (fun M2 => some ((), M2)))))
set_option maxRecDepth 100000 in
set_option maxHeartbeats 4000000 in
theorem c_X6_forget (l : Launch) (G : q_G) (l0 : Nat) (M : q_Mem) {r : Unit} {M' : q_Mem} (h : F_X6_forget l0 M = some (r, M')) : q_Met l G yX6_forget cX6_forget 1 (Option.none : Option Jvm.ClassFile.FieldType) 1 0 0 [.ref l0] M none M' := by
  unfold F_X6_forget at h
  refine q_enter [some (.ref l0)] (by decide) (Nat.le_of_ble_eq_true rfl) rfl (fun K C => ?_)
  refine q_aload_n C dX6_forget_0 rfl ?_
  refine x_iconst (v := (0 : Int32)) C dX6_forget_1 (by decide) ?_
  refine x_putI (ci := 6) (j := 6) C dX6_forget_2 lkF_X6_36 (fun r hr => by cases hr; rfl) rfl h (fun M1 h => ?_)
  refine q_aload_n C dX6_forget_5 rfl ?_
  refine x_iconst (v := (0 : Int32)) C dX6_forget_6 (by decide) ?_
  refine x_putZ (ci := 6) (j := 4) C dX6_forget_7 lkF_X6_28 (fun r hr => by cases hr; rfl) rfl h (fun M2 h => ?_)
  exact q_vret C dX6_forget_10 rfl (by decide) (by decide) (Option.some.inj h)
noncomputable def J_X6_keepAct_43 (l0 : Nat) (s0 : Nat) (s1 : Int32) (M : q_Mem) : Option (Unit × q_Mem) := (q_pI M s0 6 5 s1 (fun M9 => (q_gI M9 l0 6 6 (fun v10 => (q_pI M9 l0 6 6 (q_mn (v10 + (1 : Int32)) (40 : Int32)) (fun M11 => some ((), M11)))))))
set_option maxRecDepth 100000 in
set_option maxHeartbeats 4000000 in
theorem jW_X6_keepAct_43 {K : q_K} (C : q_C K yX6_keepAct cX6_keepAct 2 (Option.none : Option Jvm.ClassFile.FieldType) 2 0 0) (l0 : Nat) (s0 : Nat) (s1 : Int32) (M : q_Mem) {r : Unit} {M' : q_Mem} (h : J_X6_keepAct_43 l0 s0 s1 M = some (r, M')) : q_W K 2 (q_Q K none M' 0 0) 0 0 M 43 [some (.ref l0), none] [.int s1, .ref s0] := by
  unfold J_X6_keepAct_43 at h
  refine x_putI (ci := 6) (j := 5) C dX6_keepAct_43 lkF_X6_32 (fun r hr => by cases hr; rfl) rfl h (fun M9 h => ?_)
  refine q_aload_n C dX6_keepAct_46 rfl ?_
  refine q_aload_n C dX6_keepAct_47 rfl ?_
  refine x_getI (ci := 6) (j := 6) C dX6_keepAct_48 lkF_X6_36 rfl h (fun v10 h => ?_)
  refine x_iconst (v := (1 : Int32)) C dX6_keepAct_51 (by decide) ?_
  refine q_iadd C dX6_keepAct_52 ?_
  refine x_bipush (v := (40 : Int32)) C dX6_keepAct_53 (by decide) ?_
  refine q_min C dX6_keepAct_55 wd_803 wd_470 wd_15 wd_471 (by decide) (Nat.le_of_ble_eq_true rfl) (by decide) ?_
  refine x_putI (ci := 6) (j := 6) C dX6_keepAct_58 lkF_X6_36 (fun r hr => by cases hr; rfl) rfl h (fun M11 h => ?_)
  exact q_vret C dX6_keepAct_61 rfl (by decide) (by decide) (Option.some.inj h)
noncomputable def F_X6_keepAct (l0 : Nat) (l1 : Nat) (M : q_Mem) : Option (Unit × q_Mem) := (q_gR M l1 8 0 (fun c1 => q_nn c1 (fun r2 => (q_gR M l0 6 0 (fun c3 => q_nn c3 (fun r4 => (q_gI M l0 6 5 (fun v5 => (q_cp M r2 (0 : Int32) r4 (v5 * (31 : Int32)) (31 : Int32) (fun M6 => (q_gI M6 l0 6 5 (fun v7 => (if (v7 + (1 : Int32)) < (40 : Int32) then (q_gI M6 l0 6 5 (fun v8 => J_X6_keepAct_43 l0 l0 (v8 + (1 : Int32)) M6)) else J_X6_keepAct_43 l0 l0 (0 : Int32) M6)))))))))))))
set_option maxRecDepth 100000 in
set_option maxHeartbeats 4000000 in
theorem c_X6_keepAct (l : Launch) (G : q_G) (l0 : Nat) (l1 : Nat) (M : q_Mem) {r : Unit} {M' : q_Mem} (h : F_X6_keepAct l0 l1 M = some (r, M')) : q_Met l G yX6_keepAct cX6_keepAct 2 (Option.none : Option Jvm.ClassFile.FieldType) 2 0 0 [.ref l0, .ref l1] M none M' := by
  unfold F_X6_keepAct at h
  refine q_enter [some (.ref l0), some (.ref l1)] (by decide) (Nat.le_of_ble_eq_true rfl) rfl (fun K C => ?_)
  refine q_aload_n C dX6_keepAct_0 rfl ?_
  refine x_getR (ci := 8) (j := 0) C dX6_keepAct_1 lkF_X6_39 rfl h (fun c1 h => ?_)
  refine x_nn h (fun r2 h => ?_)
  refine x_iconst (v := (0 : Int32)) C dX6_keepAct_4 (by decide) ?_
  refine q_aload_n C dX6_keepAct_5 rfl ?_
  refine x_getR (ci := 6) (j := 0) C dX6_keepAct_6 lkF_X6_9 rfl h (fun c3 h => ?_)
  refine x_nn h (fun r4 h => ?_)
  refine q_aload_n C dX6_keepAct_9 rfl ?_
  refine x_getI (ci := 6) (j := 5) C dX6_keepAct_10 lkF_X6_32 rfl h (fun v5 h => ?_)
  refine x_bipush (v := (31 : Int32)) C dX6_keepAct_13 (by decide) ?_
  refine q_imul C dX6_keepAct_15 ?_
  refine x_bipush (v := (31 : Int32)) C dX6_keepAct_16 (by decide) ?_
  refine x_copy C dX6_keepAct_18 wd_802 wd_626 wd_625 wd_19 (by decide) (Nat.le_of_ble_eq_true rfl) h (fun M6 h => ?_)
  refine q_aload_n C dX6_keepAct_21 rfl ?_
  refine q_aload_n C dX6_keepAct_22 rfl ?_
  refine x_getI (ci := 6) (j := 5) C dX6_keepAct_23 lkF_X6_32 rfl h (fun v7 h => ?_)
  refine x_iconst (v := (1 : Int32)) C dX6_keepAct_26 (by decide) ?_
  refine q_iadd C dX6_keepAct_27 ?_
  refine x_bipush (v := (40 : Int32)) C dX6_keepAct_28 (by decide) ?_
  refine q_icmp_ge (tgt := 42) C dX6_keepAct_30 (by decide) h (fun _ h => ?_) (fun _ h => ?_)
  · refine q_aload_n C dX6_keepAct_33 rfl ?_
    refine x_getI (ci := 6) (j := 5) C dX6_keepAct_34 lkF_X6_32 rfl h (fun v8 h => ?_)
    refine x_iconst (v := (1 : Int32)) C dX6_keepAct_37 (by decide) ?_
    refine q_iadd C dX6_keepAct_38 ?_
    refine q_goto (tgt := 43) C dX6_keepAct_39 (by decide) ?_
    exact q_msk [true, false] (jW_X6_keepAct_43 C l0 l0 (v8 + (1 : Int32)) M6 h)
  · refine x_iconst (v := (0 : Int32)) C dX6_keepAct_42 (by decide) ?_
    exact q_msk [true, false] (jW_X6_keepAct_43 C l0 l0 (0 : Int32) M6 h)
noncomputable def J_X6_undoAct_28 (l0 : Nat) (l1 : Nat) (s0 : Nat) (s1 : Int32) (M : q_Mem) : Option (Int32 × q_Mem) := (q_pI M s0 6 5 s1 (fun M4 => (q_gI M4 l0 6 6 (fun v5 => (q_pI M4 l0 6 6 (v5 - (1 : Int32)) (fun M6 => (q_gR M6 l0 6 0 (fun c7 => q_nn c7 (fun r8 => (q_gI M6 l0 6 5 (fun v9 => (q_gR M6 l1 8 0 (fun c10 => q_nn c10 (fun r11 => (q_cp M6 r8 (v9 * (31 : Int32)) r11 (0 : Int32) (31 : Int32) (fun M12 => q_rz (1 : Int32) M12))))))))))))))))
set_option maxRecDepth 100000 in
set_option maxHeartbeats 4000000 in
theorem jW_X6_undoAct_28 {K : q_K} (C : q_C K yX6_undoAct cX6_undoAct 2 (Option.some Jvm.ClassFile.FieldType.boolean) 2 0 0) (l0 : Nat) (l1 : Nat) (s0 : Nat) (s1 : Int32) (M : q_Mem) {r : Int32} {M' : q_Mem} (h : J_X6_undoAct_28 l0 l1 s0 s1 M = some (r, M')) : q_W K 2 (q_Q K (some (.int r)) M' 0 0) 0 0 M 28 [some (.ref l0), some (.ref l1)] [.int s1, .ref s0] := by
  unfold J_X6_undoAct_28 at h
  refine x_putI (ci := 6) (j := 5) C dX6_undoAct_28 lkF_X6_32 (fun r hr => by cases hr; rfl) rfl h (fun M4 h => ?_)
  refine q_aload_n C dX6_undoAct_31 rfl ?_
  refine q_dup C dX6_undoAct_32 rfl ?_
  refine x_getI (ci := 6) (j := 6) C dX6_undoAct_33 lkF_X6_36 rfl h (fun v5 h => ?_)
  refine x_iconst (v := (1 : Int32)) C dX6_undoAct_36 (by decide) ?_
  refine q_isub C dX6_undoAct_37 ?_
  refine x_putI (ci := 6) (j := 6) C dX6_undoAct_38 lkF_X6_36 (fun r hr => by cases hr; rfl) rfl h (fun M6 h => ?_)
  refine q_aload_n C dX6_undoAct_41 rfl ?_
  refine x_getR (ci := 6) (j := 0) C dX6_undoAct_42 lkF_X6_9 rfl h (fun c7 h => ?_)
  refine x_nn h (fun r8 h => ?_)
  refine q_aload_n C dX6_undoAct_45 rfl ?_
  refine x_getI (ci := 6) (j := 5) C dX6_undoAct_46 lkF_X6_32 rfl h (fun v9 h => ?_)
  refine x_bipush (v := (31 : Int32)) C dX6_undoAct_49 (by decide) ?_
  refine q_imul C dX6_undoAct_51 ?_
  refine q_aload_n C dX6_undoAct_52 rfl ?_
  refine x_getR (ci := 8) (j := 0) C dX6_undoAct_53 lkF_X6_39 rfl h (fun c10 h => ?_)
  refine x_nn h (fun r11 h => ?_)
  refine x_iconst (v := (0 : Int32)) C dX6_undoAct_56 (by decide) ?_
  refine x_bipush (v := (31 : Int32)) C dX6_undoAct_57 (by decide) ?_
  refine x_copy C dX6_undoAct_59 wd_802 wd_626 wd_625 wd_19 (by decide) (Nat.le_of_ble_eq_true rfl) h (fun M12 h => ?_)
  refine x_iconst (v := (1 : Int32)) C dX6_undoAct_62 (by decide) ?_
  exact q_zret C dX6_undoAct_63 rfl (by decide) (by decide) (q_rzE h).1 (q_rzE h).2
noncomputable def F_X6_undoAct (l0 : Nat) (l1 : Nat) (M : q_Mem) : Option (Int32 × q_Mem) := (q_gI M l0 6 6 (fun v1 => (if v1 = 0 then q_rz (0 : Int32) M else (q_gI M l0 6 5 (fun v2 => (if 0 < v2 then (q_gI M l0 6 5 (fun v3 => J_X6_undoAct_28 l0 l1 l0 (v3 - (1 : Int32)) M)) else J_X6_undoAct_28 l0 l1 l0 (39 : Int32) M))))))
set_option maxRecDepth 100000 in
set_option maxHeartbeats 4000000 in
theorem c_X6_undoAct (l : Launch) (G : q_G) (l0 : Nat) (l1 : Nat) (M : q_Mem) {r : Int32} {M' : q_Mem} (h : F_X6_undoAct l0 l1 M = some (r, M')) : q_Met l G yX6_undoAct cX6_undoAct 2 (Option.some Jvm.ClassFile.FieldType.boolean) 2 0 0 [.ref l0, .ref l1] M (some (.int r)) M' := by
  unfold F_X6_undoAct at h
  refine q_enter [some (.ref l0), some (.ref l1)] (by decide) (Nat.le_of_ble_eq_true rfl) rfl (fun K C => ?_)
  refine q_aload_n C dX6_undoAct_0 rfl ?_
  refine x_getI (ci := 6) (j := 6) C dX6_undoAct_1 lkF_X6_36 rfl h (fun v1 h => ?_)
  refine q_if_ne (tgt := 9) C dX6_undoAct_4 (by decide) h (fun _ h => ?_) (fun _ h => ?_)
  · refine x_iconst (v := (0 : Int32)) C dX6_undoAct_7 (by decide) ?_
    exact q_zret C dX6_undoAct_8 rfl (by decide) (by decide) (q_rzE h).1 (q_rzE h).2
  · refine q_aload_n C dX6_undoAct_9 rfl ?_
    refine q_aload_n C dX6_undoAct_10 rfl ?_
    refine x_getI (ci := 6) (j := 5) C dX6_undoAct_11 lkF_X6_32 rfl h (fun v2 h => ?_)
    refine q_if_le (tgt := 26) C dX6_undoAct_14 (by decide) h (fun _ h => ?_) (fun _ h => ?_)
    · refine q_aload_n C dX6_undoAct_17 rfl ?_
      refine x_getI (ci := 6) (j := 5) C dX6_undoAct_18 lkF_X6_32 rfl h (fun v3 h => ?_)
      refine x_iconst (v := (1 : Int32)) C dX6_undoAct_21 (by decide) ?_
      refine q_isub C dX6_undoAct_22 ?_
      refine q_goto (tgt := 28) C dX6_undoAct_23 (by decide) ?_
      exact q_msk [true, true] (jW_X6_undoAct_28 C l0 l1 l0 (v3 - (1 : Int32)) M h)
    · refine x_bipush (v := (39 : Int32)) C dX6_undoAct_26 (by decide) ?_
      exact q_msk [true, true] (jW_X6_undoAct_28 C l0 l1 l0 (39 : Int32) M h)
noncomputable def F_X6_logLength (l0 : Int32) (M : q_Mem) : Option (Int32) := some (q_mn l0 (60 : Int32))
set_option maxRecDepth 100000 in
set_option maxHeartbeats 4000000 in
theorem c_X6_logLength (l : Launch) (G : q_G) (l0 : Int32) (M : q_Mem) {r : Int32} (h : F_X6_logLength l0 M = some r) : q_Met l G yX6_logLength cX6_logLength 1 (Option.some Jvm.ClassFile.FieldType.int) 2 0 0 [.int l0] M (some (.int r)) M := by
  unfold F_X6_logLength at h
  refine q_enter [some (.int l0)] (by decide) (Nat.le_of_ble_eq_true rfl) rfl (fun K C => ?_)
  refine q_iload_n C dX6_logLength_0 rfl ?_
  refine x_bipush (v := (60 : Int32)) C dX6_logLength_1 (by decide) ?_
  refine q_min C dX6_logLength_3 wd_803 wd_470 wd_15 wd_471 (by decide) (Nat.le_of_ble_eq_true rfl) (by decide) ?_
  exact q_iret (res := (r, M)) C dX6_logLength_6 rfl (by decide) (by decide) (congrArg (fun z => (z, M)) (Option.some.inj h))
