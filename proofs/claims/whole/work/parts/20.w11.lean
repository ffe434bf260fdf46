noncomputable def F_X11_odds (l0 : Nat) (l1 : Int32) (l2 : Int32) (l3 : Int32) (M : q_Mem) : Option (Int32 × q_Mem) := (q_gR M l0 11 1 (fun c1 => q_nn c1 (fun r2 => (q_ob M r2 3 ((F_X3_hasGuest r2 l1 M).bind (fun u3 => (if u3 = 0 then some ((-1 : Int32), M) else (if l2 < 0 then some ((-1 : Int32), M) else (if (4 : Int32) < l2 then some ((-1 : Int32), M) else (if l3 < 0 then some ((-1 : Int32), M) else (if (100 : Int32) < l3 then some ((-1 : Int32), M) else (q_gR M l0 11 11 (fun c4 => q_nn c4 (fun r5 => (q_gR M l0 11 6 (fun c6 => q_nn c6 (fun r7 => (q_ob M r5 2 ((F_X2_oddsOf r5 r7 l1 l2 l3 M).bind (fun x => match x with | (u8, M9) => some (u8.toInt32, M9)))))))))))))))))))))
set_option maxRecDepth 100000 in
set_option maxHeartbeats 4000000 in
theorem c_X11_odds (l : Launch) (G : q_G) (l0 : Nat) (l1 : Int32) (l2 : Int32) (l3 : Int32) (M : q_Mem) {r : Int32} {M' : q_Mem} (h : F_X11_odds l0 l1 l2 l3 M = some (r, M')) : q_Met l G yX11_odds cX11_odds 4 (Option.some Jvm.ClassFile.FieldType.int) 69 0 0 [.ref l0, .int l1, .int l2, .int l3] M (some (.int r)) M' := by
  unfold F_X11_odds at h
  refine q_enter [some (.ref l0), some (.int l1), some (.int l2), some (.int l3)] (by decide) (Nat.le_of_ble_eq_true rfl) rfl (fun K C => ?_)
  refine q_aload_n C dX11_odds_0 rfl ?_
  refine x_getR (ci := 11) (j := 1) C dX11_odds_1 lkF_X11_19 rfl h (fun c1 h => ?_)
  refine x_nn h (fun r2 h => ?_)
  refine q_iload_n C dX11_odds_4 rfl ?_
  obtain ⟨hk, h⟩ := q_obE h
  obtain ⟨u3, e1, h⟩ := q_bind h
  refine x_callV0 C dX11_odds_5 lkM_X11_170 mV_X3_hasGuest ⟨_, rfl, rfl⟩ hk (c_X3_hasGuest _ _ _ _ _ e1) rfl rfl (Nat.le_of_ble_eq_true rfl) (by decide) (by decide) ?_
  refine q_if_eq (tgt := 30) C dX11_odds_8 (by decide) h (fun _ h => ?_) (fun _ h => ?_)
  · refine x_iconst (v := (-1 : Int32)) C dX11_odds_30 (by decide) ?_
    exact q_iret C dX11_odds_31 rfl (by decide) (by decide) (Option.some.inj h)
  · refine q_iload_n C dX11_odds_11 rfl ?_
    refine q_if_lt (tgt := 30) C dX11_odds_12 (by decide) h (fun _ h => ?_) (fun _ h => ?_)
    · refine x_iconst (v := (-1 : Int32)) C dX11_odds_30 (by decide) ?_
      exact q_iret C dX11_odds_31 rfl (by decide) (by decide) (Option.some.inj h)
    · refine q_iload_n C dX11_odds_15 rfl ?_
      refine x_iconst (v := (4 : Int32)) C dX11_odds_16 (by decide) ?_
      refine q_icmp_gt (tgt := 30) C dX11_odds_17 (by decide) h (fun _ h => ?_) (fun _ h => ?_)
      · refine x_iconst (v := (-1 : Int32)) C dX11_odds_30 (by decide) ?_
        exact q_iret C dX11_odds_31 rfl (by decide) (by decide) (Option.some.inj h)
      · refine q_iload_n C dX11_odds_20 rfl ?_
        refine q_if_lt (tgt := 30) C dX11_odds_21 (by decide) h (fun _ h => ?_) (fun _ h => ?_)
        · refine x_iconst (v := (-1 : Int32)) C dX11_odds_30 (by decide) ?_
          exact q_iret C dX11_odds_31 rfl (by decide) (by decide) (Option.some.inj h)
        · refine q_iload_n C dX11_odds_24 rfl ?_
          refine x_bipush (v := (100 : Int32)) C dX11_odds_25 (by decide) ?_
          refine q_icmp_le (tgt := 32) C dX11_odds_27 (by decide) h (fun _ h => ?_) (fun _ h => ?_)
          · refine x_iconst (v := (-1 : Int32)) C dX11_odds_30 (by decide) ?_
            exact q_iret C dX11_odds_31 rfl (by decide) (by decide) (Option.some.inj h)
          · refine q_aload_n C dX11_odds_32 rfl ?_
            refine x_getR (ci := 11) (j := 11) C dX11_odds_33 lkF_X11_87 rfl h (fun c4 h => ?_)
            refine x_nn h (fun r5 h => ?_)
            refine q_aload_n C dX11_odds_36 rfl ?_
            refine x_getR (ci := 11) (j := 6) C dX11_odds_37 lkF_X11_50 rfl h (fun c6 h => ?_)
            refine x_nn h (fun r7 h => ?_)
            refine q_iload_n C dX11_odds_40 rfl ?_
            refine q_iload_n C dX11_odds_41 rfl ?_
            refine q_iload_n C dX11_odds_42 rfl ?_
            obtain ⟨hk, h⟩ := q_obE h
            obtain ⟨⟨u8, M9⟩, e1, h⟩ := q_bind h
            refine x_callV0 C dX11_odds_43 lkM_X11_332 mV_X2_oddsOf ⟨_, rfl, rfl⟩ hk (c_X2_oddsOf _ _ _ _ _ _ _ _ e1) rfl rfl (Nat.le_of_ble_eq_true rfl) (by decide) (by decide) ?_
            refine q_l2i C dX11_odds_46 ?_
            exact q_iret C dX11_odds_47 rfl (by decide) (by decide) (Option.some.inj h)
noncomputable def J_X11_firstMost_46_6 (l0 : Nat) (l1 : Int32) (l2 : Int32) (l3 : Int32) (l4 : Int32) (l5 : Int32) (M : q_Mem) : Option ((Int32 × Int32) ⊕ (Int32)) := some (.inl (l4, (l5 + (1 : Int32))))
set_option maxRecDepth 100000 in
set_option maxHeartbeats 4000000 in
theorem jW_X11_firstMost_46_6 {K : q_K} {Q : State → Prop} (C : q_C K yX11_firstMost cX11_firstMost 6 (Option.some Jvm.ClassFile.FieldType.int) 1 0 0) (l0 : Nat) (l1 : Int32) (l2 : Int32) (l3 : Int32) (l4 : Int32) (l5 : Int32) (M : q_Mem) {stp : (Int32 × Int32) ⊕ (Int32)} (h : J_X11_firstMost_46_6 l0 l1 l2 l3 l4 l5 M = some stp) (kC : ∀ (l4 : Int32) (l5 : Int32), stp = .inl (l4, l5) → q_W K 6 Q 0 0 M 6 [some (.ref l0), some (.int l1), some (.int l2), some (.int l3), some (.int l4), some (.int l5)] []) (kE0 : ∀ (l4 : Int32), stp = .inr l4 → q_W K 6 Q 0 0 M 52 [none, none, none, none, some (.int l4), none] []) : q_W K 6 Q 0 0 M 46 [some (.ref l0), some (.int l1), some (.int l2), some (.int l3), some (.int l4), some (.int l5)] [] := by
  unfold J_X11_firstMost_46_6 at h
  refine x_iinc (w := (1 : Int32)) (L' := [some (.ref l0), some (.int l1), some (.int l2), some (.int l3), some (.int l4), some (.int (l5 + (1 : Int32)))]) C dX11_firstMost_46 rfl (by decide) (by decide) rfl rfl ?_
  refine q_goto (tgt := 6) C dX11_firstMost_49 (by decide) ?_
  exact q_msk [true, true, true, true, true, true] (kC _ _ (Option.some.inj h).symm)
noncomputable def B_X11_firstMost_6 (l0 : Nat) (l1 : Int32) (l2 : Int32) (l3 : Int32) (l4 : Int32) (l5 : Int32) (M : q_Mem) : Option ((Int32 × Int32) ⊕ (Int32)) := (if l5 < l3 then (q_al M l0 (fun v1 => (if (l1 + (l5 * l2)) < v1 then (q_lI M 0 l0 (l1 + (l5 * l2)) (fun v2 => (q_lI M 0 l0 (l1 + (l4 * l2)) (fun v3 => (if v3 < v2 then J_X11_firstMost_46_6 l0 l1 l2 l3 l5 l5 M else J_X11_firstMost_46_6 l0 l1 l2 l3 l4 l5 M))))) else some (.inr l4)))) else some (.inr l4))
set_option maxRecDepth 100000 in
set_option maxHeartbeats 4000000 in
theorem bW_X11_firstMost_6 {K : q_K} {Q : State → Prop} (C : q_C K yX11_firstMost cX11_firstMost 6 (Option.some Jvm.ClassFile.FieldType.int) 1 0 0) (l0 : Nat) (l1 : Int32) (l2 : Int32) (l3 : Int32) (l4 : Int32) (l5 : Int32) (M : q_Mem) {stp : (Int32 × Int32) ⊕ (Int32)} (h : B_X11_firstMost_6 l0 l1 l2 l3 l4 l5 M = some stp) (kC : ∀ (l4 : Int32) (l5 : Int32), stp = .inl (l4, l5) → q_W K 6 Q 0 0 M 6 [some (.ref l0), some (.int l1), some (.int l2), some (.int l3), some (.int l4), some (.int l5)] []) (kE0 : ∀ (l4 : Int32), stp = .inr l4 → q_W K 6 Q 0 0 M 52 [none, none, none, none, some (.int l4), none] []) : q_W K 6 Q 0 0 M 6 [some (.ref l0), some (.int l1), some (.int l2), some (.int l3), some (.int l4), some (.int l5)] [] := by
  unfold B_X11_firstMost_6 at h
  refine q_iload C dX11_firstMost_6 rfl ?_
  refine q_iload_n C dX11_firstMost_8 rfl ?_
  refine q_icmp_ge (tgt := 52) C dX11_firstMost_9 (by decide) h (fun _ h => ?_) (fun _ h => ?_)
  · refine q_iload_n C dX11_firstMost_12 rfl ?_
    refine q_iload C dX11_firstMost_13 rfl ?_
    refine q_iload_n C dX11_firstMost_15 rfl ?_
    refine q_imul C dX11_firstMost_16 ?_
    refine q_iadd C dX11_firstMost_17 ?_
    refine q_aload_n C dX11_firstMost_18 rfl ?_
    refine x_alen C dX11_firstMost_19 h (fun v1 h => ?_)
    refine q_icmp_ge (tgt := 52) C dX11_firstMost_20 (by decide) h (fun _ h => ?_) (fun _ h => ?_)
    · refine q_aload_n C dX11_firstMost_23 rfl ?_
      refine q_iload_n C dX11_firstMost_24 rfl ?_
      refine q_iload C dX11_firstMost_25 rfl ?_
      refine q_iload_n C dX11_firstMost_27 rfl ?_
      refine q_imul C dX11_firstMost_28 ?_
      refine q_iadd C dX11_firstMost_29 ?_
      refine x_iald C dX11_firstMost_30 h (fun v2 h => ?_)
      refine q_aload_n C dX11_firstMost_31 rfl ?_
      refine q_iload_n C dX11_firstMost_32 rfl ?_
      refine q_iload C dX11_firstMost_33 rfl ?_
      refine q_iload_n C dX11_firstMost_35 rfl ?_
      refine q_imul C dX11_firstMost_36 ?_
      refine q_iadd C dX11_firstMost_37 ?_
      refine x_iald C dX11_firstMost_38 h (fun v3 h => ?_)
      refine q_icmp_le (tgt := 46) C dX11_firstMost_39 (by decide) h (fun _ h => ?_) (fun _ h => ?_)
      · refine q_iload C dX11_firstMost_42 rfl ?_
        refine q_istore (L' := [some (.ref l0), some (.int l1), some (.int l2), some (.int l3), some (.int l5), some (.int l5)]) C dX11_firstMost_44 (by decide) rfl rfl ?_
        exact q_msk [true, true, true, true, true, true] (jW_X11_firstMost_46_6 C l0 l1 l2 l3 l5 l5 M h kC kE0)
      · exact q_msk [true, true, true, true, true, true] (jW_X11_firstMost_46_6 C l0 l1 l2 l3 l4 l5 M h kC kE0)
    · exact q_msk [false, false, false, false, true, false] (kE0 _ (Option.some.inj h).symm)
  · exact q_msk [false, false, false, false, true, false] (kE0 _ (Option.some.inj h).symm)
set_option maxRecDepth 100000 in
set_option maxHeartbeats 4000000 in
theorem lW_X11_firstMost_6 {K : q_K} {Q : State → Prop} (C : q_C K yX11_firstMost cX11_firstMost 6 (Option.some Jvm.ClassFile.FieldType.int) 1 0 0) (l0 : Nat) (l1 : Int32) (l2 : Int32) (l3 : Int32) (M : q_Mem) (n : Nat) : ∀ (l4 : Int32) (l5 : Int32) (e : (Int32)), q_lp (fun s => B_X11_firstMost_6 l0 l1 l2 l3 s.1 s.2 M) n (l4, l5) = some e → (∀ (l4 : Int32), e = l4 → q_W K 6 Q 0 0 M 52 [none, none, none, none, some (.int l4), none] []) → q_W K 6 Q 0 0 M 6 [some (.ref l0), some (.int l1), some (.int l2), some (.int l3), some (.int l4), some (.int l5)] [] := by
  induction n with
  | zero => intro l4 l5 e h; cases h
  | succ n ih =>
    intro l4 l5 e h kE0
    obtain ⟨stp, e1, e2⟩ := q_bind h
    refine bW_X11_firstMost_6 C l0 l1 l2 l3 l4 l5 M e1 (fun a0 a1 hs => ?_) (fun b0 hs => ?_)
    · subst hs; exact ih _ _ _ e2 kE0
    · subst hs; exact kE0 _ (Option.some.inj e2).symm
noncomputable def F_X11_firstMost (l0 : Nat) (l1 : Int32) (l2 : Int32) (l3 : Int32) (M : q_Mem) : Option (Int32) := (q_lp (fun s => B_X11_firstMost_6 l0 l1 l2 l3 s.1 s.2 M) q_fu ((0 : Int32), (1 : Int32))).bind (fun e4 => match e4 with | w5 => some w5)
set_option maxRecDepth 100000 in
set_option maxHeartbeats 4000000 in
theorem c_X11_firstMost (l : Launch) (G : q_G) (l0 : Nat) (l1 : Int32) (l2 : Int32) (l3 : Int32) (M : q_Mem) {r : Int32} (h : F_X11_firstMost l0 l1 l2 l3 M = some r) : q_Met l G yX11_firstMost cX11_firstMost 6 (Option.some Jvm.ClassFile.FieldType.int) 1 0 0 [.ref l0, .int l1, .int l2, .int l3] M (some (.int r)) M := by
  unfold F_X11_firstMost at h
  refine q_enter [some (.ref l0), some (.int l1), some (.int l2), some (.int l3), none, none] (by decide) (Nat.le_of_ble_eq_true rfl) rfl (fun K C => ?_)
  refine x_iconst (v := (0 : Int32)) C dX11_firstMost_0 (by decide) ?_
  refine q_istore (L' := [some (.ref l0), some (.int l1), some (.int l2), some (.int l3), some (.int (0 : Int32)), none]) C dX11_firstMost_1 (by decide) rfl rfl ?_
  refine x_iconst (v := (1 : Int32)) C dX11_firstMost_3 (by decide) ?_
  refine q_istore (L' := [some (.ref l0), some (.int l1), some (.int l2), some (.int l3), some (.int (0 : Int32)), some (.int (1 : Int32))]) C dX11_firstMost_4 (by decide) rfl rfl ?_
  obtain ⟨e4, he, h⟩ := q_bind h
  refine q_msk [true, true, true, true, true, true] (lW_X11_firstMost_6 C l0 l1 l2 l3 M q_fu _ _ _ he (fun w5 hs => ?_))
  · have hs := hs.symm
    subst hs
    refine q_iload C dX11_firstMost_52 rfl ?_
    exact q_iret (res := (r, M)) C dX11_firstMost_54 rfl (by decide) (by decide) (congrArg (fun z => (z, M)) (Option.some.inj h))
noncomputable def J_X11_cheapest_38_4 (l0 : Nat) (l1 : Int32) (l2 : Int32) (M : q_Mem) : Option ((Int32 × Int32) ⊕ (Int32)) := some (.inl (l1, (l2 + (1 : Int32))))
set_option maxRecDepth 100000 in
set_option maxHeartbeats 4000000 in
theorem jW_X11_cheapest_38_4 {K : q_K} {Q : State → Prop} (C : q_C K yX11_cheapest cX11_cheapest 3 (Option.some Jvm.ClassFile.FieldType.int) 2 0 0) (l0 : Nat) (l1 : Int32) (l2 : Int32) (M : q_Mem) {stp : (Int32 × Int32) ⊕ (Int32)} (h : J_X11_cheapest_38_4 l0 l1 l2 M = some stp) (kC : ∀ (l1 : Int32) (l2 : Int32), stp = .inl (l1, l2) → q_W K 3 Q 0 0 M 4 [some (.ref l0), some (.int l1), some (.int l2)] []) (kE0 : ∀ (l1 : Int32), stp = .inr l1 → q_W K 3 Q 0 0 M 44 [none, some (.int l1), none] []) : q_W K 3 Q 0 0 M 38 [some (.ref l0), some (.int l1), some (.int l2)] [] := by
  unfold J_X11_cheapest_38_4 at h
  refine x_iinc (w := (1 : Int32)) (L' := [some (.ref l0), some (.int l1), some (.int (l2 + (1 : Int32)))]) C dX11_cheapest_38 rfl (by decide) (by decide) rfl rfl ?_
  refine q_goto (tgt := 4) C dX11_cheapest_41 (by decide) ?_
  exact q_msk [true, true, true] (kC _ _ (Option.some.inj h).symm)
noncomputable def B_X11_cheapest_4 (l0 : Nat) (l1 : Int32) (l2 : Int32) (M : q_Mem) : Option ((Int32 × Int32) ⊕ (Int32)) := (q_gR M l0 11 1 (fun c1 => q_nn c1 (fun r2 => (q_gI M r2 3 4 (fun v3 => (if l2 < v3 then (q_gR M l0 11 1 (fun c4 => q_nn c4 (fun r5 => (q_ob M r5 3 ((F_X3_ofDish r5 l2 (1 : Int32) M).bind (fun u6 => (q_gR M l0 11 1 (fun c7 => q_nn c7 (fun r8 => (q_ob M r8 3 ((F_X3_ofDish r8 l1 (1 : Int32) M).bind (fun u9 => (if u6 < u9 then J_X11_cheapest_38_4 l0 l2 l2 M else J_X11_cheapest_38_4 l0 l1 l2 M))))))))))))) else some (.inr l1)))))))
set_option maxRecDepth 100000 in
set_option maxHeartbeats 4000000 in
theorem bW_X11_cheapest_4 {K : q_K} {Q : State → Prop} (C : q_C K yX11_cheapest cX11_cheapest 3 (Option.some Jvm.ClassFile.FieldType.int) 2 0 0) (l0 : Nat) (l1 : Int32) (l2 : Int32) (M : q_Mem) {stp : (Int32 × Int32) ⊕ (Int32)} (h : B_X11_cheapest_4 l0 l1 l2 M = some stp) (kC : ∀ (l1 : Int32) (l2 : Int32), stp = .inl (l1, l2) → q_W K 3 Q 0 0 M 4 [some (.ref l0), some (.int l1), some (.int l2)] []) (kE0 : ∀ (l1 : Int32), stp = .inr l1 → q_W K 3 Q 0 0 M 44 [none, some (.int l1), none] []) : q_W K 3 Q 0 0 M 4 [some (.ref l0), some (.int l1), some (.int l2)] [] := by
  unfold B_X11_cheapest_4 at h
  refine q_iload_n C dX11_cheapest_4 rfl ?_
  refine q_aload_n C dX11_cheapest_5 rfl ?_
  refine x_getR (ci := 11) (j := 1) C dX11_cheapest_6 lkF_X11_19 rfl h (fun c1 h => ?_)
  refine x_nn h (fun r2 h => ?_)
  refine x_getI (ci := 3) (j := 4) C dX11_cheapest_9 lkF_X11_349 rfl h (fun v3 h => ?_)
  refine q_icmp_ge (tgt := 44) C dX11_cheapest_12 (by decide) h (fun _ h => ?_) (fun _ h => ?_)
  · refine q_aload_n C dX11_cheapest_15 rfl ?_
    refine x_getR (ci := 11) (j := 1) C dX11_cheapest_16 lkF_X11_19 rfl h (fun c4 h => ?_)
    refine x_nn h (fun r5 h => ?_)
    refine q_iload_n C dX11_cheapest_19 rfl ?_
    refine x_iconst (v := (1 : Int32)) C dX11_cheapest_20 (by decide) ?_
    obtain ⟨hk, h⟩ := q_obE h
    obtain ⟨u6, e1, h⟩ := q_bind h
    refine x_callV0 C dX11_cheapest_21 lkM_X11_166 mV_X3_ofDish ⟨_, rfl, rfl⟩ hk (c_X3_ofDish _ _ _ _ _ _ e1) rfl rfl (Nat.le_of_ble_eq_true rfl) (by decide) (by decide) ?_
    refine q_aload_n C dX11_cheapest_24 rfl ?_
    refine x_getR (ci := 11) (j := 1) C dX11_cheapest_25 lkF_X11_19 rfl h (fun c7 h => ?_)
    refine x_nn h (fun r8 h => ?_)
    refine q_iload_n C dX11_cheapest_28 rfl ?_
    refine x_iconst (v := (1 : Int32)) C dX11_cheapest_29 (by decide) ?_
    obtain ⟨hk, h⟩ := q_obE h
    obtain ⟨u9, e1, h⟩ := q_bind h
    refine x_callV0 C dX11_cheapest_30 lkM_X11_166 mV_X3_ofDish ⟨_, rfl, rfl⟩ hk (c_X3_ofDish _ _ _ _ _ _ e1) rfl rfl (Nat.le_of_ble_eq_true rfl) (by decide) (by decide) ?_
    refine q_icmp_ge (tgt := 38) C dX11_cheapest_33 (by decide) h (fun _ h => ?_) (fun _ h => ?_)
    · refine q_iload_n C dX11_cheapest_36 rfl ?_
      refine q_istore_n (L' := [some (.ref l0), some (.int l2), some (.int l2)]) C dX11_cheapest_37 (by decide) rfl rfl ?_
      exact q_msk [true, true, true] (jW_X11_cheapest_38_4 C l0 l2 l2 M h kC kE0)
    · exact q_msk [true, true, true] (jW_X11_cheapest_38_4 C l0 l1 l2 M h kC kE0)
  · exact q_msk [false, true, false] (kE0 _ (Option.some.inj h).symm)
set_option maxRecDepth 100000 in
set_option maxHeartbeats 4000000 in
theorem lW_X11_cheapest_4 {K : q_K} {Q : State → Prop} (C : q_C K yX11_cheapest cX11_cheapest 3 (Option.some Jvm.ClassFile.FieldType.int) 2 0 0) (l0 : Nat) (M : q_Mem) (n : Nat) : ∀ (l1 : Int32) (l2 : Int32) (e : (Int32)), q_lp (fun s => B_X11_cheapest_4 l0 s.1 s.2 M) n (l1, l2) = some e → (∀ (l1 : Int32), e = l1 → q_W K 3 Q 0 0 M 44 [none, some (.int l1), none] []) → q_W K 3 Q 0 0 M 4 [some (.ref l0), some (.int l1), some (.int l2)] [] := by
  induction n with
  | zero => intro l1 l2 e h; cases h
  | succ n ih =>
    intro l1 l2 e h kE0
    obtain ⟨stp, e1, e2⟩ := q_bind h
    refine bW_X11_cheapest_4 C l0 l1 l2 M e1 (fun a0 a1 hs => ?_) (fun b0 hs => ?_)
    · subst hs; exact ih _ _ _ e2 kE0
    · subst hs; exact kE0 _ (Option.some.inj e2).symm
noncomputable def F_X11_cheapest (l0 : Nat) (M : q_Mem) : Option (Int32) := (q_lp (fun s => B_X11_cheapest_4 l0 s.1 s.2 M) q_fu ((0 : Int32), (1 : Int32))).bind (fun e10 => match e10 with | w11 => some w11)
set_option maxRecDepth 100000 in
set_option maxHeartbeats 4000000 in
theorem c_X11_cheapest (l : Launch) (G : q_G) (l0 : Nat) (M : q_Mem) {r : Int32} (h : F_X11_cheapest l0 M = some r) : q_Met l G yX11_cheapest cX11_cheapest 3 (Option.some Jvm.ClassFile.FieldType.int) 2 0 0 [.ref l0] M (some (.int r)) M := by
  unfold F_X11_cheapest at h
  refine q_enter [some (.ref l0), none, none] (by decide) (Nat.le_of_ble_eq_true rfl) rfl (fun K C => ?_)
  refine x_iconst (v := (0 : Int32)) C dX11_cheapest_0 (by decide) ?_
  refine q_istore_n (L' := [some (.ref l0), some (.int (0 : Int32)), none]) C dX11_cheapest_1 (by decide) rfl rfl ?_
  refine x_iconst (v := (1 : Int32)) C dX11_cheapest_2 (by decide) ?_
  refine q_istore_n (L' := [some (.ref l0), some (.int (0 : Int32)), some (.int (1 : Int32))]) C dX11_cheapest_3 (by decide) rfl rfl ?_
  obtain ⟨e10, he, h⟩ := q_bind h
  refine q_msk [true, true, true] (lW_X11_cheapest_4 C l0 M q_fu _ _ _ he (fun w11 hs => ?_))
  · have hs := hs.symm
    subst hs
    refine q_iload_n C dX11_cheapest_44 rfl ?_
    exact q_iret (res := (r, M)) C dX11_cheapest_45 rfl (by decide) (by decide) (congrArg (fun z => (z, M)) (Option.some.inj h))
noncomputable def J_X11_mostLiked_79_23 (l0 : Nat) (l1 : Int32) (l2 : Int32) (l3 : Int32) (l4 : Int32) (l5 : Int32) (M : q_Mem) : Option ((Int32 × Int32) ⊕ (Int32)) := some (.inl (l4, (l5 + (1 : Int32))))
set_option maxRecDepth 100000 in
set_option maxHeartbeats 4000000 in
theorem jW_X11_mostLiked_79_23 {K : q_K} {Q : State → Prop} (C : q_C K yX11_mostLiked cX11_mostLiked 6 (Option.some Jvm.ClassFile.FieldType.int) 3 0 0) (l0 : Nat) (l1 : Int32) (l2 : Int32) (l3 : Int32) (l4 : Int32) (l5 : Int32) (M : q_Mem) {stp : (Int32 × Int32) ⊕ (Int32)} (h : J_X11_mostLiked_79_23 l0 l1 l2 l3 l4 l5 M = some stp) (kC : ∀ (l4 : Int32) (l5 : Int32), stp = .inl (l4, l5) → q_W K 6 Q 0 0 M 23 [some (.ref l0), some (.int l1), some (.int l2), some (.int l3), some (.int l4), some (.int l5)] []) (kE0 : ∀ (l4 : Int32), stp = .inr l4 → q_W K 6 Q 0 0 M 85 [some (.ref l0), some (.int l1), some (.int l2), some (.int l3), some (.int l4), none] []) : q_W K 6 Q 0 0 M 79 [some (.ref l0), some (.int l1), some (.int l2), some (.int l3), some (.int l4), some (.int l5)] [] := by
  unfold J_X11_mostLiked_79_23 at h
  refine x_iinc (w := (1 : Int32)) (L' := [some (.ref l0), some (.int l1), some (.int l2), some (.int l3), some (.int l4), some (.int (l5 + (1 : Int32)))]) C dX11_mostLiked_79 rfl (by decide) (by decide) rfl rfl ?_
  refine q_goto (tgt := 23) C dX11_mostLiked_82 (by decide) ?_
  exact q_msk [true, true, true, true, true, true] (kC _ _ (Option.some.inj h).symm)
noncomputable def B_X11_mostLiked_23 (l0 : Nat) (l1 : Int32) (l2 : Int32) (l3 : Int32) (l4 : Int32) (l5 : Int32) (M : q_Mem) : Option ((Int32 × Int32) ⊕ (Int32)) := (q_gR M l0 11 1 (fun c4 => q_nn c4 (fun r5 => (q_gI M r5 3 5 (fun v6 => (if l5 < v6 then (q_gR M l0 11 9 (fun c7 => q_nn c7 (fun r8 => (q_gR M l0 11 6 (fun c9 => q_nn c9 (fun r10 => (q_ob M r8 1 ((F_X1_isThere r8 r10 l5 M).bind (fun u11 => (if u11 = 0 then J_X11_mostLiked_79_23 l0 l1 l2 l3 l4 l5 M else (q_gR M l0 11 6 (fun c12 => q_nn c12 (fun r13 => (q_gR M r13 8 0 (fun c14 => q_nn c14 (fun r15 => (q_lI M 0 r15 ((19 : Int32) + l5) (fun v16 => (q_gR M l0 11 1 (fun c17 => q_nn c17 (fun r18 => (q_ob M r18 3 ((F_X3_ofDish r18 l3 (2 : Int32) M).bind (fun u19 => (if v16 = u19 then J_X11_mostLiked_79_23 l0 l1 l2 l3 (l4 + (1 : Int32)) l5 M else J_X11_mostLiked_79_23 l0 l1 l2 l3 l4 l5 M))))))))))))))))))))))))) else some (.inr l4)))))))
set_option maxRecDepth 100000 in
set_option maxHeartbeats 4000000 in
theorem bW_X11_mostLiked_23 {K : q_K} {Q : State → Prop} (C : q_C K yX11_mostLiked cX11_mostLiked 6 (Option.some Jvm.ClassFile.FieldType.int) 3 0 0) (l0 : Nat) (l1 : Int32) (l2 : Int32) (l3 : Int32) (l4 : Int32) (l5 : Int32) (M : q_Mem) {stp : (Int32 × Int32) ⊕ (Int32)} (h : B_X11_mostLiked_23 l0 l1 l2 l3 l4 l5 M = some stp) (kC : ∀ (l4 : Int32) (l5 : Int32), stp = .inl (l4, l5) → q_W K 6 Q 0 0 M 23 [some (.ref l0), some (.int l1), some (.int l2), some (.int l3), some (.int l4), some (.int l5)] []) (kE0 : ∀ (l4 : Int32), stp = .inr l4 → q_W K 6 Q 0 0 M 85 [some (.ref l0), some (.int l1), some (.int l2), some (.int l3), some (.int l4), none] []) : q_W K 6 Q 0 0 M 23 [some (.ref l0), some (.int l1), some (.int l2), some (.int l3), some (.int l4), some (.int l5)] [] := by
  unfold B_X11_mostLiked_23 at h
  refine q_iload C dX11_mostLiked_23 rfl ?_
  refine q_aload_n C dX11_mostLiked_25 rfl ?_
  refine x_getR (ci := 11) (j := 1) C dX11_mostLiked_26 lkF_X11_19 rfl h (fun c4 h => ?_)
  refine x_nn h (fun r5 h => ?_)
  refine x_getI (ci := 3) (j := 5) C dX11_mostLiked_29 lkF_X11_336 rfl h (fun v6 h => ?_)
  refine q_icmp_ge (tgt := 85) C dX11_mostLiked_32 (by decide) h (fun _ h => ?_) (fun _ h => ?_)
  · refine q_aload_n C dX11_mostLiked_35 rfl ?_
    refine x_getR (ci := 11) (j := 9) C dX11_mostLiked_36 lkF_X11_69 rfl h (fun c7 h => ?_)
    refine x_nn h (fun r8 h => ?_)
    refine q_aload_n C dX11_mostLiked_39 rfl ?_
    refine x_getR (ci := 11) (j := 6) C dX11_mostLiked_40 lkF_X11_50 rfl h (fun c9 h => ?_)
    refine x_nn h (fun r10 h => ?_)
    refine q_iload C dX11_mostLiked_43 rfl ?_
    obtain ⟨hk, h⟩ := q_obE h
    obtain ⟨u11, e1, h⟩ := q_bind h
    refine x_callV0 C dX11_mostLiked_45 lkM_X11_268 mV_X1_isThere ⟨_, rfl, rfl⟩ hk (c_X1_isThere _ _ _ _ _ _ e1) rfl rfl (Nat.le_of_ble_eq_true rfl) (by decide) (by decide) ?_
    refine q_if_eq (tgt := 79) C dX11_mostLiked_48 (by decide) h (fun _ h => ?_) (fun _ h => ?_)
    · exact q_msk [true, true, true, true, true, true] (jW_X11_mostLiked_79_23 C l0 l1 l2 l3 l4 l5 M h kC kE0)
    · refine q_aload_n C dX11_mostLiked_51 rfl ?_
      refine x_getR (ci := 11) (j := 6) C dX11_mostLiked_52 lkF_X11_50 rfl h (fun c12 h => ?_)
      refine x_nn h (fun r13 h => ?_)
      refine x_getR (ci := 8) (j := 0) C dX11_mostLiked_55 lkF_X11_156 rfl h (fun c14 h => ?_)
      refine x_nn h (fun r15 h => ?_)
      refine x_bipush (v := (19 : Int32)) C dX11_mostLiked_58 (by decide) ?_
      refine q_iload C dX11_mostLiked_60 rfl ?_
      refine q_iadd C dX11_mostLiked_62 ?_
      refine x_iald C dX11_mostLiked_63 h (fun v16 h => ?_)
      refine q_aload_n C dX11_mostLiked_64 rfl ?_
      refine x_getR (ci := 11) (j := 1) C dX11_mostLiked_65 lkF_X11_19 rfl h (fun c17 h => ?_)
      refine x_nn h (fun r18 h => ?_)
      refine q_iload_n C dX11_mostLiked_68 rfl ?_
      refine x_iconst (v := (2 : Int32)) C dX11_mostLiked_69 (by decide) ?_
      obtain ⟨hk, h⟩ := q_obE h
      obtain ⟨u19, e1, h⟩ := q_bind h
      refine x_callV0 C dX11_mostLiked_70 lkM_X11_166 mV_X3_ofDish ⟨_, rfl, rfl⟩ hk (c_X3_ofDish _ _ _ _ _ _ e1) rfl rfl (Nat.le_of_ble_eq_true rfl) (by decide) (by decide) ?_
      refine q_icmp_ne (tgt := 79) C dX11_mostLiked_73 (by decide) h (fun _ h => ?_) (fun _ h => ?_)
      · refine x_iinc (w := (1 : Int32)) (L' := [some (.ref l0), some (.int l1), some (.int l2), some (.int l3), some (.int (l4 + (1 : Int32))), some (.int l5)]) C dX11_mostLiked_76 rfl (by decide) (by decide) rfl rfl ?_
        exact q_msk [true, true, true, true, true, true] (jW_X11_mostLiked_79_23 C l0 l1 l2 l3 (l4 + (1 : Int32)) l5 M h kC kE0)
      · exact q_msk [true, true, true, true, true, true] (jW_X11_mostLiked_79_23 C l0 l1 l2 l3 l4 l5 M h kC kE0)
  · exact q_msk [true, true, true, true, true, false] (kE0 _ (Option.some.inj h).symm)
set_option maxRecDepth 100000 in
set_option maxHeartbeats 4000000 in
theorem lW_X11_mostLiked_23 {K : q_K} {Q : State → Prop} (C : q_C K yX11_mostLiked cX11_mostLiked 6 (Option.some Jvm.ClassFile.FieldType.int) 3 0 0) (l0 : Nat) (l1 : Int32) (l2 : Int32) (l3 : Int32) (M : q_Mem) (n : Nat) : ∀ (l4 : Int32) (l5 : Int32) (e : (Int32)), q_lp (fun s => B_X11_mostLiked_23 l0 l1 l2 l3 s.1 s.2 M) n (l4, l5) = some e → (∀ (l4 : Int32), e = l4 → q_W K 6 Q 0 0 M 85 [some (.ref l0), some (.int l1), some (.int l2), some (.int l3), some (.int l4), none] []) → q_W K 6 Q 0 0 M 23 [some (.ref l0), some (.int l1), some (.int l2), some (.int l3), some (.int l4), some (.int l5)] [] := by
  induction n with
  | zero => intro l4 l5 e h; cases h
  | succ n ih =>
    intro l4 l5 e h kE0
    obtain ⟨stp, e1, e2⟩ := q_bind h
    refine bW_X11_mostLiked_23 C l0 l1 l2 l3 l4 l5 M e1 (fun a0 a1 hs => ?_) (fun b0 hs => ?_)
    · subst hs; exact ih _ _ _ e2 kE0
    · subst hs; exact kE0 _ (Option.some.inj e2).symm
noncomputable def J_X11_mostLiked_96_6 (l0 : Nat) (l1 : Int32) (l2 : Int32) (l3 : Int32) (M : q_Mem) : Option ((Int32 × Int32 × Int32) ⊕ (Int32)) := some (.inl (l1, l2, (l3 + (1 : Int32))))
set_option maxRecDepth 100000 in
set_option maxHeartbeats 4000000 in
theorem jW_X11_mostLiked_96_6 {K : q_K} {Q : State → Prop} (C : q_C K yX11_mostLiked cX11_mostLiked 6 (Option.some Jvm.ClassFile.FieldType.int) 3 0 0) (l0 : Nat) (l1 : Int32) (l2 : Int32) (l3 : Int32) (M : q_Mem) {stp : (Int32 × Int32 × Int32) ⊕ (Int32)} (h : J_X11_mostLiked_96_6 l0 l1 l2 l3 M = some stp) (kC : ∀ (l1 : Int32) (l2 : Int32) (l3 : Int32), stp = .inl (l1, l2, l3) → q_W K 6 Q 0 0 M 6 [some (.ref l0), some (.int l1), some (.int l2), some (.int l3), none, none] []) (kE0 : ∀ (l1 : Int32), stp = .inr l1 → q_W K 6 Q 0 0 M 102 [none, some (.int l1), none, none, none, none] []) : q_W K 6 Q 0 0 M 96 [some (.ref l0), some (.int l1), some (.int l2), some (.int l3), none, none] [] := by
  unfold J_X11_mostLiked_96_6 at h
  refine x_iinc (w := (1 : Int32)) (L' := [some (.ref l0), some (.int l1), some (.int l2), some (.int (l3 + (1 : Int32))), none, none]) C dX11_mostLiked_96 rfl (by decide) (by decide) rfl rfl ?_
  refine q_goto (tgt := 6) C dX11_mostLiked_99 (by decide) ?_
  exact q_msk [true, true, true, true, false, false] (kC _ _ _ (Option.some.inj h).symm)
noncomputable def B_X11_mostLiked_6 (l0 : Nat) (l1 : Int32) (l2 : Int32) (l3 : Int32) (M : q_Mem) : Option ((Int32 × Int32 × Int32) ⊕ (Int32)) := (q_gR M l0 11 1 (fun c1 => q_nn c1 (fun r2 => (q_gI M r2 3 4 (fun v3 => (if l3 < v3 then (q_lp (fun s => B_X11_mostLiked_23 l0 l1 l2 l3 s.1 s.2 M) q_fu ((0 : Int32), (0 : Int32))).bind (fun e20 => match e20 with | w21 => (if l2 < w21 then J_X11_mostLiked_96_6 l0 l3 w21 l3 M else J_X11_mostLiked_96_6 l0 l1 l2 l3 M)) else some (.inr l1)))))))
set_option maxRecDepth 100000 in
set_option maxHeartbeats 4000000 in
theorem bW_X11_mostLiked_6 {K : q_K} {Q : State → Prop} (C : q_C K yX11_mostLiked cX11_mostLiked 6 (Option.some Jvm.ClassFile.FieldType.int) 3 0 0) (l0 : Nat) (l1 : Int32) (l2 : Int32) (l3 : Int32) (M : q_Mem) {stp : (Int32 × Int32 × Int32) ⊕ (Int32)} (h : B_X11_mostLiked_6 l0 l1 l2 l3 M = some stp) (kC : ∀ (l1 : Int32) (l2 : Int32) (l3 : Int32), stp = .inl (l1, l2, l3) → q_W K 6 Q 0 0 M 6 [some (.ref l0), some (.int l1), some (.int l2), some (.int l3), none, none] []) (kE0 : ∀ (l1 : Int32), stp = .inr l1 → q_W K 6 Q 0 0 M 102 [none, some (.int l1), none, none, none, none] []) : q_W K 6 Q 0 0 M 6 [some (.ref l0), some (.int l1), some (.int l2), some (.int l3), none, none] [] := by
  unfold B_X11_mostLiked_6 at h
  refine q_iload_n C dX11_mostLiked_6 rfl ?_
  refine q_aload_n C dX11_mostLiked_7 rfl ?_
  refine x_getR (ci := 11) (j := 1) C dX11_mostLiked_8 lkF_X11_19 rfl h (fun c1 h => ?_)
  refine x_nn h (fun r2 h => ?_)
  refine x_getI (ci := 3) (j := 4) C dX11_mostLiked_11 lkF_X11_349 rfl h (fun v3 h => ?_)
  refine q_icmp_ge (tgt := 102) C dX11_mostLiked_14 (by decide) h (fun _ h => ?_) (fun _ h => ?_)
  · refine x_iconst (v := (0 : Int32)) C dX11_mostLiked_17 (by decide) ?_
    refine q_istore (L' := [some (.ref l0), some (.int l1), some (.int l2), some (.int l3), some (.int (0 : Int32)), none]) C dX11_mostLiked_18 (by decide) rfl rfl ?_
    refine x_iconst (v := (0 : Int32)) C dX11_mostLiked_20 (by decide) ?_
    refine q_istore (L' := [some (.ref l0), some (.int l1), some (.int l2), some (.int l3), some (.int (0 : Int32)), some (.int (0 : Int32))]) C dX11_mostLiked_21 (by decide) rfl rfl ?_
    obtain ⟨e20, he, h⟩ := q_bind h
    refine q_msk [true, true, true, true, true, true] (lW_X11_mostLiked_23 C l0 l1 l2 l3 M q_fu _ _ _ he (fun w21 hs => ?_))
    · have hs := hs.symm
      subst hs
      refine q_iload C dX11_mostLiked_85 rfl ?_
      refine q_iload_n C dX11_mostLiked_87 rfl ?_
      refine q_icmp_le (tgt := 96) C dX11_mostLiked_88 (by decide) h (fun _ h => ?_) (fun _ h => ?_)
      · refine q_iload C dX11_mostLiked_91 rfl ?_
        refine q_istore_n (L' := [some (.ref l0), some (.int l1), some (.int w21), some (.int l3), some (.int w21), none]) C dX11_mostLiked_93 (by decide) rfl rfl ?_
        refine q_iload_n C dX11_mostLiked_94 rfl ?_
        refine q_istore_n (L' := [some (.ref l0), some (.int l3), some (.int w21), some (.int l3), some (.int w21), none]) C dX11_mostLiked_95 (by decide) rfl rfl ?_
        exact q_msk [true, true, true, true, false, false] (jW_X11_mostLiked_96_6 C l0 l3 w21 l3 M h kC kE0)
      · exact q_msk [true, true, true, true, false, false] (jW_X11_mostLiked_96_6 C l0 l1 l2 l3 M h kC kE0)
  · exact q_msk [false, true, false, false, false, false] (kE0 _ (Option.some.inj h).symm)
set_option maxRecDepth 100000 in
set_option maxHeartbeats 4000000 in
theorem lW_X11_mostLiked_6 {K : q_K} {Q : State → Prop} (C : q_C K yX11_mostLiked cX11_mostLiked 6 (Option.some Jvm.ClassFile.FieldType.int) 3 0 0) (l0 : Nat) (M : q_Mem) (n : Nat) : ∀ (l1 : Int32) (l2 : Int32) (l3 : Int32) (e : (Int32)), q_lp (fun s => B_X11_mostLiked_6 l0 s.1 s.2.1 s.2.2 M) n (l1, l2, l3) = some e → (∀ (l1 : Int32), e = l1 → q_W K 6 Q 0 0 M 102 [none, some (.int l1), none, none, none, none] []) → q_W K 6 Q 0 0 M 6 [some (.ref l0), some (.int l1), some (.int l2), some (.int l3), none, none] [] := by
  induction n with
  | zero => intro l1 l2 l3 e h; cases h
  | succ n ih =>
    intro l1 l2 l3 e h kE0
    obtain ⟨stp, e1, e2⟩ := q_bind h
    refine bW_X11_mostLiked_6 C l0 l1 l2 l3 M e1 (fun a0 a1 a2 hs => ?_) (fun b0 hs => ?_)
    · subst hs; exact ih _ _ _ _ e2 kE0
    · subst hs; exact kE0 _ (Option.some.inj e2).symm
noncomputable def F_X11_mostLiked (l0 : Nat) (M : q_Mem) : Option (Int32) := (q_lp (fun s => B_X11_mostLiked_6 l0 s.1 s.2.1 s.2.2 M) q_fu ((0 : Int32), (-1 : Int32), (0 : Int32))).bind (fun e22 => match e22 with | w23 => some w23)
set_option maxRecDepth 100000 in
set_option maxHeartbeats 4000000 in
theorem c_X11_mostLiked (l : Launch) (G : q_G) (l0 : Nat) (M : q_Mem) {r : Int32} (h : F_X11_mostLiked l0 M = some r) : q_Met l G yX11_mostLiked cX11_mostLiked 6 (Option.some Jvm.ClassFile.FieldType.int) 3 0 0 [.ref l0] M (some (.int r)) M := by
  unfold F_X11_mostLiked at h
  refine q_enter [some (.ref l0), none, none, none, none, none] (by decide) (Nat.le_of_ble_eq_true rfl) rfl (fun K C => ?_)
  refine x_iconst (v := (0 : Int32)) C dX11_mostLiked_0 (by decide) ?_
  refine q_istore_n (L' := [some (.ref l0), some (.int (0 : Int32)), none, none, none, none]) C dX11_mostLiked_1 (by decide) rfl rfl ?_
  refine x_iconst (v := (-1 : Int32)) C dX11_mostLiked_2 (by decide) ?_
  refine q_istore_n (L' := [some (.ref l0), some (.int (0 : Int32)), some (.int (-1 : Int32)), none, none, none]) C dX11_mostLiked_3 (by decide) rfl rfl ?_
  refine x_iconst (v := (0 : Int32)) C dX11_mostLiked_4 (by decide) ?_
  refine q_istore_n (L' := [some (.ref l0), some (.int (0 : Int32)), some (.int (-1 : Int32)), some (.int (0 : Int32)), none, none]) C dX11_mostLiked_5 (by decide) rfl rfl ?_
  obtain ⟨e22, he, h⟩ := q_bind h
  refine q_msk [true, true, true, true, false, false] (lW_X11_mostLiked_6 C l0 M q_fu _ _ _ _ he (fun w23 hs => ?_))
  · have hs := hs.symm
    subst hs
    refine q_iload_n C dX11_mostLiked_102 rfl ?_
    exact q_iret (res := (r, M)) C dX11_mostLiked_103 rfl (by decide) (by decide) (congrArg (fun z => (z, M)) (Option.some.inj h))
noncomputable def J_X11_lastDay_55_4 (l0 : Nat) (l1 : Int32) (l2 : Int32) (M : q_Mem) : Option ((Int32 × Int32) ⊕ (Int32)) := some (.inl (l1, (l2 + (1 : Int32))))
set_option maxRecDepth 100000 in
set_option maxHeartbeats 4000000 in
theorem jW_X11_lastDay_55_4 {K : q_K} {Q : State → Prop} (C : q_C K yX11_lastDay cX11_lastDay 3 (Option.some Jvm.ClassFile.FieldType.int) 2 0 0) (l0 : Nat) (l1 : Int32) (l2 : Int32) (M : q_Mem) {stp : (Int32 × Int32) ⊕ (Int32)} (h : J_X11_lastDay_55_4 l0 l1 l2 M = some stp) (kC : ∀ (l1 : Int32) (l2 : Int32), stp = .inl (l1, l2) → q_W K 3 Q 0 0 M 4 [some (.ref l0), some (.int l1), some (.int l2)] []) (kE0 : ∀ (l1 : Int32), stp = .inr l1 → q_W K 3 Q 0 0 M 61 [none, some (.int l1), none] []) : q_W K 3 Q 0 0 M 55 [some (.ref l0), some (.int l1), some (.int l2)] [] := by
  unfold J_X11_lastDay_55_4 at h
  refine x_iinc (w := (1 : Int32)) (L' := [some (.ref l0), some (.int l1), some (.int (l2 + (1 : Int32)))]) C dX11_lastDay_55 rfl (by decide) (by decide) rfl rfl ?_
  refine q_goto (tgt := 4) C dX11_lastDay_58 (by decide) ?_
  exact q_msk [true, true, true] (kC _ _ (Option.some.inj h).symm)
noncomputable def B_X11_lastDay_4 (l0 : Nat) (l1 : Int32) (l2 : Int32) (M : q_Mem) : Option ((Int32 × Int32) ⊕ (Int32)) := (q_gR M l0 11 1 (fun c1 => q_nn c1 (fun r2 => (q_gI M r2 3 5 (fun v3 => (if l2 < v3 then (q_gR M l0 11 6 (fun c4 => q_nn c4 (fun r5 => (q_ob M r5 8 ((F_X8_hasLeft r5 l2 M).bind (fun u6 => (if u6 = 0 then (q_gR M l0 11 1 (fun c7 => q_nn c7 (fun r8 => (q_ob M r8 3 ((F_X3_ofGuest r8 l2 (0 : Int32) M).bind (fun u9 => (q_gR M l0 11 6 (fun c10 => q_nn c10 (fun r11 => (q_gR M r11 8 0 (fun c12 => q_nn c12 (fun r13 => (q_lI M 0 r13 ((13 : Int32) + l2) (fun v14 => J_X11_lastDay_55_4 l0 (q_mx l1 ((u9 + v14) - (1 : Int32))) l2 M)))))))))))))) else J_X11_lastDay_55_4 l0 l1 l2 M))))))) else some (.inr l1)))))))
set_option maxRecDepth 100000 in
set_option maxHeartbeats 4000000 in
theorem bW_X11_lastDay_4 {K : q_K} {Q : State → Prop} (C : q_C K yX11_lastDay cX11_lastDay 3 (Option.some Jvm.ClassFile.FieldType.int) 2 0 0) (l0 : Nat) (l1 : Int32) (l2 : Int32) (M : q_Mem) {stp : (Int32 × Int32) ⊕ (Int32)} (h : B_X11_lastDay_4 l0 l1 l2 M = some stp) (kC : ∀ (l1 : Int32) (l2 : Int32), stp = .inl (l1, l2) → q_W K 3 Q 0 0 M 4 [some (.ref l0), some (.int l1), some (.int l2)] []) (kE0 : ∀ (l1 : Int32), stp = .inr l1 → q_W K 3 Q 0 0 M 61 [none, some (.int l1), none] []) : q_W K 3 Q 0 0 M 4 [some (.ref l0), some (.int l1), some (.int l2)] [] := by
  unfold B_X11_lastDay_4 at h
  refine q_iload_n C dX11_lastDay_4 rfl ?_
  refine q_aload_n C dX11_lastDay_5 rfl ?_
  refine x_getR (ci := 11) (j := 1) C dX11_lastDay_6 lkF_X11_19 rfl h (fun c1 h => ?_)
  refine x_nn h (fun r2 h => ?_)
  refine x_getI (ci := 3) (j := 5) C dX11_lastDay_9 lkF_X11_336 rfl h (fun v3 h => ?_)
  refine q_icmp_ge (tgt := 61) C dX11_lastDay_12 (by decide) h (fun _ h => ?_) (fun _ h => ?_)
  · refine q_aload_n C dX11_lastDay_15 rfl ?_
    refine x_getR (ci := 11) (j := 6) C dX11_lastDay_16 lkF_X11_50 rfl h (fun c4 h => ?_)
    refine x_nn h (fun r5 h => ?_)
    refine q_iload_n C dX11_lastDay_19 rfl ?_
    obtain ⟨hk, h⟩ := q_obE h
    obtain ⟨u6, e1, h⟩ := q_bind h
    refine x_callV0 C dX11_lastDay_20 lkM_X11_183 mV_X8_hasLeft ⟨_, rfl, rfl⟩ hk (c_X8_hasLeft _ _ _ _ _ e1) rfl rfl (Nat.le_of_ble_eq_true rfl) (by decide) (by decide) ?_
    refine q_if_ne (tgt := 55) C dX11_lastDay_23 (by decide) h (fun _ h => ?_) (fun _ h => ?_)
    · refine q_iload_n C dX11_lastDay_26 rfl ?_
      refine q_aload_n C dX11_lastDay_27 rfl ?_
      refine x_getR (ci := 11) (j := 1) C dX11_lastDay_28 lkF_X11_19 rfl h (fun c7 h => ?_)
      refine x_nn h (fun r8 h => ?_)
      refine q_iload_n C dX11_lastDay_31 rfl ?_
      refine x_iconst (v := (0 : Int32)) C dX11_lastDay_32 (by decide) ?_
      obtain ⟨hk, h⟩ := q_obE h
      obtain ⟨u9, e1, h⟩ := q_bind h
      refine x_callV0 C dX11_lastDay_33 lkM_X11_180 mV_X3_ofGuest ⟨_, rfl, rfl⟩ hk (c_X3_ofGuest _ _ _ _ _ _ e1) rfl rfl (Nat.le_of_ble_eq_true rfl) (by decide) (by decide) ?_
      refine q_aload_n C dX11_lastDay_36 rfl ?_
      refine x_getR (ci := 11) (j := 6) C dX11_lastDay_37 lkF_X11_50 rfl h (fun c10 h => ?_)
      refine x_nn h (fun r11 h => ?_)
      refine x_getR (ci := 8) (j := 0) C dX11_lastDay_40 lkF_X11_156 rfl h (fun c12 h => ?_)
      refine x_nn h (fun r13 h => ?_)
      refine x_bipush (v := (13 : Int32)) C dX11_lastDay_43 (by decide) ?_
      refine q_iload_n C dX11_lastDay_45 rfl ?_
      refine q_iadd C dX11_lastDay_46 ?_
      refine x_iald C dX11_lastDay_47 h (fun v14 h => ?_)
      refine q_iadd C dX11_lastDay_48 ?_
      refine x_iconst (v := (1 : Int32)) C dX11_lastDay_49 (by decide) ?_
      refine q_isub C dX11_lastDay_50 ?_
      refine q_max C dX11_lastDay_51 wd_1074 wd_467 wd_15 wd_468 (by decide) (Nat.le_of_ble_eq_true rfl) (by decide) ?_
      refine q_istore_n (L' := [some (.ref l0), some (.int (q_mx l1 ((u9 + v14) - (1 : Int32)))), some (.int l2)]) C dX11_lastDay_54 (by decide) rfl rfl ?_
      exact q_msk [true, true, true] (jW_X11_lastDay_55_4 C l0 (q_mx l1 ((u9 + v14) - (1 : Int32))) l2 M h kC kE0)
    · exact q_msk [true, true, true] (jW_X11_lastDay_55_4 C l0 l1 l2 M h kC kE0)
  · exact q_msk [false, true, false] (kE0 _ (Option.some.inj h).symm)
set_option maxRecDepth 100000 in
set_option maxHeartbeats 4000000 in
theorem lW_X11_lastDay_4 {K : q_K} {Q : State → Prop} (C : q_C K yX11_lastDay cX11_lastDay 3 (Option.some Jvm.ClassFile.FieldType.int) 2 0 0) (l0 : Nat) (M : q_Mem) (n : Nat) : ∀ (l1 : Int32) (l2 : Int32) (e : (Int32)), q_lp (fun s => B_X11_lastDay_4 l0 s.1 s.2 M) n (l1, l2) = some e → (∀ (l1 : Int32), e = l1 → q_W K 3 Q 0 0 M 61 [none, some (.int l1), none] []) → q_W K 3 Q 0 0 M 4 [some (.ref l0), some (.int l1), some (.int l2)] [] := by
  induction n with
  | zero => intro l1 l2 e h; cases h
  | succ n ih =>
    intro l1 l2 e h kE0
    obtain ⟨stp, e1, e2⟩ := q_bind h
    refine bW_X11_lastDay_4 C l0 l1 l2 M e1 (fun a0 a1 hs => ?_) (fun b0 hs => ?_)
    · subst hs; exact ih _ _ _ e2 kE0
    · subst hs; exact kE0 _ (Option.some.inj e2).symm
noncomputable def F_X11_lastDay (l0 : Nat) (M : q_Mem) : Option (Int32) := (q_lp (fun s => B_X11_lastDay_4 l0 s.1 s.2 M) q_fu ((-1 : Int32), (0 : Int32))).bind (fun e15 => match e15 with | w16 => some w16)
set_option maxRecDepth 100000 in
set_option maxHeartbeats 4000000 in
theorem c_X11_lastDay (l : Launch) (G : q_G) (l0 : Nat) (M : q_Mem) {r : Int32} (h : F_X11_lastDay l0 M = some r) : q_Met l G yX11_lastDay cX11_lastDay 3 (Option.some Jvm.ClassFile.FieldType.int) 2 0 0 [.ref l0] M (some (.int r)) M := by
  unfold F_X11_lastDay at h
  refine q_enter [some (.ref l0), none, none] (by decide) (Nat.le_of_ble_eq_true rfl) rfl (fun K C => ?_)
  refine x_iconst (v := (-1 : Int32)) C dX11_lastDay_0 (by decide) ?_
  refine q_istore_n (L' := [some (.ref l0), some (.int (-1 : Int32)), none]) C dX11_lastDay_1 (by decide) rfl rfl ?_
  refine x_iconst (v := (0 : Int32)) C dX11_lastDay_2 (by decide) ?_
  refine q_istore_n (L' := [some (.ref l0), some (.int (-1 : Int32)), some (.int (0 : Int32))]) C dX11_lastDay_3 (by decide) rfl rfl ?_
  obtain ⟨e15, he, h⟩ := q_bind h
  refine q_msk [true, true, true] (lW_X11_lastDay_4 C l0 M q_fu _ _ _ he (fun w16 hs => ?_))
  · have hs := hs.symm
    subst hs
    refine q_iload_n C dX11_lastDay_61 rfl ?_
    exact q_iret (res := (r, M)) C dX11_lastDay_62 rfl (by decide) (by decide) (congrArg (fun z => (z, M)) (Option.some.inj h))
noncomputable def J_X11_takings_42_4 (l0 : Nat) (l1 : Int32) (l2 : Int32) (M : q_Mem) : Option ((Int32 × Int32) ⊕ (Int32)) := some (.inl (l1, (l2 + (1 : Int32))))
set_option maxRecDepth 100000 in
set_option maxHeartbeats 4000000 in
theorem jW_X11_takings_42_4 {K : q_K} {Q : State → Prop} (C : q_C K yX11_takings cX11_takings 3 (Option.some Jvm.ClassFile.FieldType.int) 3 0 0) (l0 : Nat) (l1 : Int32) (l2 : Int32) (M : q_Mem) {stp : (Int32 × Int32) ⊕ (Int32)} (h : J_X11_takings_42_4 l0 l1 l2 M = some stp) (kC : ∀ (l1 : Int32) (l2 : Int32), stp = .inl (l1, l2) → q_W K 3 Q 0 0 M 4 [some (.ref l0), some (.int l1), some (.int l2)] []) (kE0 : ∀ (l1 : Int32), stp = .inr l1 → q_W K 3 Q 0 0 M 48 [none, some (.int l1), none] []) : q_W K 3 Q 0 0 M 42 [some (.ref l0), some (.int l1), some (.int l2)] [] := by
  unfold J_X11_takings_42_4 at h
  refine x_iinc (w := (1 : Int32)) (L' := [some (.ref l0), some (.int l1), some (.int (l2 + (1 : Int32)))]) C dX11_takings_42 rfl (by decide) (by decide) rfl rfl ?_
  refine q_goto (tgt := 4) C dX11_takings_45 (by decide) ?_
  exact q_msk [true, true, true] (kC _ _ (Option.some.inj h).symm)
noncomputable def B_X11_takings_4 (l0 : Nat) (l1 : Int32) (l2 : Int32) (M : q_Mem) : Option ((Int32 × Int32) ⊕ (Int32)) := (q_gR M l0 11 1 (fun c1 => q_nn c1 (fun r2 => (q_gI M r2 3 5 (fun v3 => (if l2 < v3 then (q_gR M l0 11 9 (fun c4 => q_nn c4 (fun r5 => (q_gR M l0 11 6 (fun c6 => q_nn c6 (fun r7 => (q_ob M r5 1 ((F_X1_isThere r5 r7 l2 M).bind (fun u8 => (if u8 = 0 then J_X11_takings_42_4 l0 l1 l2 M else (q_gR M l0 11 1 (fun c9 => q_nn c9 (fun r10 => (q_ob M r10 3 ((F_X3_ofGuest r10 l2 (3 : Int32) M).bind (fun u11 => J_X11_takings_42_4 l0 (l1 + u11) l2 M)))))))))))))))) else some (.inr l1)))))))
set_option maxRecDepth 100000 in
set_option maxHeartbeats 4000000 in
theorem bW_X11_takings_4 {K : q_K} {Q : State → Prop} (C : q_C K yX11_takings cX11_takings 3 (Option.some Jvm.ClassFile.FieldType.int) 3 0 0) (l0 : Nat) (l1 : Int32) (l2 : Int32) (M : q_Mem) {stp : (Int32 × Int32) ⊕ (Int32)} (h : B_X11_takings_4 l0 l1 l2 M = some stp) (kC : ∀ (l1 : Int32) (l2 : Int32), stp = .inl (l1, l2) → q_W K 3 Q 0 0 M 4 [some (.ref l0), some (.int l1), some (.int l2)] []) (kE0 : ∀ (l1 : Int32), stp = .inr l1 → q_W K 3 Q 0 0 M 48 [none, some (.int l1), none] []) : q_W K 3 Q 0 0 M 4 [some (.ref l0), some (.int l1), some (.int l2)] [] := by
  unfold B_X11_takings_4 at h
  refine q_iload_n C dX11_takings_4 rfl ?_
  refine q_aload_n C dX11_takings_5 rfl ?_
  refine x_getR (ci := 11) (j := 1) C dX11_takings_6 lkF_X11_19 rfl h (fun c1 h => ?_)
  refine x_nn h (fun r2 h => ?_)
  refine x_getI (ci := 3) (j := 5) C dX11_takings_9 lkF_X11_336 rfl h (fun v3 h => ?_)
  refine q_icmp_ge (tgt := 48) C dX11_takings_12 (by decide) h (fun _ h => ?_) (fun _ h => ?_)
  · refine q_aload_n C dX11_takings_15 rfl ?_
    refine x_getR (ci := 11) (j := 9) C dX11_takings_16 lkF_X11_69 rfl h (fun c4 h => ?_)
    refine x_nn h (fun r5 h => ?_)
    refine q_aload_n C dX11_takings_19 rfl ?_
    refine x_getR (ci := 11) (j := 6) C dX11_takings_20 lkF_X11_50 rfl h (fun c6 h => ?_)
    refine x_nn h (fun r7 h => ?_)
    refine q_iload_n C dX11_takings_23 rfl ?_
    obtain ⟨hk, h⟩ := q_obE h
    obtain ⟨u8, e1, h⟩ := q_bind h
    refine x_callV0 C dX11_takings_24 lkM_X11_268 mV_X1_isThere ⟨_, rfl, rfl⟩ hk (c_X1_isThere _ _ _ _ _ _ e1) rfl rfl (Nat.le_of_ble_eq_true rfl) (by decide) (by decide) ?_
    refine q_if_eq (tgt := 42) C dX11_takings_27 (by decide) h (fun _ h => ?_) (fun _ h => ?_)
    · exact q_msk [true, true, true] (jW_X11_takings_42_4 C l0 l1 l2 M h kC kE0)
    · refine q_iload_n C dX11_takings_30 rfl ?_
      refine q_aload_n C dX11_takings_31 rfl ?_
      refine x_getR (ci := 11) (j := 1) C dX11_takings_32 lkF_X11_19 rfl h (fun c9 h => ?_)
      refine x_nn h (fun r10 h => ?_)
      refine q_iload_n C dX11_takings_35 rfl ?_
      refine x_iconst (v := (3 : Int32)) C dX11_takings_36 (by decide) ?_
      obtain ⟨hk, h⟩ := q_obE h
      obtain ⟨u11, e1, h⟩ := q_bind h
      refine x_callV0 C dX11_takings_37 lkM_X11_180 mV_X3_ofGuest ⟨_, rfl, rfl⟩ hk (c_X3_ofGuest _ _ _ _ _ _ e1) rfl rfl (Nat.le_of_ble_eq_true rfl) (by decide) (by decide) ?_
      refine q_iadd C dX11_takings_40 ?_
      refine q_istore_n (L' := [some (.ref l0), some (.int (l1 + u11)), some (.int l2)]) C dX11_takings_41 (by decide) rfl rfl ?_
      exact q_msk [true, true, true] (jW_X11_takings_42_4 C l0 (l1 + u11) l2 M h kC kE0)
  · exact q_msk [false, true, false] (kE0 _ (Option.some.inj h).symm)
set_option maxRecDepth 100000 in
set_option maxHeartbeats 4000000 in
theorem lW_X11_takings_4 {K : q_K} {Q : State → Prop} (C : q_C K yX11_takings cX11_takings 3 (Option.some Jvm.ClassFile.FieldType.int) 3 0 0) (l0 : Nat) (M : q_Mem) (n : Nat) : ∀ (l1 : Int32) (l2 : Int32) (e : (Int32)), q_lp (fun s => B_X11_takings_4 l0 s.1 s.2 M) n (l1, l2) = some e → (∀ (l1 : Int32), e = l1 → q_W K 3 Q 0 0 M 48 [none, some (.int l1), none] []) → q_W K 3 Q 0 0 M 4 [some (.ref l0), some (.int l1), some (.int l2)] [] := by
  induction n with
  | zero => intro l1 l2 e h; cases h
  | succ n ih =>
    intro l1 l2 e h kE0
    obtain ⟨stp, e1, e2⟩ := q_bind h
    refine bW_X11_takings_4 C l0 l1 l2 M e1 (fun a0 a1 hs => ?_) (fun b0 hs => ?_)
    · subst hs; exact ih _ _ _ e2 kE0
    · subst hs; exact kE0 _ (Option.some.inj e2).symm
noncomputable def F_X11_takings (l0 : Nat) (M : q_Mem) : Option (Int32) := (q_lp (fun s => B_X11_takings_4 l0 s.1 s.2 M) q_fu ((0 : Int32), (0 : Int32))).bind (fun e12 => match e12 with | w13 => some w13)
set_option maxRecDepth 100000 in
set_option maxHeartbeats 4000000 in
theorem c_X11_takings (l : Launch) (G : q_G) (l0 : Nat) (M : q_Mem) {r : Int32} (h : F_X11_takings l0 M = some r) : q_Met l G yX11_takings cX11_takings 3 (Option.some Jvm.ClassFile.FieldType.int) 3 0 0 [.ref l0] M (some (.int r)) M := by
  unfold F_X11_takings at h
  refine q_enter [some (.ref l0), none, none] (by decide) (Nat.le_of_ble_eq_true rfl) rfl (fun K C => ?_)
  refine x_iconst (v := (0 : Int32)) C dX11_takings_0 (by decide) ?_
  refine q_istore_n (L' := [some (.ref l0), some (.int (0 : Int32)), none]) C dX11_takings_1 (by decide) rfl rfl ?_
  refine x_iconst (v := (0 : Int32)) C dX11_takings_2 (by decide) ?_
  refine q_istore_n (L' := [some (.ref l0), some (.int (0 : Int32)), some (.int (0 : Int32))]) C dX11_takings_3 (by decide) rfl rfl ?_
  obtain ⟨e12, he, h⟩ := q_bind h
  refine q_msk [true, true, true] (lW_X11_takings_4 C l0 M q_fu _ _ _ he (fun w13 hs => ?_))
  · have hs := hs.symm
    subst hs
    refine q_iload_n C dX11_takings_48 rfl ?_
    exact q_iret (res := (r, M)) C dX11_takings_49 rfl (by decide) (by decide) (congrArg (fun z => (z, M)) (Option.some.inj h))
noncomputable def F_X11_all (l0 : Nat) (l1 : Int32) (M : q_Mem) : Option (Int32 × q_Mem) := (q_gI M l0 11 18 (fun v1 => (if v1 = 0 then some ((-1 : Int32), M) else (q_gR M l0 11 9 (fun c2 => q_nn c2 (fun r3 => (q_gR M l0 11 6 (fun c4 => q_nn c4 (fun r5 => (q_ob M r3 1 ((F_X1_lay r3 r5 M).bind (fun x => match x with | (_, M7) => (if l1 = (0 : Int32) then (q_gR M7 l0 11 6 (fun c8 => q_nn c8 (fun r9 => (q_gR M7 r9 8 0 (fun c10 => q_nn c10 (fun r11 => (q_gR M7 l0 11 1 (fun c12 => q_nn c12 (fun r13 => (q_gI M7 r13 3 5 (fun v14 => ((F_X11_firstMost r11 (25 : Int32) (1 : Int32) v14 M7).bind (fun u15 => some (u15, M7)))))))))))))) else (if l1 = (1 : Int32) then (q_gR M7 l0 11 6 (fun c16 => q_nn c16 (fun r17 => (q_gR M7 r17 8 0 (fun c18 => q_nn c18 (fun r19 => (q_gR M7 l0 11 1 (fun c20 => q_nn c20 (fun r21 => (q_gI M7 r21 3 5 (fun v22 => ((F_X11_firstMost r19 (13 : Int32) (1 : Int32) v22 M7).bind (fun u23 => some (u23, M7)))))))))))))) else (if l1 = (2 : Int32) then (q_gR M7 l0 11 1 (fun c24 => q_nn c24 (fun r25 => (q_gR M7 r25 3 2 (fun c26 => q_nn c26 (fun r27 => (q_gR M7 l0 11 1 (fun c28 => q_nn c28 (fun r29 => (q_gI M7 r29 3 5 (fun v30 => ((F_X11_firstMost r27 (3 : Int32) (4 : Int32) v30 M7).bind (fun u31 => some (u31, M7)))))))))))))) else (if l1 = (3 : Int32) then (q_gR M7 l0 11 1 (fun c32 => q_nn c32 (fun r33 => (q_gR M7 r33 3 1 (fun c34 => q_nn c34 (fun r35 => (q_gR M7 l0 11 1 (fun c36 => q_nn c36 (fun r37 => (q_gI M7 r37 3 4 (fun v38 => ((F_X11_firstMost r35 (0 : Int32) (3 : Int32) v38 M7).bind (fun u39 => some (u39, M7)))))))))))))) else (if l1 = (4 : Int32) then (q_ob M7 l0 11 ((F_X11_cheapest l0 M7).bind (fun u40 => some (u40, M7)))) else (if l1 = (5 : Int32) then (q_ob M7 l0 11 ((F_X11_mostLiked l0 M7).bind (fun u41 => some (u41, M7)))) else (if l1 = (6 : Int32) then (q_gR M7 l0 11 9 (fun c42 => q_nn c42 (fun r43 => (q_gI M7 r43 1 11 (fun v44 => some (v44, M7)))))) else (if l1 = (7 : Int32) then (q_ob M7 l0 11 ((F_X11_lastDay l0 M7).bind (fun u45 => some (u45, M7)))) else (if l1 = (8 : Int32) then (q_ob M7 l0 11 ((F_X11_takings l0 M7).bind (fun u46 => some (u46, M7)))) else (if l1 = (9 : Int32) then (q_gR M7 l0 11 9 (fun c47 => q_nn c47 (fun r48 => (q_gI M7 r48 1 5 (fun v49 => some (v49, M7)))))) else (if l1 = (10 : Int32) then (q_gR M7 l0 11 9 (fun c50 => q_nn c50 (fun r51 => (q_gI M7 r51 1 4 (fun v52 => (q_gR M7 l0 11 9 (fun c53 => q_nn c53 (fun r54 => (q_gI M7 r54 1 10 (fun v55 => some ((v52 &&& (v55 ^^^ (-1 : Int32))), M7))))))))))) else (if l1 = (11 : Int32) then (q_gR M7 l0 11 11 (fun c56 => q_nn c56 (fun r57 => (q_gR M7 l0 11 6 (fun c58 => q_nn c58 (fun r59 => (q_ob M7 r57 2 ((F_X2_daysToNothing r57 r59 M7).bind (fun x => match x with | (u60, M61) => some (u60, M61)))))))))) else (if l1 = (12 : Int32) then (q_gR M7 l0 11 11 (fun c62 => q_nn c62 (fun r63 => (q_gR M7 l0 11 6 (fun c64 => q_nn c64 (fun r65 => (q_ob M7 r63 2 ((F_X2_fullestDay r63 r65 M7).bind (fun x => match x with | (u66, M67) => some (u66, M67)))))))))) else some ((-1 : Int32), M7))))))))))))))))))))))))))
set_option maxRecDepth 100000 in
set_option maxHeartbeats 4000000 in
theorem c_X11_all (l : Launch) (G : q_G) (l0 : Nat) (l1 : Int32) (M : q_Mem) {r : Int32} {M' : q_Mem} (h : F_X11_all l0 l1 M = some (r, M')) : q_Met l G yX11_all cX11_all 2 (Option.some Jvm.ClassFile.FieldType.int) 7 0 0 [.ref l0, .int l1] M (some (.int r)) M' := by
  unfold F_X11_all at h
  refine q_enter [some (.ref l0), some (.int l1)] (by decide) (Nat.le_of_ble_eq_true rfl) rfl (fun K C => ?_)
  refine q_aload_n C dX11_all_0 rfl ?_
  refine x_getI (ci := 11) (j := 18) C dX11_all_1 lkF_X11_116 rfl h (fun v1 h => ?_)
  refine q_if_ne (tgt := 9) C dX11_all_4 (by decide) h (fun _ h => ?_) (fun _ h => ?_)
  · refine x_iconst (v := (-1 : Int32)) C dX11_all_7 (by decide) ?_
    exact q_iret C dX11_all_8 rfl (by decide) (by decide) (Option.some.inj h)
  · refine q_aload_n C dX11_all_9 rfl ?_
    refine x_getR (ci := 11) (j := 9) C dX11_all_10 lkF_X11_69 rfl h (fun c2 h => ?_)
    refine x_nn h (fun r3 h => ?_)
    refine q_aload_n C dX11_all_13 rfl ?_
    refine x_getR (ci := 11) (j := 6) C dX11_all_14 lkF_X11_50 rfl h (fun c4 h => ?_)
    refine x_nn h (fun r5 h => ?_)
    obtain ⟨hk, h⟩ := q_obE h
    obtain ⟨⟨_, M7⟩, e1, h⟩ := q_bind h
    refine x_callVv0 C dX11_all_17 lkM_X11_272 mV_X1_lay ⟨_, rfl, rfl⟩ hk (c_X1_lay _ _ _ _ _ e1) rfl rfl (Nat.le_of_ble_eq_true rfl) (by decide) (by decide) ?_
    refine q_iload_n C dX11_all_20 rfl ?_
    by_cases hs21_0 : l1 = (0 : Int32)
    · have h := q_iteT h hs21_0
      refine q_tsIn (tgt := 88) C dX11_all_21 hs21_0 (by decide) (by decide) rfl (by decide) ?_
      refine q_aload_n C dX11_all_88 rfl ?_
      refine x_getR (ci := 11) (j := 6) C dX11_all_89 lkF_X11_50 rfl h (fun c8 h => ?_)
      refine x_nn h (fun r9 h => ?_)
      refine x_getR (ci := 8) (j := 0) C dX11_all_92 lkF_X11_156 rfl h (fun c10 h => ?_)
      refine x_nn h (fun r11 h => ?_)
      refine x_bipush (v := (25 : Int32)) C dX11_all_95 (by decide) ?_
      refine x_iconst (v := (1 : Int32)) C dX11_all_97 (by decide) ?_
      refine q_aload_n C dX11_all_98 rfl ?_
      refine x_getR (ci := 11) (j := 1) C dX11_all_99 lkF_X11_19 rfl h (fun c12 h => ?_)
      refine x_nn h (fun r13 h => ?_)
      refine x_getI (ci := 3) (j := 5) C dX11_all_102 lkF_X11_336 rfl h (fun v14 h => ?_)
      obtain ⟨u15, e1, h⟩ := q_bind h
      refine x_callS0 C dX11_all_105 lkM_X11_339 mS_X11_firstMost (c_X11_firstMost _ _ _ _ _ _ _ e1) rfl rfl (Nat.le_of_ble_eq_true rfl) (by decide) (by decide) ?_
      exact q_iret C dX11_all_108 rfl (by decide) (by decide) (Option.some.inj h)
    have h := q_iteF h hs21_0
    by_cases hs21_1 : l1 = (1 : Int32)
    · have h := q_iteT h hs21_1
      refine q_tsIn (tgt := 109) C dX11_all_21 hs21_1 (by decide) (by decide) rfl (by decide) ?_
      refine q_aload_n C dX11_all_109 rfl ?_
      refine x_getR (ci := 11) (j := 6) C dX11_all_110 lkF_X11_50 rfl h (fun c16 h => ?_)
      refine x_nn h (fun r17 h => ?_)
      refine x_getR (ci := 8) (j := 0) C dX11_all_113 lkF_X11_156 rfl h (fun c18 h => ?_)
      refine x_nn h (fun r19 h => ?_)
      refine x_bipush (v := (13 : Int32)) C dX11_all_116 (by decide) ?_
      refine x_iconst (v := (1 : Int32)) C dX11_all_118 (by decide) ?_
      refine q_aload_n C dX11_all_119 rfl ?_
      refine x_getR (ci := 11) (j := 1) C dX11_all_120 lkF_X11_19 rfl h (fun c20 h => ?_)
      refine x_nn h (fun r21 h => ?_)
      refine x_getI (ci := 3) (j := 5) C dX11_all_123 lkF_X11_336 rfl h (fun v22 h => ?_)
      obtain ⟨u23, e1, h⟩ := q_bind h
      refine x_callS0 C dX11_all_126 lkM_X11_339 mS_X11_firstMost (c_X11_firstMost _ _ _ _ _ _ _ e1) rfl rfl (Nat.le_of_ble_eq_true rfl) (by decide) (by decide) ?_
      exact q_iret C dX11_all_129 rfl (by decide) (by decide) (Option.some.inj h)
    have h := q_iteF h hs21_1
    by_cases hs21_2 : l1 = (2 : Int32)
    · have h := q_iteT h hs21_2
      refine q_tsIn (tgt := 130) C dX11_all_21 hs21_2 (by decide) (by decide) rfl (by decide) ?_
      refine q_aload_n C dX11_all_130 rfl ?_
      refine x_getR (ci := 11) (j := 1) C dX11_all_131 lkF_X11_19 rfl h (fun c24 h => ?_)
      refine x_nn h (fun r25 h => ?_)
      refine x_getR (ci := 3) (j := 2) C dX11_all_134 lkF_X11_343 rfl h (fun c26 h => ?_)
      refine x_nn h (fun r27 h => ?_)
      refine x_iconst (v := (3 : Int32)) C dX11_all_137 (by decide) ?_
      refine x_iconst (v := (4 : Int32)) C dX11_all_138 (by decide) ?_
      refine q_aload_n C dX11_all_139 rfl ?_
      refine x_getR (ci := 11) (j := 1) C dX11_all_140 lkF_X11_19 rfl h (fun c28 h => ?_)
      refine x_nn h (fun r29 h => ?_)
      refine x_getI (ci := 3) (j := 5) C dX11_all_143 lkF_X11_336 rfl h (fun v30 h => ?_)
      obtain ⟨u31, e1, h⟩ := q_bind h
      refine x_callS0 C dX11_all_146 lkM_X11_339 mS_X11_firstMost (c_X11_firstMost _ _ _ _ _ _ _ e1) rfl rfl (Nat.le_of_ble_eq_true rfl) (by decide) (by decide) ?_
      exact q_iret C dX11_all_149 rfl (by decide) (by decide) (Option.some.inj h)
    have h := q_iteF h hs21_2
    by_cases hs21_3 : l1 = (3 : Int32)
    · have h := q_iteT h hs21_3
      refine q_tsIn (tgt := 150) C dX11_all_21 hs21_3 (by decide) (by decide) rfl (by decide) ?_
      refine q_aload_n C dX11_all_150 rfl ?_
      refine x_getR (ci := 11) (j := 1) C dX11_all_151 lkF_X11_19 rfl h (fun c32 h => ?_)
      refine x_nn h (fun r33 h => ?_)
      refine x_getR (ci := 3) (j := 1) C dX11_all_154 lkF_X11_346 rfl h (fun c34 h => ?_)
      refine x_nn h (fun r35 h => ?_)
      refine x_iconst (v := (0 : Int32)) C dX11_all_157 (by decide) ?_
      refine x_iconst (v := (3 : Int32)) C dX11_all_158 (by decide) ?_
      refine q_aload_n C dX11_all_159 rfl ?_
      refine x_getR (ci := 11) (j := 1) C dX11_all_160 lkF_X11_19 rfl h (fun c36 h => ?_)
      refine x_nn h (fun r37 h => ?_)
      refine x_getI (ci := 3) (j := 4) C dX11_all_163 lkF_X11_349 rfl h (fun v38 h => ?_)
      obtain ⟨u39, e1, h⟩ := q_bind h
      refine x_callS0 C dX11_all_166 lkM_X11_339 mS_X11_firstMost (c_X11_firstMost _ _ _ _ _ _ _ e1) rfl rfl (Nat.le_of_ble_eq_true rfl) (by decide) (by decide) ?_
      exact q_iret C dX11_all_169 rfl (by decide) (by decide) (Option.some.inj h)
    have h := q_iteF h hs21_3
    by_cases hs21_4 : l1 = (4 : Int32)
    · have h := q_iteT h hs21_4
      refine q_tsIn (tgt := 170) C dX11_all_21 hs21_4 (by decide) (by decide) rfl (by decide) ?_
      refine q_aload_n C dX11_all_170 rfl ?_
      obtain ⟨hk, h⟩ := q_obE h
      obtain ⟨u40, e1, h⟩ := q_bind h
      refine x_callV0 C dX11_all_171 lkM_X11_352 mV_X11_cheapest ⟨_, rfl, rfl⟩ hk (c_X11_cheapest _ _ _ _ e1) rfl rfl (Nat.le_of_ble_eq_true rfl) (by decide) (by decide) ?_
      exact q_iret C dX11_all_174 rfl (by decide) (by decide) (Option.some.inj h)
    have h := q_iteF h hs21_4
    by_cases hs21_5 : l1 = (5 : Int32)
    · have h := q_iteT h hs21_5
      refine q_tsIn (tgt := 175) C dX11_all_21 hs21_5 (by decide) (by decide) rfl (by decide) ?_
      refine q_aload_n C dX11_all_175 rfl ?_
      obtain ⟨hk, h⟩ := q_obE h
      obtain ⟨u41, e1, h⟩ := q_bind h
      refine x_callV0 C dX11_all_176 lkM_X11_355 mV_X11_mostLiked ⟨_, rfl, rfl⟩ hk (c_X11_mostLiked _ _ _ _ e1) rfl rfl (Nat.le_of_ble_eq_true rfl) (by decide) (by decide) ?_
      exact q_iret C dX11_all_179 rfl (by decide) (by decide) (Option.some.inj h)
    have h := q_iteF h hs21_5
    by_cases hs21_6 : l1 = (6 : Int32)
    · have h := q_iteT h hs21_6
      refine q_tsIn (tgt := 180) C dX11_all_21 hs21_6 (by decide) (by decide) rfl (by decide) ?_
      refine q_aload_n C dX11_all_180 rfl ?_
      refine x_getR (ci := 11) (j := 9) C dX11_all_181 lkF_X11_69 rfl h (fun c42 h => ?_)
      refine x_nn h (fun r43 h => ?_)
      refine x_getI (ci := 1) (j := 11) C dX11_all_184 lkF_X11_358 rfl h (fun v44 h => ?_)
      exact q_iret C dX11_all_187 rfl (by decide) (by decide) (Option.some.inj h)
    have h := q_iteF h hs21_6
    by_cases hs21_7 : l1 = (7 : Int32)
    · have h := q_iteT h hs21_7
      refine q_tsIn (tgt := 188) C dX11_all_21 hs21_7 (by decide) (by decide) rfl (by decide) ?_
      refine q_aload_n C dX11_all_188 rfl ?_
      obtain ⟨hk, h⟩ := q_obE h
      obtain ⟨u45, e1, h⟩ := q_bind h
      refine x_callV0 C dX11_all_189 lkM_X11_361 mV_X11_lastDay ⟨_, rfl, rfl⟩ hk (c_X11_lastDay _ _ _ _ e1) rfl rfl (Nat.le_of_ble_eq_true rfl) (by decide) (by decide) ?_
      exact q_iret C dX11_all_192 rfl (by decide) (by decide) (Option.some.inj h)
    have h := q_iteF h hs21_7
    by_cases hs21_8 : l1 = (8 : Int32)
    · have h := q_iteT h hs21_8
      refine q_tsIn (tgt := 193) C dX11_all_21 hs21_8 (by decide) (by decide) rfl (by decide) ?_
      refine q_aload_n C dX11_all_193 rfl ?_
      obtain ⟨hk, h⟩ := q_obE h
      obtain ⟨u46, e1, h⟩ := q_bind h
      refine x_callV0 C dX11_all_194 lkM_X11_364 mV_X11_takings ⟨_, rfl, rfl⟩ hk (c_X11_takings _ _ _ _ e1) rfl rfl (Nat.le_of_ble_eq_true rfl) (by decide) (by decide) ?_
      exact q_iret C dX11_all_197 rfl (by decide) (by decide) (Option.some.inj h)
    have h := q_iteF h hs21_8
    by_cases hs21_9 : l1 = (9 : Int32)
    · have h := q_iteT h hs21_9
      refine q_tsIn (tgt := 198) C dX11_all_21 hs21_9 (by decide) (by decide) rfl (by decide) ?_
      refine q_aload_n C dX11_all_198 rfl ?_
      refine x_getR (ci := 11) (j := 9) C dX11_all_199 lkF_X11_69 rfl h (fun c47 h => ?_)
      refine x_nn h (fun r48 h => ?_)
      refine x_getI (ci := 1) (j := 5) C dX11_all_202 lkF_X11_367 rfl h (fun v49 h => ?_)
      exact q_iret C dX11_all_205 rfl (by decide) (by decide) (Option.some.inj h)
    have h := q_iteF h hs21_9
    by_cases hs21_10 : l1 = (10 : Int32)
    · have h := q_iteT h hs21_10
      refine q_tsIn (tgt := 206) C dX11_all_21 hs21_10 (by decide) (by decide) rfl (by decide) ?_
      refine q_aload_n C dX11_all_206 rfl ?_
      refine x_getR (ci := 11) (j := 9) C dX11_all_207 lkF_X11_69 rfl h (fun c50 h => ?_)
      refine x_nn h (fun r51 h => ?_)
      refine x_getI (ci := 1) (j := 4) C dX11_all_210 lkF_X11_265 rfl h (fun v52 h => ?_)
      refine q_aload_n C dX11_all_213 rfl ?_
      refine x_getR (ci := 11) (j := 9) C dX11_all_214 lkF_X11_69 rfl h (fun c53 h => ?_)
      refine x_nn h (fun r54 h => ?_)
      refine x_getI (ci := 1) (j := 10) C dX11_all_217 lkF_X11_196 rfl h (fun v55 h => ?_)
      refine x_iconst (v := (-1 : Int32)) C dX11_all_220 (by decide) ?_
      refine q_ixor C dX11_all_221 ?_
      refine q_iand C dX11_all_222 ?_
      exact q_iret C dX11_all_223 rfl (by decide) (by decide) (Option.some.inj h)
    have h := q_iteF h hs21_10
    by_cases hs21_11 : l1 = (11 : Int32)
    · have h := q_iteT h hs21_11
      refine q_tsIn (tgt := 224) C dX11_all_21 hs21_11 (by decide) (by decide) rfl (by decide) ?_
      refine q_aload_n C dX11_all_224 rfl ?_
      refine x_getR (ci := 11) (j := 11) C dX11_all_225 lkF_X11_87 rfl h (fun c56 h => ?_)
      refine x_nn h (fun r57 h => ?_)
      refine q_aload_n C dX11_all_228 rfl ?_
      refine x_getR (ci := 11) (j := 6) C dX11_all_229 lkF_X11_50 rfl h (fun c58 h => ?_)
      refine x_nn h (fun r59 h => ?_)
      obtain ⟨hk, h⟩ := q_obE h
      obtain ⟨⟨u60, M61⟩, e1, h⟩ := q_bind h
      refine x_callV0 C dX11_all_232 lkM_X11_370 mV_X2_daysToNothing ⟨_, rfl, rfl⟩ hk (c_X2_daysToNothing _ _ _ _ _ e1) rfl rfl (Nat.le_of_ble_eq_true rfl) (by decide) (by decide) ?_
      exact q_iret C dX11_all_235 rfl (by decide) (by decide) (Option.some.inj h)
    have h := q_iteF h hs21_11
    by_cases hs21_12 : l1 = (12 : Int32)
    · have h := q_iteT h hs21_12
      refine q_tsIn (tgt := 236) C dX11_all_21 hs21_12 (by decide) (by decide) rfl (by decide) ?_
      refine q_aload_n C dX11_all_236 rfl ?_
      refine x_getR (ci := 11) (j := 11) C dX11_all_237 lkF_X11_87 rfl h (fun c62 h => ?_)
      refine x_nn h (fun r63 h => ?_)
      refine q_aload_n C dX11_all_240 rfl ?_
      refine x_getR (ci := 11) (j := 6) C dX11_all_241 lkF_X11_50 rfl h (fun c64 h => ?_)
      refine x_nn h (fun r65 h => ?_)
      obtain ⟨hk, h⟩ := q_obE h
      obtain ⟨⟨u66, M67⟩, e1, h⟩ := q_bind h
      refine x_callV0 C dX11_all_244 lkM_X11_374 mV_X2_fullestDay ⟨_, rfl, rfl⟩ hk (c_X2_fullestDay _ _ _ _ _ e1) rfl rfl (Nat.le_of_ble_eq_true rfl) (by decide) (by decide) ?_
      exact q_iret C dX11_all_247 rfl (by decide) (by decide) (Option.some.inj h)
    have h := q_iteF h hs21_12
    have ho21 : (l1 : Int32).toInt < 0 ∨ 12 < (l1 : Int32).toInt := by
      have z0 := lv_neT (a := 0) hs21_0 (by decide)
      have z1 := lv_neT (a := 1) hs21_1 (by decide)
      have z2 := lv_neT (a := 2) hs21_2 (by decide)
      have z3 := lv_neT (a := 3) hs21_3 (by decide)
      have z4 := lv_neT (a := 4) hs21_4 (by decide)
      have z5 := lv_neT (a := 5) hs21_5 (by decide)
      have z6 := lv_neT (a := 6) hs21_6 (by decide)
      have z7 := lv_neT (a := 7) hs21_7 (by decide)
      have z8 := lv_neT (a := 8) hs21_8 (by decide)
      have z9 := lv_neT (a := 9) hs21_9 (by decide)
      have z10 := lv_neT (a := 10) hs21_10 (by decide)
      have z11 := lv_neT (a := 11) hs21_11 (by decide)
      have z12 := lv_neT (a := 12) hs21_12 (by decide)
      omega
    refine q_tsOut (tgt := 248) C dX11_all_21 ho21 (by decide) ?_
    refine x_iconst (v := (-1 : Int32)) C dX11_all_248 (by decide) ?_
    exact q_iret C dX11_all_249 rfl (by decide) (by decide) (Option.some.inj h)
noncomputable def J_X11_kinds_52_22 (l0 : Nat) (l1 : Int32) (l2 : Int32) (l3 : Int32) (M : q_Mem) : Option ((Int32 × Int32) ⊕ (Int32)) := some (.inl (l2, (l3 + (1 : Int32))))
set_option maxRecDepth 100000 in
set_option maxHeartbeats 4000000 in
theorem jW_X11_kinds_52_22 {K : q_K} {Q : State → Prop} (C : q_C K yX11_kinds cX11_kinds 4 (Option.some Jvm.ClassFile.FieldType.int) 2 0 0) (l0 : Nat) (l1 : Int32) (l2 : Int32) (l3 : Int32) (M : q_Mem) {stp : (Int32 × Int32) ⊕ (Int32)} (h : J_X11_kinds_52_22 l0 l1 l2 l3 M = some stp) (kC : ∀ (l2 : Int32) (l3 : Int32), stp = .inl (l2, l3) → q_W K 4 Q 0 0 M 22 [some (.ref l0), some (.int l1), some (.int l2), some (.int l3)] []) (kE0 : ∀ (l2 : Int32), stp = .inr l2 → q_W K 4 Q 0 0 M 58 [none, none, some (.int l2), none] []) : q_W K 4 Q 0 0 M 52 [some (.ref l0), some (.int l1), some (.int l2), some (.int l3)] [] := by
  unfold J_X11_kinds_52_22 at h
  refine x_iinc (w := (1 : Int32)) (L' := [some (.ref l0), some (.int l1), some (.int l2), some (.int (l3 + (1 : Int32)))]) C dX11_kinds_52 rfl (by decide) (by decide) rfl rfl ?_
  refine q_goto (tgt := 22) C dX11_kinds_55 (by decide) ?_
  exact q_msk [true, true, true, true] (kC _ _ (Option.some.inj h).symm)
noncomputable def B_X11_kinds_22 (l0 : Nat) (l1 : Int32) (l2 : Int32) (l3 : Int32) (M : q_Mem) : Option ((Int32 × Int32) ⊕ (Int32)) := (q_gR M l0 11 1 (fun c2 => q_nn c2 (fun r3 => (q_gI M r3 3 4 (fun v4 => (if l3 < v4 then (q_gR M l0 11 1 (fun c5 => q_nn c5 (fun r6 => (q_ob M r6 3 ((F_X3_ofDish r6 l3 (2 : Int32) M).bind (fun u7 => (if u7 = l1 then J_X11_kinds_52_22 l0 l1 (l2 ||| ((1 : Int32) <<< (l3 &&& 31))) l3 M else J_X11_kinds_52_22 l0 l1 l2 l3 M))))))) else some (.inr l2)))))))
set_option maxRecDepth 100000 in
set_option maxHeartbeats 4000000 in
theorem bW_X11_kinds_22 {K : q_K} {Q : State → Prop} (C : q_C K yX11_kinds cX11_kinds 4 (Option.some Jvm.ClassFile.FieldType.int) 2 0 0) (l0 : Nat) (l1 : Int32) (l2 : Int32) (l3 : Int32) (M : q_Mem) {stp : (Int32 × Int32) ⊕ (Int32)} (h : B_X11_kinds_22 l0 l1 l2 l3 M = some stp) (kC : ∀ (l2 : Int32) (l3 : Int32), stp = .inl (l2, l3) → q_W K 4 Q 0 0 M 22 [some (.ref l0), some (.int l1), some (.int l2), some (.int l3)] []) (kE0 : ∀ (l2 : Int32), stp = .inr l2 → q_W K 4 Q 0 0 M 58 [none, none, some (.int l2), none] []) : q_W K 4 Q 0 0 M 22 [some (.ref l0), some (.int l1), some (.int l2), some (.int l3)] [] := by
  unfold B_X11_kinds_22 at h
  refine q_iload_n C dX11_kinds_22 rfl ?_
  refine q_aload_n C dX11_kinds_23 rfl ?_
  refine x_getR (ci := 11) (j := 1) C dX11_kinds_24 lkF_X11_19 rfl h (fun c2 h => ?_)
  refine x_nn h (fun r3 h => ?_)
  refine x_getI (ci := 3) (j := 4) C dX11_kinds_27 lkF_X11_349 rfl h (fun v4 h => ?_)
  refine q_icmp_ge (tgt := 58) C dX11_kinds_30 (by decide) h (fun _ h => ?_) (fun _ h => ?_)
  · refine q_aload_n C dX11_kinds_33 rfl ?_
    refine x_getR (ci := 11) (j := 1) C dX11_kinds_34 lkF_X11_19 rfl h (fun c5 h => ?_)
    refine x_nn h (fun r6 h => ?_)
    refine q_iload_n C dX11_kinds_37 rfl ?_
    refine x_iconst (v := (2 : Int32)) C dX11_kinds_38 (by decide) ?_
    obtain ⟨hk, h⟩ := q_obE h
    obtain ⟨u7, e1, h⟩ := q_bind h
    refine x_callV0 C dX11_kinds_39 lkM_X11_166 mV_X3_ofDish ⟨_, rfl, rfl⟩ hk (c_X3_ofDish _ _ _ _ _ _ e1) rfl rfl (Nat.le_of_ble_eq_true rfl) (by decide) (by decide) ?_
    refine q_iload_n C dX11_kinds_42 rfl ?_
    refine q_icmp_ne (tgt := 52) C dX11_kinds_43 (by decide) h (fun _ h => ?_) (fun _ h => ?_)
    · refine q_iload_n C dX11_kinds_46 rfl ?_
      refine x_iconst (v := (1 : Int32)) C dX11_kinds_47 (by decide) ?_
      refine q_iload_n C dX11_kinds_48 rfl ?_
      refine q_ishl C dX11_kinds_49 ?_
      refine q_ior C dX11_kinds_50 ?_
      refine q_istore_n (L' := [some (.ref l0), some (.int l1), some (.int (l2 ||| ((1 : Int32) <<< (l3 &&& 31)))), some (.int l3)]) C dX11_kinds_51 (by decide) rfl rfl ?_
      exact q_msk [true, true, true, true] (jW_X11_kinds_52_22 C l0 l1 (l2 ||| ((1 : Int32) <<< (l3 &&& 31))) l3 M h kC kE0)
    · exact q_msk [true, true, true, true] (jW_X11_kinds_52_22 C l0 l1 l2 l3 M h kC kE0)
  · exact q_msk [false, false, true, false] (kE0 _ (Option.some.inj h).symm)
set_option maxRecDepth 100000 in
set_option maxHeartbeats 4000000 in
theorem lW_X11_kinds_22 {K : q_K} {Q : State → Prop} (C : q_C K yX11_kinds cX11_kinds 4 (Option.some Jvm.ClassFile.FieldType.int) 2 0 0) (l0 : Nat) (l1 : Int32) (M : q_Mem) (n : Nat) : ∀ (l2 : Int32) (l3 : Int32) (e : (Int32)), q_lp (fun s => B_X11_kinds_22 l0 l1 s.1 s.2 M) n (l2, l3) = some e → (∀ (l2 : Int32), e = l2 → q_W K 4 Q 0 0 M 58 [none, none, some (.int l2), none] []) → q_W K 4 Q 0 0 M 22 [some (.ref l0), some (.int l1), some (.int l2), some (.int l3)] [] := by
  induction n with
  | zero => intro l2 l3 e h; cases h
  | succ n ih =>
    intro l2 l3 e h kE0
    obtain ⟨stp, e1, e2⟩ := q_bind h
    refine bW_X11_kinds_22 C l0 l1 l2 l3 M e1 (fun a0 a1 hs => ?_) (fun b0 hs => ?_)
    · subst hs; exact ih _ _ _ e2 kE0
    · subst hs; exact kE0 _ (Option.some.inj e2).symm
noncomputable def F_X11_kinds (l0 : Nat) (l1 : Int32) (M : q_Mem) : Option (Int32) := (q_gI M l0 11 18 (fun v1 => (if v1 = 0 then some (-1 : Int32) else (if l1 < 0 then some (-1 : Int32) else (if l1 < (4 : Int32) then (q_lp (fun s => B_X11_kinds_22 l0 l1 s.1 s.2 M) q_fu ((0 : Int32), (0 : Int32))).bind (fun e8 => match e8 with | w9 => some w9) else some (-1 : Int32))))))
set_option maxRecDepth 100000 in
set_option maxHeartbeats 4000000 in
theorem c_X11_kinds (l : Launch) (G : q_G) (l0 : Nat) (l1 : Int32) (M : q_Mem) {r : Int32} (h : F_X11_kinds l0 l1 M = some r) : q_Met l G yX11_kinds cX11_kinds 4 (Option.some Jvm.ClassFile.FieldType.int) 2 0 0 [.ref l0, .int l1] M (some (.int r)) M := by
  unfold F_X11_kinds at h
  refine q_enter [some (.ref l0), some (.int l1), none, none] (by decide) (Nat.le_of_ble_eq_true rfl) rfl (fun K C => ?_)
  refine q_aload_n C dX11_kinds_0 rfl ?_
  refine x_getI (ci := 11) (j := 18) C dX11_kinds_1 lkF_X11_116 rfl h (fun v1 h => ?_)
  refine q_if_eq (tgt := 16) C dX11_kinds_4 (by decide) h (fun _ h => ?_) (fun _ h => ?_)
  · refine x_iconst (v := (-1 : Int32)) C dX11_kinds_16 (by decide) ?_
    exact q_iret (res := (r, M)) C dX11_kinds_17 rfl (by decide) (by decide) (congrArg (fun z => (z, M)) (Option.some.inj h))
  · refine q_iload_n C dX11_kinds_7 rfl ?_
    refine q_if_lt (tgt := 16) C dX11_kinds_8 (by decide) h (fun _ h => ?_) (fun _ h => ?_)
    · refine x_iconst (v := (-1 : Int32)) C dX11_kinds_16 (by decide) ?_
      exact q_iret (res := (r, M)) C dX11_kinds_17 rfl (by decide) (by decide) (congrArg (fun z => (z, M)) (Option.some.inj h))
    · refine q_iload_n C dX11_kinds_11 rfl ?_
      refine x_iconst (v := (4 : Int32)) C dX11_kinds_12 (by decide) ?_
      refine q_icmp_lt (tgt := 18) C dX11_kinds_13 (by decide) h (fun _ h => ?_) (fun _ h => ?_)
      · refine x_iconst (v := (0 : Int32)) C dX11_kinds_18 (by decide) ?_
        refine q_istore_n (L' := [some (.ref l0), some (.int l1), some (.int (0 : Int32)), none]) C dX11_kinds_19 (by decide) rfl rfl ?_
        refine x_iconst (v := (0 : Int32)) C dX11_kinds_20 (by decide) ?_
        refine q_istore_n (L' := [some (.ref l0), some (.int l1), some (.int (0 : Int32)), some (.int (0 : Int32))]) C dX11_kinds_21 (by decide) rfl rfl ?_
        obtain ⟨e8, he, h⟩ := q_bind h
        refine q_msk [true, true, true, true] (lW_X11_kinds_22 C l0 l1 M q_fu _ _ _ he (fun w9 hs => ?_))
        · have hs := hs.symm
          subst hs
          refine q_iload_n C dX11_kinds_58 rfl ?_
          exact q_iret (res := (r, M)) C dX11_kinds_59 rfl (by decide) (by decide) (congrArg (fun z => (z, M)) (Option.some.inj h))
      · refine x_iconst (v := (-1 : Int32)) C dX11_kinds_16 (by decide) ?_
        exact q_iret (res := (r, M)) C dX11_kinds_17 rfl (by decide) (by decide) (congrArg (fun z => (z, M)) (Option.some.inj h))
