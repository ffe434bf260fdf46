/-! the law: its walk (laid by wip/whole/mk_lwalk.py) -/

set_option maxRecDepth 100000 in
set_option maxHeartbeats 4000000 in
theorem bW_L_law_c10 {K : q_K} {Q : State → Prop} (C : q_C K yL_law cL_law 7 (Option.some Jvm.ClassFile.FieldType.boolean) 195 6000 240000) {ce sl : Nat} (l1 : Nat) (l2 : Nat) (l3 : Nat) (l4 : Int32) (M : q_Mem) (hcm : ce + 10 ≤ 6000) (hsm : sl + 400 ≤ 240000) {stp : (Int32 × q_Mem) ⊕ (q_Mem)} (h : (q_sc (q_kG K) (l4 + (1 : Int32)) (fun v83 => (q_ob M l1 11 ((F_X11_choose l1 v83 M).bind (fun x => match x with | (u84, M85) => (q_sc (q_kG K) (l4 + (1 : Int32)) (fun v86 => (q_ob M85 l2 12 ((F_X12_choose l2 v86 M85).bind (fun x => match x with | (u87, M88) => (if u84 = u87 then J_L_law_1542_23 (q_kG K) l1 l2 l3 l4 M88 else none))))))))))) = some stp) (kC : ∀ (M : q_Mem), stp = .inl (l4 + 6, M) → q_W K 7 Q (ce + 10) (sl + 400) M 23 [some (.ref 35), some (.ref l1), some (.ref l2), some (.ref l3), some (.int (l4 + 6)), none, none] []) : q_W K 7 Q ce sl M 553 [some (.ref 35), some (.ref l1), some (.ref l2), some (.ref l3), some (.int l4), none, none] [] := by
  refine q_aload_n C dL_law_553 rfl ?_
  refine q_aload_n C dL_law_554 rfl ?_
  refine q_iload C dL_law_555 rfl ?_
  refine x_iconst (v := (1 : Int32)) C dL_law_557 (by decide) ?_
  refine q_iadd C dL_law_558 ?_
  refine x_ialdS C dL_law_559 h (fun v83 h => ?_)
  obtain ⟨hk, h⟩ := q_obE h
  obtain ⟨⟨u84, M85⟩, e1, h⟩ := q_bind h
  refine x_callV0 C dL_law_560 lkM_L_68 mV_X11_choose ⟨_, rfl, rfl⟩ hk (c_X11_choose _ _ _ _ _ e1) rfl rfl (Nat.le_of_ble_eq_true rfl) (by decide) ⟨by omega, by omega⟩ ?_
  refine q_aload_n C dL_law_563 rfl ?_
  refine q_aload_n C dL_law_564 rfl ?_
  refine q_iload C dL_law_565 rfl ?_
  refine x_iconst (v := (1 : Int32)) C dL_law_567 (by decide) ?_
  refine q_iadd C dL_law_568 ?_
  refine x_ialdS C dL_law_569 h (fun v86 h => ?_)
  obtain ⟨hk, h⟩ := q_obE h
  obtain ⟨⟨u87, M88⟩, e1, h⟩ := q_bind h
  refine x_callV0 C dL_law_570 lkM_L_71 mV_X12_choose ⟨_, rfl, rfl⟩ hk (c_X12_choose _ _ _ _ _ e1) rfl rfl (Nat.le_of_ble_eq_true rfl) (by decide) ⟨by omega, by omega⟩ ?_
  refine q_icmp_eq (tgt := 1542) C dL_law_573 (by decide) h (fun _ h => ?_) (fun _ h => ?_)
  · exact q_msk [true, true, true, true, true, false, false] (jW_L_law_1542_23 C l1 l2 l3 l4 M88 (by omega) (by omega) h kC)
  · cases h
set_option maxRecDepth 100000 in
set_option maxHeartbeats 4000000 in
theorem bW_L_law_c11 {K : q_K} {Q : State → Prop} (C : q_C K yL_law cL_law 7 (Option.some Jvm.ClassFile.FieldType.boolean) 195 6000 240000) {ce sl : Nat} (l1 : Nat) (l2 : Nat) (l3 : Nat) (l4 : Int32) (M : q_Mem) (hcm : ce + 10 ≤ 6000) (hsm : sl + 400 ≤ 240000) {stp : (Int32 × q_Mem) ⊕ (q_Mem)} (h : (q_ob M l1 11 ((F_X11_ill l1 M).bind (fun x => match x with | (u89, M90) => (q_ob M90 l2 12 ((F_X12_ill l2 M90).bind (fun x => match x with | (u91, M92) => (if u89 = u91 then J_L_law_1542_23 (q_kG K) l1 l2 l3 l4 M92 else none))))))) = some stp) (kC : ∀ (M : q_Mem), stp = .inl (l4 + 6, M) → q_W K 7 Q (ce + 10) (sl + 400) M 23 [some (.ref 35), some (.ref l1), some (.ref l2), some (.ref l3), some (.int (l4 + 6)), none, none] []) : q_W K 7 Q ce sl M 578 [some (.ref 35), some (.ref l1), some (.ref l2), some (.ref l3), some (.int l4), none, none] [] := by
  refine q_aload_n C dL_law_578 rfl ?_
  obtain ⟨hk, h⟩ := q_obE h
  obtain ⟨⟨u89, M90⟩, e1, h⟩ := q_bind h
  refine x_callV0 C dL_law_579 lkM_L_72 mV_X11_ill ⟨_, rfl, rfl⟩ hk (c_X11_ill _ _ _ _ e1) rfl rfl (Nat.le_of_ble_eq_true rfl) (by decide) ⟨by omega, by omega⟩ ?_
  refine q_aload_n C dL_law_582 rfl ?_
  obtain ⟨hk, h⟩ := q_obE h
  obtain ⟨⟨u91, M92⟩, e1, h⟩ := q_bind h
  refine x_callV0 C dL_law_583 lkM_L_75 mV_X12_ill ⟨_, rfl, rfl⟩ hk (c_X12_ill _ _ _ _ e1) rfl rfl (Nat.le_of_ble_eq_true rfl) (by decide) ⟨by omega, by omega⟩ ?_
  refine q_icmp_eq (tgt := 1542) C dL_law_586 (by decide) h (fun _ h => ?_) (fun _ h => ?_)
  · exact q_msk [true, true, true, true, true, false, false] (jW_L_law_1542_23 C l1 l2 l3 l4 M92 (by omega) (by omega) h kC)
  · cases h
set_option maxRecDepth 100000 in
set_option maxHeartbeats 4000000 in
theorem bW_L_law_c12 {K : q_K} {Q : State → Prop} (C : q_C K yL_law cL_law 7 (Option.some Jvm.ClassFile.FieldType.boolean) 195 6000 240000) {ce sl : Nat} (l1 : Nat) (l2 : Nat) (l3 : Nat) (l4 : Int32) (M : q_Mem) (hcm : ce + 10 ≤ 6000) (hsm : sl + 400 ≤ 240000) {stp : (Int32 × q_Mem) ⊕ (q_Mem)} (h : (q_ob M l1 11 ((F_X11_makeUp l1 M).bind (fun x => match x with | (u93, M94) => (q_ob M94 l2 12 ((F_X12_makeUp l2 M94).bind (fun x => match x with | (u95, M96) => (if u93 = u95 then J_L_law_1542_23 (q_kG K) l1 l2 l3 l4 M96 else none))))))) = some stp) (kC : ∀ (M : q_Mem), stp = .inl (l4 + 6, M) → q_W K 7 Q (ce + 10) (sl + 400) M 23 [some (.ref 35), some (.ref l1), some (.ref l2), some (.ref l3), some (.int (l4 + 6)), none, none] []) : q_W K 7 Q ce sl M 591 [some (.ref 35), some (.ref l1), some (.ref l2), some (.ref l3), some (.int l4), none, none] [] := by
  refine q_aload_n C dL_law_591 rfl ?_
  obtain ⟨hk, h⟩ := q_obE h
  obtain ⟨⟨u93, M94⟩, e1, h⟩ := q_bind h
  refine x_callV0 C dL_law_592 lkM_L_76 mV_X11_makeUp ⟨_, rfl, rfl⟩ hk (c_X11_makeUp _ _ _ _ e1) rfl rfl (Nat.le_of_ble_eq_true rfl) (by decide) ⟨by omega, by omega⟩ ?_
  refine q_aload_n C dL_law_595 rfl ?_
  obtain ⟨hk, h⟩ := q_obE h
  obtain ⟨⟨u95, M96⟩, e1, h⟩ := q_bind h
  refine x_callV0 C dL_law_596 lkM_L_79 mV_X12_makeUp ⟨_, rfl, rfl⟩ hk (c_X12_makeUp _ _ _ _ e1) rfl rfl (Nat.le_of_ble_eq_true rfl) (by decide) ⟨by omega, by omega⟩ ?_
  refine q_icmp_eq (tgt := 1542) C dL_law_599 (by decide) h (fun _ h => ?_) (fun _ h => ?_)
  · exact q_msk [true, true, true, true, true, false, false] (jW_L_law_1542_23 C l1 l2 l3 l4 M96 (by omega) (by omega) h kC)
  · cases h
set_option maxRecDepth 100000 in
set_option maxHeartbeats 4000000 in
theorem bW_L_law_c13 {K : q_K} {Q : State → Prop} (C : q_C K yL_law cL_law 7 (Option.some Jvm.ClassFile.FieldType.boolean) 195 6000 240000) {ce sl : Nat} (l1 : Nat) (l2 : Nat) (l3 : Nat) (l4 : Int32) (M : q_Mem) (hcm : ce + 10 ≤ 6000) (hsm : sl + 400 ≤ 240000) {stp : (Int32 × q_Mem) ⊕ (q_Mem)} (h : (q_sc (q_kG K) (l4 + (1 : Int32)) (fun v97 => (q_sc (q_kG K) (l4 + (2 : Int32)) (fun v98 => (q_ob M l1 11 ((F_X11_stay l1 v97 v98 M).bind (fun x => match x with | (u99, M100) => (q_sc (q_kG K) (l4 + (1 : Int32)) (fun v101 => (q_sc (q_kG K) (l4 + (2 : Int32)) (fun v102 => (q_ob M100 l2 12 ((F_X12_stay l2 v101 v102 M100).bind (fun x => match x with | (u103, M104) => (if u99 = u103 then J_L_law_1542_23 (q_kG K) l1 l2 l3 l4 M104 else none))))))))))))))) = some stp) (kC : ∀ (M : q_Mem), stp = .inl (l4 + 6, M) → q_W K 7 Q (ce + 10) (sl + 400) M 23 [some (.ref 35), some (.ref l1), some (.ref l2), some (.ref l3), some (.int (l4 + 6)), none, none] []) : q_W K 7 Q ce sl M 604 [some (.ref 35), some (.ref l1), some (.ref l2), some (.ref l3), some (.int l4), none, none] [] := by
  refine q_aload_n C dL_law_604 rfl ?_
  refine q_aload_n C dL_law_605 rfl ?_
  refine q_iload C dL_law_606 rfl ?_
  refine x_iconst (v := (1 : Int32)) C dL_law_608 (by decide) ?_
  refine q_iadd C dL_law_609 ?_
  refine x_ialdS C dL_law_610 h (fun v97 h => ?_)
  refine q_aload_n C dL_law_611 rfl ?_
  refine q_iload C dL_law_612 rfl ?_
  refine x_iconst (v := (2 : Int32)) C dL_law_614 (by decide) ?_
  refine q_iadd C dL_law_615 ?_
  refine x_ialdS C dL_law_616 h (fun v98 h => ?_)
  obtain ⟨hk, h⟩ := q_obE h
  obtain ⟨⟨u99, M100⟩, e1, h⟩ := q_bind h
  refine x_callV0 C dL_law_617 lkM_L_80 mV_X11_stay ⟨_, rfl, rfl⟩ hk (c_X11_stay _ _ _ _ _ _ e1) rfl rfl (Nat.le_of_ble_eq_true rfl) (by decide) ⟨by omega, by omega⟩ ?_
  refine q_aload_n C dL_law_620 rfl ?_
  refine q_aload_n C dL_law_621 rfl ?_
  refine q_iload C dL_law_622 rfl ?_
  refine x_iconst (v := (1 : Int32)) C dL_law_624 (by decide) ?_
  refine q_iadd C dL_law_625 ?_
  refine x_ialdS C dL_law_626 h (fun v101 h => ?_)
  refine q_aload_n C dL_law_627 rfl ?_
  refine q_iload C dL_law_628 rfl ?_
  refine x_iconst (v := (2 : Int32)) C dL_law_630 (by decide) ?_
  refine q_iadd C dL_law_631 ?_
  refine x_ialdS C dL_law_632 h (fun v102 h => ?_)
  obtain ⟨hk, h⟩ := q_obE h
  obtain ⟨⟨u103, M104⟩, e1, h⟩ := q_bind h
  refine x_callV0 C dL_law_633 lkM_L_83 mV_X12_stay ⟨_, rfl, rfl⟩ hk (c_X12_stay _ _ _ _ _ _ e1) rfl rfl (Nat.le_of_ble_eq_true rfl) (by decide) ⟨by omega, by omega⟩ ?_
  refine q_icmp_eq (tgt := 1542) C dL_law_636 (by decide) h (fun _ h => ?_) (fun _ h => ?_)
  · exact q_msk [true, true, true, true, true, false, false] (jW_L_law_1542_23 C l1 l2 l3 l4 M104 (by omega) (by omega) h kC)
  · cases h
set_option maxRecDepth 100000 in
set_option maxHeartbeats 4000000 in
theorem bW_L_law_c14 {K : q_K} {Q : State → Prop} (C : q_C K yL_law cL_law 7 (Option.some Jvm.ClassFile.FieldType.boolean) 195 6000 240000) {ce sl : Nat} (l1 : Nat) (l2 : Nat) (l3 : Nat) (l4 : Int32) (M : q_Mem) (hcm : ce + 10 ≤ 6000) (hsm : sl + 400 ≤ 240000) {stp : (Int32 × q_Mem) ⊕ (q_Mem)} (h : (q_sc (q_kG K) (l4 + (1 : Int32)) (fun v105 => (q_sc (q_kG K) (l4 + (2 : Int32)) (fun v106 => (q_ob M l1 11 ((F_X11_sign l1 v105 v106 M).bind (fun x => match x with | (u107, M108) => (q_sc (q_kG K) (l4 + (1 : Int32)) (fun v109 => (q_sc (q_kG K) (l4 + (2 : Int32)) (fun v110 => (q_ob M108 l2 12 ((F_X12_sign l2 v109 v110 M108).bind (fun x => match x with | (u111, M112) => (if u107 = u111 then J_L_law_1542_23 (q_kG K) l1 l2 l3 l4 M112 else none))))))))))))))) = some stp) (kC : ∀ (M : q_Mem), stp = .inl (l4 + 6, M) → q_W K 7 Q (ce + 10) (sl + 400) M 23 [some (.ref 35), some (.ref l1), some (.ref l2), some (.ref l3), some (.int (l4 + 6)), none, none] []) : q_W K 7 Q ce sl M 641 [some (.ref 35), some (.ref l1), some (.ref l2), some (.ref l3), some (.int l4), none, none] [] := by
  refine q_aload_n C dL_law_641 rfl ?_
  refine q_aload_n C dL_law_642 rfl ?_
  refine q_iload C dL_law_643 rfl ?_
  refine x_iconst (v := (1 : Int32)) C dL_law_645 (by decide) ?_
  refine q_iadd C dL_law_646 ?_
  refine x_ialdS C dL_law_647 h (fun v105 h => ?_)
  refine q_aload_n C dL_law_648 rfl ?_
  refine q_iload C dL_law_649 rfl ?_
  refine x_iconst (v := (2 : Int32)) C dL_law_651 (by decide) ?_
  refine q_iadd C dL_law_652 ?_
  refine x_ialdS C dL_law_653 h (fun v106 h => ?_)
  obtain ⟨hk, h⟩ := q_obE h
  obtain ⟨⟨u107, M108⟩, e1, h⟩ := q_bind h
  refine x_callV0 C dL_law_654 lkM_L_84 mV_X11_sign ⟨_, rfl, rfl⟩ hk (c_X11_sign _ _ _ _ _ _ e1) rfl rfl (Nat.le_of_ble_eq_true rfl) (by decide) ⟨by omega, by omega⟩ ?_
  refine q_aload_n C dL_law_657 rfl ?_
  refine q_aload_n C dL_law_658 rfl ?_
  refine q_iload C dL_law_659 rfl ?_
  refine x_iconst (v := (1 : Int32)) C dL_law_661 (by decide) ?_
  refine q_iadd C dL_law_662 ?_
  refine x_ialdS C dL_law_663 h (fun v109 h => ?_)
  refine q_aload_n C dL_law_664 rfl ?_
  refine q_iload C dL_law_665 rfl ?_
  refine x_iconst (v := (2 : Int32)) C dL_law_667 (by decide) ?_
  refine q_iadd C dL_law_668 ?_
  refine x_ialdS C dL_law_669 h (fun v110 h => ?_)
  obtain ⟨hk, h⟩ := q_obE h
  obtain ⟨⟨u111, M112⟩, e1, h⟩ := q_bind h
  refine x_callV0 C dL_law_670 lkM_L_87 mV_X12_sign ⟨_, rfl, rfl⟩ hk (c_X12_sign _ _ _ _ _ _ e1) rfl rfl (Nat.le_of_ble_eq_true rfl) (by decide) ⟨by omega, by omega⟩ ?_
  refine q_icmp_eq (tgt := 1542) C dL_law_673 (by decide) h (fun _ h => ?_) (fun _ h => ?_)
  · exact q_msk [true, true, true, true, true, false, false] (jW_L_law_1542_23 C l1 l2 l3 l4 M112 (by omega) (by omega) h kC)
  · cases h
set_option maxRecDepth 100000 in
set_option maxHeartbeats 4000000 in
theorem bW_L_law_c15 {K : q_K} {Q : State → Prop} (C : q_C K yL_law cL_law 7 (Option.some Jvm.ClassFile.FieldType.boolean) 195 6000 240000) {ce sl : Nat} (l1 : Nat) (l2 : Nat) (l3 : Nat) (l4 : Int32) (M : q_Mem) (hcm : ce + 10 ≤ 6000) (hsm : sl + 400 ≤ 240000) {stp : (Int32 × q_Mem) ⊕ (q_Mem)} (h : (q_sc (q_kG K) (l4 + (1 : Int32)) (fun v113 => (q_sc (q_kG K) (l4 + (2 : Int32)) (fun v114 => (q_sc (q_kG K) (l4 + (3 : Int32)) (fun v115 => (q_ob M l1 11 ((F_X11_years l1 v113 ((v114.toInt64 <<< ((32 : Int32).toInt64 &&& 63)) ||| (v115.toInt64 &&& (4294967295 : Int64))) M).bind (fun x => match x with | (u116, M117) => (q_sc (q_kG K) (l4 + (1 : Int32)) (fun v118 => (q_sc (q_kG K) (l4 + (2 : Int32)) (fun v119 => (q_sc (q_kG K) (l4 + (3 : Int32)) (fun v120 => (q_ob M117 l2 12 ((F_X12_years l2 v118 ((v119.toInt64 <<< ((32 : Int32).toInt64 &&& 63)) ||| (v120.toInt64 &&& (4294967295 : Int64))) M117).bind (fun x => match x with | (u121, M122) => (if u116 = u121 then J_L_law_1542_23 (q_kG K) l1 l2 l3 l4 M122 else none))))))))))))))))))) = some stp) (kC : ∀ (M : q_Mem), stp = .inl (l4 + 6, M) → q_W K 7 Q (ce + 10) (sl + 400) M 23 [some (.ref 35), some (.ref l1), some (.ref l2), some (.ref l3), some (.int (l4 + 6)), none, none] []) : q_W K 7 Q ce sl M 678 [some (.ref 35), some (.ref l1), some (.ref l2), some (.ref l3), some (.int l4), none, none] [] := by
  refine q_aload_n C dL_law_678 rfl ?_
  refine q_aload_n C dL_law_679 rfl ?_
  refine q_iload C dL_law_680 rfl ?_
  refine x_iconst (v := (1 : Int32)) C dL_law_682 (by decide) ?_
  refine q_iadd C dL_law_683 ?_
  refine x_ialdS C dL_law_684 h (fun v113 h => ?_)
  refine q_aload_n C dL_law_685 rfl ?_
  refine q_iload C dL_law_686 rfl ?_
  refine x_iconst (v := (2 : Int32)) C dL_law_688 (by decide) ?_
  refine q_iadd C dL_law_689 ?_
  refine x_ialdS C dL_law_690 h (fun v114 h => ?_)
  refine q_i2l C dL_law_691 ?_
  refine x_bipush (v := (32 : Int32)) C dL_law_692 (by decide) ?_
  refine q_lshl C dL_law_694 ?_
  refine q_aload_n C dL_law_695 rfl ?_
  refine q_iload C dL_law_696 rfl ?_
  refine x_iconst (v := (3 : Int32)) C dL_law_698 (by decide) ?_
  refine q_iadd C dL_law_699 ?_
  refine x_ialdS C dL_law_700 h (fun v115 h => ?_)
  refine q_i2l C dL_law_701 ?_
  refine q_ldc2 (v := (4294967295 : Int64)) C dL_law_702 wd_1840 ?_
  refine q_land C dL_law_705 ?_
  refine q_lor C dL_law_706 ?_
  obtain ⟨hk, h⟩ := q_obE h
  obtain ⟨⟨u116, M117⟩, e1, h⟩ := q_bind h
  refine x_callV0 C dL_law_707 lkM_L_90 mV_X11_years ⟨_, rfl, rfl⟩ hk (c_X11_years _ _ _ _ _ _ e1) rfl rfl (Nat.le_of_ble_eq_true rfl) (by decide) ⟨by omega, by omega⟩ ?_
  refine q_aload_n C dL_law_710 rfl ?_
  refine q_aload_n C dL_law_711 rfl ?_
  refine q_iload C dL_law_712 rfl ?_
  refine x_iconst (v := (1 : Int32)) C dL_law_714 (by decide) ?_
  refine q_iadd C dL_law_715 ?_
  refine x_ialdS C dL_law_716 h (fun v118 h => ?_)
  refine q_aload_n C dL_law_717 rfl ?_
  refine q_iload C dL_law_718 rfl ?_
  refine x_iconst (v := (2 : Int32)) C dL_law_720 (by decide) ?_
  refine q_iadd C dL_law_721 ?_
  refine x_ialdS C dL_law_722 h (fun v119 h => ?_)
  refine q_i2l C dL_law_723 ?_
  refine x_bipush (v := (32 : Int32)) C dL_law_724 (by decide) ?_
  refine q_lshl C dL_law_726 ?_
  refine q_aload_n C dL_law_727 rfl ?_
  refine q_iload C dL_law_728 rfl ?_
  refine x_iconst (v := (3 : Int32)) C dL_law_730 (by decide) ?_
  refine q_iadd C dL_law_731 ?_
  refine x_ialdS C dL_law_732 h (fun v120 h => ?_)
  refine q_i2l C dL_law_733 ?_
  refine q_ldc2 (v := (4294967295 : Int64)) C dL_law_734 wd_1840 ?_
  refine q_land C dL_law_737 ?_
  refine q_lor C dL_law_738 ?_
  obtain ⟨hk, h⟩ := q_obE h
  obtain ⟨⟨u121, M122⟩, e1, h⟩ := q_bind h
  refine x_callV0 C dL_law_739 lkM_L_94 mV_X12_years ⟨_, rfl, rfl⟩ hk (c_X12_years _ _ _ _ _ _ e1) rfl rfl (Nat.le_of_ble_eq_true rfl) (by decide) ⟨by omega, by omega⟩ ?_
  refine q_icmp_eq (tgt := 1542) C dL_law_742 (by decide) h (fun _ h => ?_) (fun _ h => ?_)
  · exact q_msk [true, true, true, true, true, false, false] (jW_L_law_1542_23 C l1 l2 l3 l4 M122 (by omega) (by omega) h kC)
  · cases h
set_option maxRecDepth 100000 in
set_option maxHeartbeats 4000000 in
theorem bW_L_law_c16 {K : q_K} {Q : State → Prop} (C : q_C K yL_law cL_law 7 (Option.some Jvm.ClassFile.FieldType.boolean) 195 6000 240000) {ce sl : Nat} (l1 : Nat) (l2 : Nat) (l3 : Nat) (l4 : Int32) (M : q_Mem) (hcm : ce + 10 ≤ 6000) (hsm : sl + 400 ≤ 240000) {stp : (Int32 × q_Mem) ⊕ (q_Mem)} (h : (q_ob M l1 11 ((F_X11_undo l1 M).bind (fun x => match x with | (u123, M124) => (q_ob M124 l2 12 ((F_X12_undo l2 M124).bind (fun x => match x with | (u125, M126) => (if u123 = u125 then J_L_law_1542_23 (q_kG K) l1 l2 l3 l4 M126 else none))))))) = some stp) (kC : ∀ (M : q_Mem), stp = .inl (l4 + 6, M) → q_W K 7 Q (ce + 10) (sl + 400) M 23 [some (.ref 35), some (.ref l1), some (.ref l2), some (.ref l3), some (.int (l4 + 6)), none, none] []) : q_W K 7 Q ce sl M 747 [some (.ref 35), some (.ref l1), some (.ref l2), some (.ref l3), some (.int l4), none, none] [] := by
  refine q_aload_n C dL_law_747 rfl ?_
  obtain ⟨hk, h⟩ := q_obE h
  obtain ⟨⟨u123, M124⟩, e1, h⟩ := q_bind h
  refine x_callV0 C dL_law_748 lkM_L_95 mV_X11_undo ⟨_, rfl, rfl⟩ hk (c_X11_undo _ _ _ _ e1) rfl rfl (Nat.le_of_ble_eq_true rfl) (by decide) ⟨by omega, by omega⟩ ?_
  refine q_aload_n C dL_law_751 rfl ?_
  obtain ⟨hk, h⟩ := q_obE h
  obtain ⟨⟨u125, M126⟩, e1, h⟩ := q_bind h
  refine x_callV0 C dL_law_752 lkM_L_98 mV_X12_undo ⟨_, rfl, rfl⟩ hk (c_X12_undo _ _ _ _ e1) rfl rfl (Nat.le_of_ble_eq_true rfl) (by decide) ⟨by omega, by omega⟩ ?_
  refine q_icmp_eq (tgt := 1542) C dL_law_755 (by decide) h (fun _ h => ?_) (fun _ h => ?_)
  · exact q_msk [true, true, true, true, true, false, false] (jW_L_law_1542_23 C l1 l2 l3 l4 M126 (by omega) (by omega) h kC)
  · cases h
set_option maxRecDepth 100000 in
set_option maxHeartbeats 4000000 in
theorem bW_L_law_c17 {K : q_K} {Q : State → Prop} (C : q_C K yL_law cL_law 7 (Option.some Jvm.ClassFile.FieldType.boolean) 195 6000 240000) {ce sl : Nat} (l1 : Nat) (l2 : Nat) (l3 : Nat) (l4 : Int32) (M : q_Mem) (hcm : ce + 10 ≤ 6000) (hsm : sl + 400 ≤ 240000) {stp : (Int32 × q_Mem) ⊕ (q_Mem)} (h : (q_sc (q_kG K) (l4 + (1 : Int32)) (fun v127 => (q_sc (q_kG K) (l4 + (2 : Int32)) (fun v128 => (q_ob M l1 11 ((F_X11_log l1 v127 v128 M).bind (fun u129 => (q_sc (q_kG K) (l4 + (1 : Int32)) (fun v130 => (q_sc (q_kG K) (l4 + (2 : Int32)) (fun v131 => (q_ob M l2 12 ((F_X12_log l2 v130 v131 M).bind (fun x => match x with | (u132, M133) => (if u129 = u132 then J_L_law_1542_23 (q_kG K) l1 l2 l3 l4 M133 else none))))))))))))))) = some stp) (kC : ∀ (M : q_Mem), stp = .inl (l4 + 6, M) → q_W K 7 Q (ce + 10) (sl + 400) M 23 [some (.ref 35), some (.ref l1), some (.ref l2), some (.ref l3), some (.int (l4 + 6)), none, none] []) : q_W K 7 Q ce sl M 760 [some (.ref 35), some (.ref l1), some (.ref l2), some (.ref l3), some (.int l4), none, none] [] := by
  refine q_aload_n C dL_law_760 rfl ?_
  refine q_aload_n C dL_law_761 rfl ?_
  refine q_iload C dL_law_762 rfl ?_
  refine x_iconst (v := (1 : Int32)) C dL_law_764 (by decide) ?_
  refine q_iadd C dL_law_765 ?_
  refine x_ialdS C dL_law_766 h (fun v127 h => ?_)
  refine q_aload_n C dL_law_767 rfl ?_
  refine q_iload C dL_law_768 rfl ?_
  refine x_iconst (v := (2 : Int32)) C dL_law_770 (by decide) ?_
  refine q_iadd C dL_law_771 ?_
  refine x_ialdS C dL_law_772 h (fun v128 h => ?_)
  obtain ⟨hk, h⟩ := q_obE h
  obtain ⟨u129, e1, h⟩ := q_bind h
  refine x_callV0 C dL_law_773 lkM_L_99 mV_X11_log ⟨_, rfl, rfl⟩ hk (c_X11_log _ _ _ _ _ _ e1) rfl rfl (Nat.le_of_ble_eq_true rfl) (by decide) ⟨by omega, by omega⟩ ?_
  refine q_aload_n C dL_law_776 rfl ?_
  refine q_aload_n C dL_law_777 rfl ?_
  refine q_iload C dL_law_778 rfl ?_
  refine x_iconst (v := (1 : Int32)) C dL_law_780 (by decide) ?_
  refine q_iadd C dL_law_781 ?_
  refine x_ialdS C dL_law_782 h (fun v130 h => ?_)
  refine q_aload_n C dL_law_783 rfl ?_
  refine q_iload C dL_law_784 rfl ?_
  refine x_iconst (v := (2 : Int32)) C dL_law_786 (by decide) ?_
  refine q_iadd C dL_law_787 ?_
  refine x_ialdS C dL_law_788 h (fun v131 h => ?_)
  obtain ⟨hk, h⟩ := q_obE h
  obtain ⟨⟨u132, M133⟩, e1, h⟩ := q_bind h
  refine x_callV0 C dL_law_789 lkM_L_102 mV_X12_log ⟨_, rfl, rfl⟩ hk (c_X12_log _ _ _ _ _ _ e1) rfl rfl (Nat.le_of_ble_eq_true rfl) (by decide) ⟨by omega, by omega⟩ ?_
  refine q_icmp_eq (tgt := 1542) C dL_law_792 (by decide) h (fun _ h => ?_) (fun _ h => ?_)
  · exact q_msk [true, true, true, true, true, false, false] (jW_L_law_1542_23 C l1 l2 l3 l4 M133 (by omega) (by omega) h kC)
  · cases h
set_option maxRecDepth 100000 in
set_option maxHeartbeats 4000000 in
theorem bW_L_law_c18 {K : q_K} {Q : State → Prop} (C : q_C K yL_law cL_law 7 (Option.some Jvm.ClassFile.FieldType.boolean) 195 6000 240000) {ce sl : Nat} (l1 : Nat) (l2 : Nat) (l3 : Nat) (l4 : Int32) (M : q_Mem) (hcm : ce + 10 ≤ 6000) (hsm : sl + 400 ≤ 240000) {stp : (Int32 × q_Mem) ⊕ (q_Mem)} (h : (q_sc (q_kG K) (l4 + (1 : Int32)) (fun v134 => (q_sc (q_kG K) (l4 + (2 : Int32)) (fun v135 => (q_sc (q_kG K) (l4 + (3 : Int32)) (fun v136 => (q_ob M l1 11 ((F_X11_step l1 v134 v135 v136 M).bind (fun u137 => (q_sc (q_kG K) (l4 + (1 : Int32)) (fun v138 => (q_sc (q_kG K) (l4 + (2 : Int32)) (fun v139 => (q_sc (q_kG K) (l4 + (3 : Int32)) (fun v140 => (q_ob M l2 12 ((F_X12_step l2 v138 v139 v140 M).bind (fun x => match x with | (u141, M142) => (if u137 = u141 then J_L_law_1542_23 (q_kG K) l1 l2 l3 l4 M142 else none))))))))))))))))))) = some stp) (kC : ∀ (M : q_Mem), stp = .inl (l4 + 6, M) → q_W K 7 Q (ce + 10) (sl + 400) M 23 [some (.ref 35), some (.ref l1), some (.ref l2), some (.ref l3), some (.int (l4 + 6)), none, none] []) : q_W K 7 Q ce sl M 797 [some (.ref 35), some (.ref l1), some (.ref l2), some (.ref l3), some (.int l4), none, none] [] := by
  refine q_aload_n C dL_law_797 rfl ?_
  refine q_aload_n C dL_law_798 rfl ?_
  refine q_iload C dL_law_799 rfl ?_
  refine x_iconst (v := (1 : Int32)) C dL_law_801 (by decide) ?_
  refine q_iadd C dL_law_802 ?_
  refine x_ialdS C dL_law_803 h (fun v134 h => ?_)
  refine q_aload_n C dL_law_804 rfl ?_
  refine q_iload C dL_law_805 rfl ?_
  refine x_iconst (v := (2 : Int32)) C dL_law_807 (by decide) ?_
  refine q_iadd C dL_law_808 ?_
  refine x_ialdS C dL_law_809 h (fun v135 h => ?_)
  refine q_aload_n C dL_law_810 rfl ?_
  refine q_iload C dL_law_811 rfl ?_
  refine x_iconst (v := (3 : Int32)) C dL_law_813 (by decide) ?_
  refine q_iadd C dL_law_814 ?_
  refine x_ialdS C dL_law_815 h (fun v136 h => ?_)
  obtain ⟨hk, h⟩ := q_obE h
  obtain ⟨u137, e1, h⟩ := q_bind h
  refine x_callV0 C dL_law_816 lkM_L_103 mV_X11_step ⟨_, rfl, rfl⟩ hk (c_X11_step _ _ _ _ _ _ _ e1) rfl rfl (Nat.le_of_ble_eq_true rfl) (by decide) ⟨by omega, by omega⟩ ?_
  refine q_aload_n C dL_law_819 rfl ?_
  refine q_aload_n C dL_law_820 rfl ?_
  refine q_iload C dL_law_821 rfl ?_
  refine x_iconst (v := (1 : Int32)) C dL_law_823 (by decide) ?_
  refine q_iadd C dL_law_824 ?_
  refine x_ialdS C dL_law_825 h (fun v138 h => ?_)
  refine q_aload_n C dL_law_826 rfl ?_
  refine q_iload C dL_law_827 rfl ?_
  refine x_iconst (v := (2 : Int32)) C dL_law_829 (by decide) ?_
  refine q_iadd C dL_law_830 ?_
  refine x_ialdS C dL_law_831 h (fun v139 h => ?_)
  refine q_aload_n C dL_law_832 rfl ?_
  refine q_iload C dL_law_833 rfl ?_
  refine x_iconst (v := (3 : Int32)) C dL_law_835 (by decide) ?_
  refine q_iadd C dL_law_836 ?_
  refine x_ialdS C dL_law_837 h (fun v140 h => ?_)
  obtain ⟨hk, h⟩ := q_obE h
  obtain ⟨⟨u141, M142⟩, e1, h⟩ := q_bind h
  refine x_callV0 C dL_law_838 lkM_L_107 mV_X12_step ⟨_, rfl, rfl⟩ hk (c_X12_step _ _ _ _ _ _ _ e1) rfl rfl (Nat.le_of_ble_eq_true rfl) (by decide) ⟨by omega, by omega⟩ ?_
  refine q_icmp_eq (tgt := 1542) C dL_law_841 (by decide) h (fun _ h => ?_) (fun _ h => ?_)
  · exact q_msk [true, true, true, true, true, false, false] (jW_L_law_1542_23 C l1 l2 l3 l4 M142 (by omega) (by omega) h kC)
  · cases h
set_option maxRecDepth 100000 in
set_option maxHeartbeats 4000000 in
theorem bW_L_law_c19 {K : q_K} {Q : State → Prop} (C : q_C K yL_law cL_law 7 (Option.some Jvm.ClassFile.FieldType.boolean) 195 6000 240000) {ce sl : Nat} (l1 : Nat) (l2 : Nat) (l3 : Nat) (l4 : Int32) (M : q_Mem) (hcm : ce + 10 ≤ 6000) (hsm : sl + 400 ≤ 240000) {stp : (Int32 × q_Mem) ⊕ (q_Mem)} (h : (q_sc (q_kG K) (l4 + (1 : Int32)) (fun v143 => (q_sc (q_kG K) (l4 + (2 : Int32)) (fun v144 => (q_ob M l1 11 ((F_X11_run l1 v143 v144 M).bind (fun x => match x with | (u145, M146) => (q_sc (q_kG K) (l4 + (1 : Int32)) (fun v147 => (q_sc (q_kG K) (l4 + (2 : Int32)) (fun v148 => (q_ob M146 l2 12 ((F_X12_run l2 v147 v148 M146).bind (fun x => match x with | (u149, M150) => (if u145 = u149 then J_L_law_1542_23 (q_kG K) l1 l2 l3 l4 M150 else none))))))))))))))) = some stp) (kC : ∀ (M : q_Mem), stp = .inl (l4 + 6, M) → q_W K 7 Q (ce + 10) (sl + 400) M 23 [some (.ref 35), some (.ref l1), some (.ref l2), some (.ref l3), some (.int (l4 + 6)), none, none] []) : q_W K 7 Q ce sl M 846 [some (.ref 35), some (.ref l1), some (.ref l2), some (.ref l3), some (.int l4), none, none] [] := by
  refine q_aload_n C dL_law_846 rfl ?_
  refine q_aload_n C dL_law_847 rfl ?_
  refine q_iload C dL_law_848 rfl ?_
  refine x_iconst (v := (1 : Int32)) C dL_law_850 (by decide) ?_
  refine q_iadd C dL_law_851 ?_
  refine x_ialdS C dL_law_852 h (fun v143 h => ?_)
  refine q_aload_n C dL_law_853 rfl ?_
  refine q_iload C dL_law_854 rfl ?_
  refine x_iconst (v := (2 : Int32)) C dL_law_856 (by decide) ?_
  refine q_iadd C dL_law_857 ?_
  refine x_ialdS C dL_law_858 h (fun v144 h => ?_)
  obtain ⟨hk, h⟩ := q_obE h
  obtain ⟨⟨u145, M146⟩, e1, h⟩ := q_bind h
  refine x_callV0 C dL_law_859 lkM_L_108 mV_X11_run ⟨_, rfl, rfl⟩ hk (c_X11_run _ _ _ _ _ _ e1) rfl rfl (Nat.le_of_ble_eq_true rfl) (by decide) ⟨by omega, by omega⟩ ?_
  refine q_aload_n C dL_law_862 rfl ?_
  refine q_aload_n C dL_law_863 rfl ?_
  refine q_iload C dL_law_864 rfl ?_
  refine x_iconst (v := (1 : Int32)) C dL_law_866 (by decide) ?_
  refine q_iadd C dL_law_867 ?_
  refine x_ialdS C dL_law_868 h (fun v147 h => ?_)
  refine q_aload_n C dL_law_869 rfl ?_
  refine q_iload C dL_law_870 rfl ?_
  refine x_iconst (v := (2 : Int32)) C dL_law_872 (by decide) ?_
  refine q_iadd C dL_law_873 ?_
  refine x_ialdS C dL_law_874 h (fun v148 h => ?_)
  obtain ⟨hk, h⟩ := q_obE h
  obtain ⟨⟨u149, M150⟩, e1, h⟩ := q_bind h
  refine x_callV0 C dL_law_875 lkM_L_111 mV_X12_run ⟨_, rfl, rfl⟩ hk (c_X12_run _ _ _ _ _ _ e1) rfl rfl (Nat.le_of_ble_eq_true rfl) (by decide) ⟨by omega, by omega⟩ ?_
  refine q_icmp_eq (tgt := 1542) C dL_law_878 (by decide) h (fun _ h => ?_) (fun _ h => ?_)
  · exact q_msk [true, true, true, true, true, false, false] (jW_L_law_1542_23 C l1 l2 l3 l4 M150 (by omega) (by omega) h kC)
  · cases h
