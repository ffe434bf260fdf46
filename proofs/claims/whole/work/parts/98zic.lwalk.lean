/-! the law: its walk (laid by wip/whole/mk_lwalk.py) -/

set_option maxRecDepth 100000 in
set_option maxHeartbeats 4000000 in
theorem bW_L_law_c20 {K : q_K} {Q : State → Prop} (C : q_C K yL_law cL_law 7 (Option.some Jvm.ClassFile.FieldType.boolean) 195 6000 240000) {ce sl : Nat} (l1 : Nat) (l2 : Nat) (l3 : Nat) (l4 : Int32) (M : q_Mem) (hcm : ce + 10 ≤ 6000) (hsm : sl + 400 ≤ 240000) {stp : (Int32 × q_Mem) ⊕ (q_Mem)} (h : (q_sc (q_kG K) (l4 + (1 : Int32)) (fun v151 => (q_ob M l1 11 ((F_X11_perform l1 v151 M).bind (fun x => match x with | (u152, M153) => (q_sc (q_kG K) (l4 + (1 : Int32)) (fun v154 => (q_ob M153 l2 12 ((F_X12_perform l2 v154 M153).bind (fun x => match x with | (u155, M156) => (if u152 = u155 then J_L_law_1542_23 (q_kG K) l1 l2 l3 l4 M156 else none))))))))))) = some stp) (kC : ∀ (M : q_Mem), stp = .inl (l4 + 6, M) → q_W K 7 Q (ce + 10) (sl + 400) M 23 [some (.ref 35), some (.ref l1), some (.ref l2), some (.ref l3), some (.int (l4 + 6)), none, none] []) : q_W K 7 Q ce sl M 883 [some (.ref 35), some (.ref l1), some (.ref l2), some (.ref l3), some (.int l4), none, none] [] := by
  refine q_aload_n C dL_law_883 rfl ?_
  refine q_aload_n C dL_law_884 rfl ?_
  refine q_iload C dL_law_885 rfl ?_
  refine x_iconst (v := (1 : Int32)) C dL_law_887 (by decide) ?_
  refine q_iadd C dL_law_888 ?_
  refine x_ialdS C dL_law_889 h (fun v151 h => ?_)
  obtain ⟨hk, h⟩ := q_obE h
  obtain ⟨⟨u152, M153⟩, e1, h⟩ := q_bind h
  refine x_callV0 C dL_law_890 lkM_L_112 mV_X11_perform ⟨_, rfl, rfl⟩ hk (c_X11_perform _ _ _ _ _ e1) rfl rfl (Nat.le_of_ble_eq_true rfl) (by decide) ⟨by omega, by omega⟩ ?_
  refine q_aload_n C dL_law_893 rfl ?_
  refine q_aload_n C dL_law_894 rfl ?_
  refine q_iload C dL_law_895 rfl ?_
  refine x_iconst (v := (1 : Int32)) C dL_law_897 (by decide) ?_
  refine q_iadd C dL_law_898 ?_
  refine x_ialdS C dL_law_899 h (fun v154 h => ?_)
  obtain ⟨hk, h⟩ := q_obE h
  obtain ⟨⟨u155, M156⟩, e1, h⟩ := q_bind h
  refine x_callV0 C dL_law_900 lkM_L_115 mV_X12_perform ⟨_, rfl, rfl⟩ hk (c_X12_perform _ _ _ _ _ e1) rfl rfl (Nat.le_of_ble_eq_true rfl) (by decide) ⟨by omega, by omega⟩ ?_
  refine q_icmp_eq (tgt := 1542) C dL_law_903 (by decide) h (fun _ h => ?_) (fun _ h => ?_)
  · exact q_msk [true, true, true, true, true, false, false] (jW_L_law_1542_23 C l1 l2 l3 l4 M156 (by omega) (by omega) h kC)
  · cases h
set_option maxRecDepth 100000 in
set_option maxHeartbeats 4000000 in
theorem bW_L_law_c21 {K : q_K} {Q : State → Prop} (C : q_C K yL_law cL_law 7 (Option.some Jvm.ClassFile.FieldType.boolean) 195 6000 240000) {ce sl : Nat} (l1 : Nat) (l2 : Nat) (l3 : Nat) (l4 : Int32) (M : q_Mem) (hcm : ce + 10 ≤ 6000) (hsm : sl + 400 ≤ 240000) {stp : (Int32 × q_Mem) ⊕ (q_Mem)} (h : (q_sc (q_kG K) (l4 + (1 : Int32)) (fun v157 => (q_sc (q_kG K) (l4 + (2 : Int32)) (fun v158 => (q_ob M l1 11 ((F_X11_serves l1 v157 v158 M).bind (fun x => match x with | (u159, M160) => (q_sc (q_kG K) (l4 + (1 : Int32)) (fun v161 => (q_sc (q_kG K) (l4 + (2 : Int32)) (fun v162 => (q_ob M160 l2 12 ((F_X12_serves_ l2 v161 v162 M160).bind (fun x => match x with | (u163, M164) => (if u159 = u163 then J_L_law_1542_23 (q_kG K) l1 l2 l3 l4 M164 else none))))))))))))))) = some stp) (kC : ∀ (M : q_Mem), stp = .inl (l4 + 6, M) → q_W K 7 Q (ce + 10) (sl + 400) M 23 [some (.ref 35), some (.ref l1), some (.ref l2), some (.ref l3), some (.int (l4 + 6)), none, none] []) : q_W K 7 Q ce sl M 908 [some (.ref 35), some (.ref l1), some (.ref l2), some (.ref l3), some (.int l4), none, none] [] := by
  refine q_aload_n C dL_law_908 rfl ?_
  refine q_aload_n C dL_law_909 rfl ?_
  refine q_iload C dL_law_910 rfl ?_
  refine x_iconst (v := (1 : Int32)) C dL_law_912 (by decide) ?_
  refine q_iadd C dL_law_913 ?_
  refine x_ialdS C dL_law_914 h (fun v157 h => ?_)
  refine q_aload_n C dL_law_915 rfl ?_
  refine q_iload C dL_law_916 rfl ?_
  refine x_iconst (v := (2 : Int32)) C dL_law_918 (by decide) ?_
  refine q_iadd C dL_law_919 ?_
  refine x_ialdS C dL_law_920 h (fun v158 h => ?_)
  obtain ⟨hk, h⟩ := q_obE h
  obtain ⟨⟨u159, M160⟩, e1, h⟩ := q_bind h
  refine x_callV0 C dL_law_921 lkM_L_116 mV_X11_serves ⟨_, rfl, rfl⟩ hk (c_X11_serves _ _ _ _ _ _ e1) rfl rfl (Nat.le_of_ble_eq_true rfl) (by decide) ⟨by omega, by omega⟩ ?_
  refine q_aload_n C dL_law_924 rfl ?_
  refine q_aload_n C dL_law_925 rfl ?_
  refine q_iload C dL_law_926 rfl ?_
  refine x_iconst (v := (1 : Int32)) C dL_law_928 (by decide) ?_
  refine q_iadd C dL_law_929 ?_
  refine x_ialdS C dL_law_930 h (fun v161 h => ?_)
  refine q_aload_n C dL_law_931 rfl ?_
  refine q_iload C dL_law_932 rfl ?_
  refine x_iconst (v := (2 : Int32)) C dL_law_934 (by decide) ?_
  refine q_iadd C dL_law_935 ?_
  refine x_ialdS C dL_law_936 h (fun v162 h => ?_)
  obtain ⟨hk, h⟩ := q_obE h
  obtain ⟨⟨u163, M164⟩, e1, h⟩ := q_bind h
  refine x_callV0 C dL_law_937 lkM_L_119 mV_X12_serves_ ⟨_, rfl, rfl⟩ hk (c_X12_serves_ _ _ _ _ _ _ e1) rfl rfl (Nat.le_of_ble_eq_true rfl) (by decide) ⟨by omega, by omega⟩ ?_
  refine q_icmp_eq (tgt := 1542) C dL_law_940 (by decide) h (fun _ h => ?_) (fun _ h => ?_)
  · exact q_msk [true, true, true, true, true, false, false] (jW_L_law_1542_23 C l1 l2 l3 l4 M164 (by omega) (by omega) h kC)
  · cases h
set_option maxRecDepth 100000 in
set_option maxHeartbeats 4000000 in
theorem bW_L_law_c22 {K : q_K} {Q : State → Prop} (C : q_C K yL_law cL_law 7 (Option.some Jvm.ClassFile.FieldType.boolean) 195 6000 240000) {ce sl : Nat} (l1 : Nat) (l2 : Nat) (l3 : Nat) (l4 : Int32) (M : q_Mem) (hcm : ce + 10 ≤ 6000) (hsm : sl + 400 ≤ 240000) {stp : (Int32 × q_Mem) ⊕ (q_Mem)} (h : (q_sc (q_kG K) (l4 + (1 : Int32)) (fun v165 => (q_ob M l1 11 ((F_X11_there l1 v165 M).bind (fun x => match x with | (u166, M167) => (q_sc (q_kG K) (l4 + (1 : Int32)) (fun v168 => (q_ob M167 l2 12 ((F_X12_there l2 v168 M167).bind (fun x => match x with | (u169, M170) => (if u166 = u169 then J_L_law_1542_23 (q_kG K) l1 l2 l3 l4 M170 else none))))))))))) = some stp) (kC : ∀ (M : q_Mem), stp = .inl (l4 + 6, M) → q_W K 7 Q (ce + 10) (sl + 400) M 23 [some (.ref 35), some (.ref l1), some (.ref l2), some (.ref l3), some (.int (l4 + 6)), none, none] []) : q_W K 7 Q ce sl M 945 [some (.ref 35), some (.ref l1), some (.ref l2), some (.ref l3), some (.int l4), none, none] [] := by
  refine q_aload_n C dL_law_945 rfl ?_
  refine q_aload_n C dL_law_946 rfl ?_
  refine q_iload C dL_law_947 rfl ?_
  refine x_iconst (v := (1 : Int32)) C dL_law_949 (by decide) ?_
  refine q_iadd C dL_law_950 ?_
  refine x_ialdS C dL_law_951 h (fun v165 h => ?_)
  obtain ⟨hk, h⟩ := q_obE h
  obtain ⟨⟨u166, M167⟩, e1, h⟩ := q_bind h
  refine x_callV0 C dL_law_952 lkM_L_120 mV_X11_there ⟨_, rfl, rfl⟩ hk (c_X11_there _ _ _ _ _ e1) rfl rfl (Nat.le_of_ble_eq_true rfl) (by decide) ⟨by omega, by omega⟩ ?_
  refine q_aload_n C dL_law_955 rfl ?_
  refine q_aload_n C dL_law_956 rfl ?_
  refine q_iload C dL_law_957 rfl ?_
  refine x_iconst (v := (1 : Int32)) C dL_law_959 (by decide) ?_
  refine q_iadd C dL_law_960 ?_
  refine x_ialdS C dL_law_961 h (fun v168 h => ?_)
  obtain ⟨hk, h⟩ := q_obE h
  obtain ⟨⟨u169, M170⟩, e1, h⟩ := q_bind h
  refine x_callV0 C dL_law_962 lkM_L_123 mV_X12_there ⟨_, rfl, rfl⟩ hk (c_X12_there _ _ _ _ _ e1) rfl rfl (Nat.le_of_ble_eq_true rfl) (by decide) ⟨by omega, by omega⟩ ?_
  refine q_icmp_eq (tgt := 1542) C dL_law_965 (by decide) h (fun _ h => ?_) (fun _ h => ?_)
  · exact q_msk [true, true, true, true, true, false, false] (jW_L_law_1542_23 C l1 l2 l3 l4 M170 (by omega) (by omega) h kC)
  · cases h
set_option maxRecDepth 100000 in
set_option maxHeartbeats 4000000 in
theorem bW_L_law_c23 {K : q_K} {Q : State → Prop} (C : q_C K yL_law cL_law 7 (Option.some Jvm.ClassFile.FieldType.boolean) 195 6000 240000) {ce sl : Nat} (l1 : Nat) (l2 : Nat) (l3 : Nat) (l4 : Int32) (M : q_Mem) (hcm : ce + 10 ≤ 6000) (hsm : sl + 400 ≤ 240000) {stp : (Int32 × q_Mem) ⊕ (q_Mem)} (h : (q_sc (q_kG K) (l4 + (1 : Int32)) (fun v171 => (q_ob M l1 11 ((F_X11_fed l1 v171 M).bind (fun x => match x with | (u172, M173) => (q_sc (q_kG K) (l4 + (1 : Int32)) (fun v174 => (q_ob M173 l2 12 ((F_X12_fed l2 v174 M173).bind (fun x => match x with | (u175, M176) => (if u172 = u175 then J_L_law_1542_23 (q_kG K) l1 l2 l3 l4 M176 else none))))))))))) = some stp) (kC : ∀ (M : q_Mem), stp = .inl (l4 + 6, M) → q_W K 7 Q (ce + 10) (sl + 400) M 23 [some (.ref 35), some (.ref l1), some (.ref l2), some (.ref l3), some (.int (l4 + 6)), none, none] []) : q_W K 7 Q ce sl M 970 [some (.ref 35), some (.ref l1), some (.ref l2), some (.ref l3), some (.int l4), none, none] [] := by
  refine q_aload_n C dL_law_970 rfl ?_
  refine q_aload_n C dL_law_971 rfl ?_
  refine q_iload C dL_law_972 rfl ?_
  refine x_iconst (v := (1 : Int32)) C dL_law_974 (by decide) ?_
  refine q_iadd C dL_law_975 ?_
  refine x_ialdS C dL_law_976 h (fun v171 h => ?_)
  obtain ⟨hk, h⟩ := q_obE h
  obtain ⟨⟨u172, M173⟩, e1, h⟩ := q_bind h
  refine x_callV0 C dL_law_977 lkM_L_124 mV_X11_fed ⟨_, rfl, rfl⟩ hk (c_X11_fed _ _ _ _ _ e1) rfl rfl (Nat.le_of_ble_eq_true rfl) (by decide) ⟨by omega, by omega⟩ ?_
  refine q_aload_n C dL_law_980 rfl ?_
  refine q_aload_n C dL_law_981 rfl ?_
  refine q_iload C dL_law_982 rfl ?_
  refine x_iconst (v := (1 : Int32)) C dL_law_984 (by decide) ?_
  refine q_iadd C dL_law_985 ?_
  refine x_ialdS C dL_law_986 h (fun v174 h => ?_)
  obtain ⟨hk, h⟩ := q_obE h
  obtain ⟨⟨u175, M176⟩, e1, h⟩ := q_bind h
  refine x_callV0 C dL_law_987 lkM_L_127 mV_X12_fed ⟨_, rfl, rfl⟩ hk (c_X12_fed _ _ _ _ _ e1) rfl rfl (Nat.le_of_ble_eq_true rfl) (by decide) ⟨by omega, by omega⟩ ?_
  refine q_icmp_eq (tgt := 1542) C dL_law_990 (by decide) h (fun _ h => ?_) (fun _ h => ?_)
  · exact q_msk [true, true, true, true, true, false, false] (jW_L_law_1542_23 C l1 l2 l3 l4 M176 (by omega) (by omega) h kC)
  · cases h
set_option maxRecDepth 100000 in
set_option maxHeartbeats 4000000 in
theorem bW_L_law_c24 {K : q_K} {Q : State → Prop} (C : q_C K yL_law cL_law 7 (Option.some Jvm.ClassFile.FieldType.boolean) 195 6000 240000) {ce sl : Nat} (l1 : Nat) (l2 : Nat) (l3 : Nat) (l4 : Int32) (M : q_Mem) (hcm : ce + 10 ≤ 6000) (hsm : sl + 400 ≤ 240000) {stp : (Int32 × q_Mem) ⊕ (q_Mem)} (h : (q_sc (q_kG K) (l4 + (1 : Int32)) (fun v177 => (q_sc (q_kG K) (l4 + (2 : Int32)) (fun v178 => (q_ob M l1 11 ((F_X11_best l1 v177 v178 M).bind (fun x => match x with | (u179, M180) => (q_sc (q_kG K) (l4 + (1 : Int32)) (fun v181 => (q_sc (q_kG K) (l4 + (2 : Int32)) (fun v182 => (q_ob M180 l2 12 ((F_X12_best l2 v181 v182 M180).bind (fun x => match x with | (u183, M184) => (if u179 = u183 then J_L_law_1542_23 (q_kG K) l1 l2 l3 l4 M184 else none))))))))))))))) = some stp) (kC : ∀ (M : q_Mem), stp = .inl (l4 + 6, M) → q_W K 7 Q (ce + 10) (sl + 400) M 23 [some (.ref 35), some (.ref l1), some (.ref l2), some (.ref l3), some (.int (l4 + 6)), none, none] []) : q_W K 7 Q ce sl M 995 [some (.ref 35), some (.ref l1), some (.ref l2), some (.ref l3), some (.int l4), none, none] [] := by
  refine q_aload_n C dL_law_995 rfl ?_
  refine q_aload_n C dL_law_996 rfl ?_
  refine q_iload C dL_law_997 rfl ?_
  refine x_iconst (v := (1 : Int32)) C dL_law_999 (by decide) ?_
  refine q_iadd C dL_law_1000 ?_
  refine x_ialdS C dL_law_1001 h (fun v177 h => ?_)
  refine q_aload_n C dL_law_1002 rfl ?_
  refine q_iload C dL_law_1003 rfl ?_
  refine x_iconst (v := (2 : Int32)) C dL_law_1005 (by decide) ?_
  refine q_iadd C dL_law_1006 ?_
  refine x_ialdS C dL_law_1007 h (fun v178 h => ?_)
  obtain ⟨hk, h⟩ := q_obE h
  obtain ⟨⟨u179, M180⟩, e1, h⟩ := q_bind h
  refine x_callV0 C dL_law_1008 lkM_L_128 mV_X11_best ⟨_, rfl, rfl⟩ hk (c_X11_best _ _ _ _ _ _ e1) rfl rfl (Nat.le_of_ble_eq_true rfl) (by decide) ⟨by omega, by omega⟩ ?_
  refine q_aload_n C dL_law_1011 rfl ?_
  refine q_aload_n C dL_law_1012 rfl ?_
  refine q_iload C dL_law_1013 rfl ?_
  refine x_iconst (v := (1 : Int32)) C dL_law_1015 (by decide) ?_
  refine q_iadd C dL_law_1016 ?_
  refine x_ialdS C dL_law_1017 h (fun v181 h => ?_)
  refine q_aload_n C dL_law_1018 rfl ?_
  refine q_iload C dL_law_1019 rfl ?_
  refine x_iconst (v := (2 : Int32)) C dL_law_1021 (by decide) ?_
  refine q_iadd C dL_law_1022 ?_
  refine x_ialdS C dL_law_1023 h (fun v182 h => ?_)
  obtain ⟨hk, h⟩ := q_obE h
  obtain ⟨⟨u183, M184⟩, e1, h⟩ := q_bind h
  refine x_callV0 C dL_law_1024 lkM_L_131 mV_X12_best ⟨_, rfl, rfl⟩ hk (c_X12_best _ _ _ _ _ _ e1) rfl rfl (Nat.le_of_ble_eq_true rfl) (by decide) ⟨by omega, by omega⟩ ?_
  refine q_icmp_eq (tgt := 1542) C dL_law_1027 (by decide) h (fun _ h => ?_) (fun _ h => ?_)
  · exact q_msk [true, true, true, true, true, false, false] (jW_L_law_1542_23 C l1 l2 l3 l4 M184 (by omega) (by omega) h kC)
  · cases h
set_option maxRecDepth 100000 in
set_option maxHeartbeats 4000000 in
theorem bW_L_law_c25 {K : q_K} {Q : State → Prop} (C : q_C K yL_law cL_law 7 (Option.some Jvm.ClassFile.FieldType.boolean) 195 6000 240000) {ce sl : Nat} (l1 : Nat) (l2 : Nat) (l3 : Nat) (l4 : Int32) (M : q_Mem) (hcm : ce + 10 ≤ 6000) (hsm : sl + 400 ≤ 240000) {stp : (Int32 × q_Mem) ⊕ (q_Mem)} (h : (q_sc (q_kG K) (l4 + (1 : Int32)) (fun v185 => (q_ob M l1 11 ((F_X11_madeUp l1 v185 M).bind (fun x => match x with | (u186, M187) => (q_sc (q_kG K) (l4 + (1 : Int32)) (fun v188 => (q_ob M187 l2 12 ((F_X12_madeUp l2 v188 M187).bind (fun x => match x with | (u189, M190) => (if u186 = u189 then J_L_law_1542_23 (q_kG K) l1 l2 l3 l4 M190 else none))))))))))) = some stp) (kC : ∀ (M : q_Mem), stp = .inl (l4 + 6, M) → q_W K 7 Q (ce + 10) (sl + 400) M 23 [some (.ref 35), some (.ref l1), some (.ref l2), some (.ref l3), some (.int (l4 + 6)), none, none] []) : q_W K 7 Q ce sl M 1032 [some (.ref 35), some (.ref l1), some (.ref l2), some (.ref l3), some (.int l4), none, none] [] := by
  refine q_aload_n C dL_law_1032 rfl ?_
  refine q_aload_n C dL_law_1033 rfl ?_
  refine q_iload C dL_law_1034 rfl ?_
  refine x_iconst (v := (1 : Int32)) C dL_law_1036 (by decide) ?_
  refine q_iadd C dL_law_1037 ?_
  refine x_ialdS C dL_law_1038 h (fun v185 h => ?_)
  obtain ⟨hk, h⟩ := q_obE h
  obtain ⟨⟨u186, M187⟩, e1, h⟩ := q_bind h
  refine x_callV0 C dL_law_1039 lkM_L_132 mV_X11_madeUp ⟨_, rfl, rfl⟩ hk (c_X11_madeUp _ _ _ _ _ e1) rfl rfl (Nat.le_of_ble_eq_true rfl) (by decide) ⟨by omega, by omega⟩ ?_
  refine q_aload_n C dL_law_1042 rfl ?_
  refine q_aload_n C dL_law_1043 rfl ?_
  refine q_iload C dL_law_1044 rfl ?_
  refine x_iconst (v := (1 : Int32)) C dL_law_1046 (by decide) ?_
  refine q_iadd C dL_law_1047 ?_
  refine x_ialdS C dL_law_1048 h (fun v188 h => ?_)
  obtain ⟨hk, h⟩ := q_obE h
  obtain ⟨⟨u189, M190⟩, e1, h⟩ := q_bind h
  refine x_callV0 C dL_law_1049 lkM_L_135 mV_X12_madeUp ⟨_, rfl, rfl⟩ hk (c_X12_madeUp _ _ _ _ _ e1) rfl rfl (Nat.le_of_ble_eq_true rfl) (by decide) ⟨by omega, by omega⟩ ?_
  refine q_icmp_eq (tgt := 1542) C dL_law_1052 (by decide) h (fun _ h => ?_) (fun _ h => ?_)
  · exact q_msk [true, true, true, true, true, false, false] (jW_L_law_1542_23 C l1 l2 l3 l4 M190 (by omega) (by omega) h kC)
  · cases h
set_option maxRecDepth 100000 in
set_option maxHeartbeats 4000000 in
theorem bW_L_law_c26 {K : q_K} {Q : State → Prop} (C : q_C K yL_law cL_law 7 (Option.some Jvm.ClassFile.FieldType.boolean) 195 6000 240000) {ce sl : Nat} (l1 : Nat) (l2 : Nat) (l3 : Nat) (l4 : Int32) (M : q_Mem) (hcm : ce + 10 ≤ 6000) (hsm : sl + 400 ≤ 240000) {stp : (Int32 × q_Mem) ⊕ (q_Mem)} (h : (q_sc (q_kG K) (l4 + (1 : Int32)) (fun v191 => (q_sc (q_kG K) (l4 + (2 : Int32)) (fun v192 => (q_sc (q_kG K) (l4 + (3 : Int32)) (fun v193 => (q_sc (q_kG K) (l4 + (4 : Int32)) (fun v194 => (q_sc (q_kG K) (l4 + (5 : Int32)) (fun v195 => (if v195 = 0 then J_L_law_1096_23 (q_kG K) l1 l2 l3 l4 l1 v191 v192 v193 v194 (0 : Int32) M else J_L_law_1096_23 (q_kG K) l1 l2 l3 l4 l1 v191 v192 v193 v194 (1 : Int32) M))))))))))) = some stp) (kC : ∀ (M : q_Mem), stp = .inl (l4 + 6, M) → q_W K 7 Q (ce + 10) (sl + 400) M 23 [some (.ref 35), some (.ref l1), some (.ref l2), some (.ref l3), some (.int (l4 + 6)), none, none] []) : q_W K 7 Q ce sl M 1057 [some (.ref 35), some (.ref l1), some (.ref l2), some (.ref l3), some (.int l4), none, none] [] := by
  refine q_aload_n C dL_law_1057 rfl ?_
  refine q_aload_n C dL_law_1058 rfl ?_
  refine q_iload C dL_law_1059 rfl ?_
  refine x_iconst (v := (1 : Int32)) C dL_law_1061 (by decide) ?_
  refine q_iadd C dL_law_1062 ?_
  refine x_ialdS C dL_law_1063 h (fun v191 h => ?_)
  refine q_aload_n C dL_law_1064 rfl ?_
  refine q_iload C dL_law_1065 rfl ?_
  refine x_iconst (v := (2 : Int32)) C dL_law_1067 (by decide) ?_
  refine q_iadd C dL_law_1068 ?_
  refine x_ialdS C dL_law_1069 h (fun v192 h => ?_)
  refine q_aload_n C dL_law_1070 rfl ?_
  refine q_iload C dL_law_1071 rfl ?_
  refine x_iconst (v := (3 : Int32)) C dL_law_1073 (by decide) ?_
  refine q_iadd C dL_law_1074 ?_
  refine x_ialdS C dL_law_1075 h (fun v193 h => ?_)
  refine q_aload_n C dL_law_1076 rfl ?_
  refine q_iload C dL_law_1077 rfl ?_
  refine x_iconst (v := (4 : Int32)) C dL_law_1079 (by decide) ?_
  refine q_iadd C dL_law_1080 ?_
  refine x_ialdS C dL_law_1081 h (fun v194 h => ?_)
  refine q_aload_n C dL_law_1082 rfl ?_
  refine q_iload C dL_law_1083 rfl ?_
  refine x_iconst (v := (5 : Int32)) C dL_law_1085 (by decide) ?_
  refine q_iadd C dL_law_1086 ?_
  refine x_ialdS C dL_law_1087 h (fun v195 h => ?_)
  refine q_if_eq (tgt := 1095) C dL_law_1088 (by decide) h (fun _ h => ?_) (fun _ h => ?_)
  · refine x_iconst (v := (0 : Int32)) C dL_law_1095 (by decide) ?_
    exact q_msk [true, true, true, true, true, false, false] (jW_L_law_1096_23 C l1 l2 l3 l4 l1 v191 v192 v193 v194 (0 : Int32) M (by omega) (by omega) (by omega) (by omega) h kC)
  · refine x_iconst (v := (1 : Int32)) C dL_law_1091 (by decide) ?_
    refine q_goto (tgt := 1096) C dL_law_1092 (by decide) ?_
    exact q_msk [true, true, true, true, true, false, false] (jW_L_law_1096_23 C l1 l2 l3 l4 l1 v191 v192 v193 v194 (1 : Int32) M (by omega) (by omega) (by omega) (by omega) h kC)
set_option maxRecDepth 100000 in
set_option maxHeartbeats 4000000 in
theorem bW_L_law_c27 {K : q_K} {Q : State → Prop} (C : q_C K yL_law cL_law 7 (Option.some Jvm.ClassFile.FieldType.boolean) 195 6000 240000) {ce sl : Nat} (l1 : Nat) (l2 : Nat) (l3 : Nat) (l4 : Int32) (M : q_Mem) (hcm : ce + 10 ≤ 6000) (hsm : sl + 400 ≤ 240000) {stp : (Int32 × q_Mem) ⊕ (q_Mem)} (h : (q_sc (q_kG K) (l4 + (1 : Int32)) (fun v205 => (q_ob M l1 11 ((F_X11_likes l1 v205 M).bind (fun x => match x with | (u206, M207) => (q_sc (q_kG K) (l4 + (1 : Int32)) (fun v208 => (q_ob M207 l2 12 ((F_X12_likes l2 v208 M207).bind (fun x => match x with | (u209, M210) => (if u206 = u209 then J_L_law_1542_23 (q_kG K) l1 l2 l3 l4 M210 else none))))))))))) = some stp) (kC : ∀ (M : q_Mem), stp = .inl (l4 + 6, M) → q_W K 7 Q (ce + 10) (sl + 400) M 23 [some (.ref 35), some (.ref l1), some (.ref l2), some (.ref l3), some (.int (l4 + 6)), none, none] []) : q_W K 7 Q ce sl M 1146 [some (.ref 35), some (.ref l1), some (.ref l2), some (.ref l3), some (.int l4), none, none] [] := by
  refine q_aload_n C dL_law_1146 rfl ?_
  refine q_aload_n C dL_law_1147 rfl ?_
  refine q_iload C dL_law_1148 rfl ?_
  refine x_iconst (v := (1 : Int32)) C dL_law_1150 (by decide) ?_
  refine q_iadd C dL_law_1151 ?_
  refine x_ialdS C dL_law_1152 h (fun v205 h => ?_)
  obtain ⟨hk, h⟩ := q_obE h
  obtain ⟨⟨u206, M207⟩, e1, h⟩ := q_bind h
  refine x_callV0 C dL_law_1153 lkM_L_141 mV_X11_likes ⟨_, rfl, rfl⟩ hk (c_X11_likes _ _ _ _ _ e1) rfl rfl (Nat.le_of_ble_eq_true rfl) (by decide) ⟨by omega, by omega⟩ ?_
  refine q_aload_n C dL_law_1156 rfl ?_
  refine q_aload_n C dL_law_1157 rfl ?_
  refine q_iload C dL_law_1158 rfl ?_
  refine x_iconst (v := (1 : Int32)) C dL_law_1160 (by decide) ?_
  refine q_iadd C dL_law_1161 ?_
  refine x_ialdS C dL_law_1162 h (fun v208 h => ?_)
  obtain ⟨hk, h⟩ := q_obE h
  obtain ⟨⟨u209, M210⟩, e1, h⟩ := q_bind h
  refine x_callV0 C dL_law_1163 lkM_L_144 mV_X12_likes ⟨_, rfl, rfl⟩ hk (c_X12_likes _ _ _ _ _ e1) rfl rfl (Nat.le_of_ble_eq_true rfl) (by decide) ⟨by omega, by omega⟩ ?_
  refine q_icmp_eq (tgt := 1542) C dL_law_1166 (by decide) h (fun _ h => ?_) (fun _ h => ?_)
  · exact q_msk [true, true, true, true, true, false, false] (jW_L_law_1542_23 C l1 l2 l3 l4 M210 (by omega) (by omega) h kC)
  · cases h
set_option maxRecDepth 100000 in
set_option maxHeartbeats 4000000 in
theorem bW_L_law_c28 {K : q_K} {Q : State → Prop} (C : q_C K yL_law cL_law 7 (Option.some Jvm.ClassFile.FieldType.boolean) 195 6000 240000) {ce sl : Nat} (l1 : Nat) (l2 : Nat) (l3 : Nat) (l4 : Int32) (M : q_Mem) (hcm : ce + 10 ≤ 6000) (hsm : sl + 400 ≤ 240000) {stp : (Int32 × q_Mem) ⊕ (q_Mem)} (h : (q_sc (q_kG K) (l4 + (1 : Int32)) (fun v211 => (q_sc (q_kG K) (l4 + (2 : Int32)) (fun v212 => (q_sc (q_kG K) (l4 + (3 : Int32)) (fun v213 => (q_ob M l1 11 ((F_X11_probe l1 v211 v212 v213 M).bind (fun x => match x with | (u214, M215) => (q_sc (q_kG K) (l4 + (1 : Int32)) (fun v216 => (q_sc (q_kG K) (l4 + (2 : Int32)) (fun v217 => (q_sc (q_kG K) (l4 + (3 : Int32)) (fun v218 => (q_ob M215 l2 12 ((F_X12_probe l2 v216 v217 v218 M215).bind (fun x => match x with | (u219, M220) => (if u214 = u219 then J_L_law_1542_23 (q_kG K) l1 l2 l3 l4 M220 else none))))))))))))))))))) = some stp) (kC : ∀ (M : q_Mem), stp = .inl (l4 + 6, M) → q_W K 7 Q (ce + 10) (sl + 400) M 23 [some (.ref 35), some (.ref l1), some (.ref l2), some (.ref l3), some (.int (l4 + 6)), none, none] []) : q_W K 7 Q ce sl M 1171 [some (.ref 35), some (.ref l1), some (.ref l2), some (.ref l3), some (.int l4), none, none] [] := by
  refine q_aload_n C dL_law_1171 rfl ?_
  refine q_aload_n C dL_law_1172 rfl ?_
  refine q_iload C dL_law_1173 rfl ?_
  refine x_iconst (v := (1 : Int32)) C dL_law_1175 (by decide) ?_
  refine q_iadd C dL_law_1176 ?_
  refine x_ialdS C dL_law_1177 h (fun v211 h => ?_)
  refine q_aload_n C dL_law_1178 rfl ?_
  refine q_iload C dL_law_1179 rfl ?_
  refine x_iconst (v := (2 : Int32)) C dL_law_1181 (by decide) ?_
  refine q_iadd C dL_law_1182 ?_
  refine x_ialdS C dL_law_1183 h (fun v212 h => ?_)
  refine q_aload_n C dL_law_1184 rfl ?_
  refine q_iload C dL_law_1185 rfl ?_
  refine x_iconst (v := (3 : Int32)) C dL_law_1187 (by decide) ?_
  refine q_iadd C dL_law_1188 ?_
  refine x_ialdS C dL_law_1189 h (fun v213 h => ?_)
  obtain ⟨hk, h⟩ := q_obE h
  obtain ⟨⟨u214, M215⟩, e1, h⟩ := q_bind h
  refine x_callV0 C dL_law_1190 lkM_L_145 mV_X11_probe ⟨_, rfl, rfl⟩ hk (c_X11_probe _ _ _ _ _ _ _ e1) rfl rfl (Nat.le_of_ble_eq_true rfl) (by decide) ⟨by omega, by omega⟩ ?_
  refine q_aload_n C dL_law_1193 rfl ?_
  refine q_aload_n C dL_law_1194 rfl ?_
  refine q_iload C dL_law_1195 rfl ?_
  refine x_iconst (v := (1 : Int32)) C dL_law_1197 (by decide) ?_
  refine q_iadd C dL_law_1198 ?_
  refine x_ialdS C dL_law_1199 h (fun v216 h => ?_)
  refine q_aload_n C dL_law_1200 rfl ?_
  refine q_iload C dL_law_1201 rfl ?_
  refine x_iconst (v := (2 : Int32)) C dL_law_1203 (by decide) ?_
  refine q_iadd C dL_law_1204 ?_
  refine x_ialdS C dL_law_1205 h (fun v217 h => ?_)
  refine q_aload_n C dL_law_1206 rfl ?_
  refine q_iload C dL_law_1207 rfl ?_
  refine x_iconst (v := (3 : Int32)) C dL_law_1209 (by decide) ?_
  refine q_iadd C dL_law_1210 ?_
  refine x_ialdS C dL_law_1211 h (fun v218 h => ?_)
  obtain ⟨hk, h⟩ := q_obE h
  obtain ⟨⟨u219, M220⟩, e1, h⟩ := q_bind h
  refine x_callV0 C dL_law_1212 lkM_L_148 mV_X12_probe ⟨_, rfl, rfl⟩ hk (c_X12_probe _ _ _ _ _ _ _ e1) rfl rfl (Nat.le_of_ble_eq_true rfl) (by decide) ⟨by omega, by omega⟩ ?_
  refine q_icmp_eq (tgt := 1542) C dL_law_1215 (by decide) h (fun _ h => ?_) (fun _ h => ?_)
  · exact q_msk [true, true, true, true, true, false, false] (jW_L_law_1542_23 C l1 l2 l3 l4 M220 (by omega) (by omega) h kC)
  · cases h
set_option maxRecDepth 100000 in
set_option maxHeartbeats 4000000 in
theorem bW_L_law_c29 {K : q_K} {Q : State → Prop} (C : q_C K yL_law cL_law 7 (Option.some Jvm.ClassFile.FieldType.boolean) 195 6000 240000) {ce sl : Nat} (l1 : Nat) (l2 : Nat) (l3 : Nat) (l4 : Int32) (M : q_Mem) (hcm : ce + 10 ≤ 6000) (hsm : sl + 400 ≤ 240000) {stp : (Int32 × q_Mem) ⊕ (q_Mem)} (h : (q_sc (q_kG K) (l4 + (1 : Int32)) (fun v221 => (q_ob M l1 11 ((F_X11_leaves l1 v221 M).bind (fun x => match x with | (u222, M223) => (q_sc (q_kG K) (l4 + (1 : Int32)) (fun v224 => (q_ob M223 l2 12 ((F_X12_leaves l2 v224 M223).bind (fun x => match x with | (u225, M226) => (if u222 = u225 then J_L_law_1542_23 (q_kG K) l1 l2 l3 l4 M226 else none))))))))))) = some stp) (kC : ∀ (M : q_Mem), stp = .inl (l4 + 6, M) → q_W K 7 Q (ce + 10) (sl + 400) M 23 [some (.ref 35), some (.ref l1), some (.ref l2), some (.ref l3), some (.int (l4 + 6)), none, none] []) : q_W K 7 Q ce sl M 1220 [some (.ref 35), some (.ref l1), some (.ref l2), some (.ref l3), some (.int l4), none, none] [] := by
  refine q_aload_n C dL_law_1220 rfl ?_
  refine q_aload_n C dL_law_1221 rfl ?_
  refine q_iload C dL_law_1222 rfl ?_
  refine x_iconst (v := (1 : Int32)) C dL_law_1224 (by decide) ?_
  refine q_iadd C dL_law_1225 ?_
  refine x_ialdS C dL_law_1226 h (fun v221 h => ?_)
  obtain ⟨hk, h⟩ := q_obE h
  obtain ⟨⟨u222, M223⟩, e1, h⟩ := q_bind h
  refine x_callV0 C dL_law_1227 lkM_L_149 mV_X11_leaves ⟨_, rfl, rfl⟩ hk (c_X11_leaves _ _ _ _ _ e1) rfl rfl (Nat.le_of_ble_eq_true rfl) (by decide) ⟨by omega, by omega⟩ ?_
  refine q_aload_n C dL_law_1230 rfl ?_
  refine q_aload_n C dL_law_1231 rfl ?_
  refine q_iload C dL_law_1232 rfl ?_
  refine x_iconst (v := (1 : Int32)) C dL_law_1234 (by decide) ?_
  refine q_iadd C dL_law_1235 ?_
  refine x_ialdS C dL_law_1236 h (fun v224 h => ?_)
  obtain ⟨hk, h⟩ := q_obE h
  obtain ⟨⟨u225, M226⟩, e1, h⟩ := q_bind h
  refine x_callV0 C dL_law_1237 lkM_L_152 mV_X12_leaves ⟨_, rfl, rfl⟩ hk (c_X12_leaves _ _ _ _ _ e1) rfl rfl (Nat.le_of_ble_eq_true rfl) (by decide) ⟨by omega, by omega⟩ ?_
  refine q_icmp_eq (tgt := 1542) C dL_law_1240 (by decide) h (fun _ h => ?_) (fun _ h => ?_)
  · exact q_msk [true, true, true, true, true, false, false] (jW_L_law_1542_23 C l1 l2 l3 l4 M226 (by omega) (by omega) h kC)
  · cases h
