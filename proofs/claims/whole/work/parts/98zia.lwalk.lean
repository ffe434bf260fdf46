/-! the law: its walk (laid by wip/whole/mk_lwalk.py) -/
theorem yw_0 : Cond.initialized yL_guest.cls ∈ q_gw := q_gwm 0 rfl rfl
set_option maxRecDepth 100000 in
set_option maxHeartbeats 4000000 in
theorem jW_L_law_1542_23 {K : q_K} {Q : State → Prop} (C : q_C K yL_law cL_law 7 (Option.some Jvm.ClassFile.FieldType.boolean) 195 6000 240000) {ce sl ce1 sl1 : Nat} (l1 : Nat) (l2 : Nat) (l3 : Nat) (l4 : Int32)  (M : q_Mem) (hc : ce ≤ ce1) (hs : sl ≤ sl1) {stp : (Int32 × q_Mem) ⊕ (q_Mem)} (h : J_L_law_1542_23 (q_kG K) l1 l2 l3 l4 M = some stp) (kC : ∀ (M : q_Mem), stp = .inl (l4 + 6, M) → q_W K 7 Q ce1 sl1 M 23 [some (.ref 35), some (.ref l1), some (.ref l2), some (.ref l3), some (.int (l4 + 6)), none, none] []) : q_W K 7 Q ce sl M 1542 [some (.ref 35), some (.ref l1), some (.ref l2), some (.ref l3), some (.int l4), none, none] [] := by
  unfold J_L_law_1542_23 at h
  refine x_iinc (w := (6 : Int32)) (L' := [some (.ref 35), some (.ref l1), some (.ref l2), some (.ref l3), some (.int (l4 + (6 : Int32))), none, none]) C dL_law_1542 rfl (by decide) (by decide) rfl rfl ?_
  refine q_goto (tgt := 23) C dL_law_1545 (by decide) ?_
  exact q_msk [true, true, true, true, true, false, false] (q_widen hc hs (kC _ (Option.some.inj h).symm))
set_option maxRecDepth 100000 in
set_option maxHeartbeats 4000000 in
theorem jW_L_law_487_23 {K : q_K} {Q : State → Prop} (C : q_C K yL_law cL_law 7 (Option.some Jvm.ClassFile.FieldType.boolean) 195 6000 240000) {ce sl ce1 sl1 : Nat} (l1 : Nat) (l2 : Nat) (l3 : Nat) (l4 : Int32)  (M : q_Mem) (hc : ce ≤ ce1) (hs : sl ≤ sl1) {stp : (Int32 × q_Mem) ⊕ (q_Mem)} (h : J_L_law_487_23 (q_kG K) l1 l2 l3 l4 M = some stp) (kC : ∀ (M : q_Mem), stp = .inl (l4 + 6, M) → q_W K 7 Q ce1 sl1 M 23 [some (.ref 35), some (.ref l1), some (.ref l2), some (.ref l3), some (.int (l4 + 6)), none, none] []) : q_W K 7 Q ce sl M 487 [some (.ref 35), some (.ref l1), some (.ref l2), some (.ref l3), some (.int l4), none, none] [] := by
  unfold J_L_law_487_23 at h
  refine q_goto (tgt := 1542) C dL_law_487 (by decide) ?_
  exact q_msk [true, true, true, true, true, false, false] (jW_L_law_1542_23 C l1 l2 l3 l4 M (by omega) (by omega) h kC)
set_option maxRecDepth 100000 in
set_option maxHeartbeats 4000000 in
theorem jW_L_law_1138_23 {K : q_K} {Q : State → Prop} (C : q_C K yL_law cL_law 7 (Option.some Jvm.ClassFile.FieldType.boolean) 195 6000 240000) {ce sl ce1 sl1 : Nat} (l1 : Nat) (l2 : Nat) (l3 : Nat) (l4 : Int32) (s0 : Int32) (s1 : Nat) (s2 : Int32) (s3 : Int32) (s4 : Int32) (s5 : Int32) (s6 : Int32) (M : q_Mem) (hcm : ce + 10 ≤ 6000) (hsm : sl + 400 ≤ 240000) (hc : ce ≤ ce1) (hs : sl ≤ sl1) {stp : (Int32 × q_Mem) ⊕ (q_Mem)} (h : J_L_law_1138_23 (q_kG K) l1 l2 l3 l4 s0 s1 s2 s3 s4 s5 s6 M = some stp) (kC : ∀ (M : q_Mem), stp = .inl (l4 + 6, M) → q_W K 7 Q ce1 sl1 M 23 [some (.ref 35), some (.ref l1), some (.ref l2), some (.ref l3), some (.int (l4 + 6)), none, none] []) : q_W K 7 Q ce sl M 1138 [some (.ref 35), some (.ref l1), some (.ref l2), some (.ref l3), some (.int l4), none, none] [.int s6, .int s5, .int s4, .int s3, .int s2, .ref s1, .int s0] := by
  unfold J_L_law_1138_23 at h
  obtain ⟨hk, h⟩ := q_obE h
  obtain ⟨⟨u203, M204⟩, e1, h⟩ := q_bind h
  refine x_callV0 C dL_law_1138 lkM_L_140 mV_X12_seen ⟨_, rfl, rfl⟩ hk (c_X12_seen _ _ _ _ _ _ _ _ _ e1) rfl rfl (Nat.le_of_ble_eq_true rfl) (by decide) ⟨by omega, by omega⟩ ?_
  refine q_icmp_eq (tgt := 1542) C dL_law_1141 (by decide) h (fun _ h => ?_) (fun _ h => ?_)
  · exact q_msk [true, true, true, true, true, false, false] (jW_L_law_1542_23 C l1 l2 l3 l4 M204 (by omega) (by omega) h kC)
  · cases h
set_option maxRecDepth 100000 in
set_option maxHeartbeats 4000000 in
theorem jW_L_law_1096_23 {K : q_K} {Q : State → Prop} (C : q_C K yL_law cL_law 7 (Option.some Jvm.ClassFile.FieldType.boolean) 195 6000 240000) {ce sl ce1 sl1 : Nat} (l1 : Nat) (l2 : Nat) (l3 : Nat) (l4 : Int32) (s0 : Nat) (s1 : Int32) (s2 : Int32) (s3 : Int32) (s4 : Int32) (s5 : Int32) (M : q_Mem) (hcm : ce + 10 ≤ 6000) (hsm : sl + 400 ≤ 240000) (hc : ce ≤ ce1) (hs : sl ≤ sl1) {stp : (Int32 × q_Mem) ⊕ (q_Mem)} (h : J_L_law_1096_23 (q_kG K) l1 l2 l3 l4 s0 s1 s2 s3 s4 s5 M = some stp) (kC : ∀ (M : q_Mem), stp = .inl (l4 + 6, M) → q_W K 7 Q ce1 sl1 M 23 [some (.ref 35), some (.ref l1), some (.ref l2), some (.ref l3), some (.int (l4 + 6)), none, none] []) : q_W K 7 Q ce sl M 1096 [some (.ref 35), some (.ref l1), some (.ref l2), some (.ref l3), some (.int l4), none, none] [.int s5, .int s4, .int s3, .int s2, .int s1, .ref s0] := by
  unfold J_L_law_1096_23 at h
  obtain ⟨hk, h⟩ := q_obE h
  obtain ⟨⟨u196, M197⟩, e1, h⟩ := q_bind h
  refine x_callV0 C dL_law_1096 lkM_L_136 mV_X11_seen ⟨_, rfl, rfl⟩ hk (c_X11_seen _ _ _ _ _ _ _ _ _ e1) rfl rfl (Nat.le_of_ble_eq_true rfl) (by decide) ⟨by omega, by omega⟩ ?_
  refine q_aload_n C dL_law_1099 rfl ?_
  refine q_aload_n C dL_law_1100 rfl ?_
  refine q_iload C dL_law_1101 rfl ?_
  refine x_iconst (v := (1 : Int32)) C dL_law_1103 (by decide) ?_
  refine q_iadd C dL_law_1104 ?_
  refine x_ialdS C dL_law_1105 h (fun v198 h => ?_)
  refine q_aload_n C dL_law_1106 rfl ?_
  refine q_iload C dL_law_1107 rfl ?_
  refine x_iconst (v := (2 : Int32)) C dL_law_1109 (by decide) ?_
  refine q_iadd C dL_law_1110 ?_
  refine x_ialdS C dL_law_1111 h (fun v199 h => ?_)
  refine q_aload_n C dL_law_1112 rfl ?_
  refine q_iload C dL_law_1113 rfl ?_
  refine x_iconst (v := (3 : Int32)) C dL_law_1115 (by decide) ?_
  refine q_iadd C dL_law_1116 ?_
  refine x_ialdS C dL_law_1117 h (fun v200 h => ?_)
  refine q_aload_n C dL_law_1118 rfl ?_
  refine q_iload C dL_law_1119 rfl ?_
  refine x_iconst (v := (4 : Int32)) C dL_law_1121 (by decide) ?_
  refine q_iadd C dL_law_1122 ?_
  refine x_ialdS C dL_law_1123 h (fun v201 h => ?_)
  refine q_aload_n C dL_law_1124 rfl ?_
  refine q_iload C dL_law_1125 rfl ?_
  refine x_iconst (v := (5 : Int32)) C dL_law_1127 (by decide) ?_
  refine q_iadd C dL_law_1128 ?_
  refine x_ialdS C dL_law_1129 h (fun v202 h => ?_)
  refine q_if_eq (tgt := 1137) C dL_law_1130 (by decide) h (fun _ h => ?_) (fun _ h => ?_)
  · refine x_iconst (v := (0 : Int32)) C dL_law_1137 (by decide) ?_
    exact q_msk [true, true, true, true, true, false, false] (jW_L_law_1138_23 C l1 l2 l3 l4 u196 l2 v198 v199 v200 v201 (0 : Int32) M197 (by omega) (by omega) (by omega) (by omega) h kC)
  · refine x_iconst (v := (1 : Int32)) C dL_law_1133 (by decide) ?_
    refine q_goto (tgt := 1138) C dL_law_1134 (by decide) ?_
    exact q_msk [true, true, true, true, true, false, false] (jW_L_law_1138_23 C l1 l2 l3 l4 u196 l2 v198 v199 v200 v201 (1 : Int32) M197 (by omega) (by omega) (by omega) (by omega) h kC)
set_option maxRecDepth 100000 in
set_option maxHeartbeats 4000000 in
theorem bW_L_law_c0 {K : q_K} {Q : State → Prop} (C : q_C K yL_law cL_law 7 (Option.some Jvm.ClassFile.FieldType.boolean) 195 6000 240000) {ce sl : Nat} (l1 : Nat) (l2 : Nat) (l3 : Nat) (l4 : Int32) (M : q_Mem) (hcm : ce + 10 ≤ 6000) (hsm : sl + 400 ≤ 240000) {stp : (Int32 × q_Mem) ⊕ (q_Mem)} (h : (q_sc (q_kG K) (l4 + (1 : Int32)) (fun v13 => (q_sc (q_kG K) (l4 + (2 : Int32)) (fun v14 => (q_sc (q_kG K) (l4 + (3 : Int32)) (fun v15 => (q_sc (q_kG K) (l4 + (4 : Int32)) (fun v16 => (q_sc (q_kG K) (l4 + (5 : Int32)) (fun v17 => (q_ob M l1 11 ((F_X11_feed l1 v13 v14 v15 v16 v17 M).bind (fun x => match x with | (u18, M19) => (q_sc (q_kG K) (l4 + (1 : Int32)) (fun v20 => (q_sc (q_kG K) (l4 + (2 : Int32)) (fun v21 => (q_sc (q_kG K) (l4 + (3 : Int32)) (fun v22 => (q_sc (q_kG K) (l4 + (4 : Int32)) (fun v23 => (q_sc (q_kG K) (l4 + (5 : Int32)) (fun v24 => (q_ob M19 l2 12 ((F_X12_feed l2 v20 v21 v22 v23 v24 M19).bind (fun x => match x with | (u25, M26) => (if u18 = u25 then J_L_law_1542_23 (q_kG K) l1 l2 l3 l4 M26 else none))))))))))))))))))))))))))) = some stp) (kC : ∀ (M : q_Mem), stp = .inl (l4 + 6, M) → q_W K 7 Q (ce + 10) (sl + 400) M 23 [some (.ref 35), some (.ref l1), some (.ref l2), some (.ref l3), some (.int (l4 + 6)), none, none] []) : q_W K 7 Q ce sl M 212 [some (.ref 35), some (.ref l1), some (.ref l2), some (.ref l3), some (.int l4), none, none] [] := by
  refine q_aload_n C dL_law_212 rfl ?_
  refine q_aload_n C dL_law_213 rfl ?_
  refine q_iload C dL_law_214 rfl ?_
  refine x_iconst (v := (1 : Int32)) C dL_law_216 (by decide) ?_
  refine q_iadd C dL_law_217 ?_
  refine x_ialdS C dL_law_218 h (fun v13 h => ?_)
  refine q_aload_n C dL_law_219 rfl ?_
  refine q_iload C dL_law_220 rfl ?_
  refine x_iconst (v := (2 : Int32)) C dL_law_222 (by decide) ?_
  refine q_iadd C dL_law_223 ?_
  refine x_ialdS C dL_law_224 h (fun v14 h => ?_)
  refine q_aload_n C dL_law_225 rfl ?_
  refine q_iload C dL_law_226 rfl ?_
  refine x_iconst (v := (3 : Int32)) C dL_law_228 (by decide) ?_
  refine q_iadd C dL_law_229 ?_
  refine x_ialdS C dL_law_230 h (fun v15 h => ?_)
  refine q_aload_n C dL_law_231 rfl ?_
  refine q_iload C dL_law_232 rfl ?_
  refine x_iconst (v := (4 : Int32)) C dL_law_234 (by decide) ?_
  refine q_iadd C dL_law_235 ?_
  refine x_ialdS C dL_law_236 h (fun v16 h => ?_)
  refine q_aload_n C dL_law_237 rfl ?_
  refine q_iload C dL_law_238 rfl ?_
  refine x_iconst (v := (5 : Int32)) C dL_law_240 (by decide) ?_
  refine q_iadd C dL_law_241 ?_
  refine x_ialdS C dL_law_242 h (fun v17 h => ?_)
  obtain ⟨hk, h⟩ := q_obE h
  obtain ⟨⟨u18, M19⟩, e1, h⟩ := q_bind h
  refine x_callV0 C dL_law_243 lkM_L_19 mV_X11_feed ⟨_, rfl, rfl⟩ hk (c_X11_feed _ _ _ _ _ _ _ _ _ e1) rfl rfl (Nat.le_of_ble_eq_true rfl) (by decide) ⟨by omega, by omega⟩ ?_
  refine q_aload_n C dL_law_246 rfl ?_
  refine q_aload_n C dL_law_247 rfl ?_
  refine q_iload C dL_law_248 rfl ?_
  refine x_iconst (v := (1 : Int32)) C dL_law_250 (by decide) ?_
  refine q_iadd C dL_law_251 ?_
  refine x_ialdS C dL_law_252 h (fun v20 h => ?_)
  refine q_aload_n C dL_law_253 rfl ?_
  refine q_iload C dL_law_254 rfl ?_
  refine x_iconst (v := (2 : Int32)) C dL_law_256 (by decide) ?_
  refine q_iadd C dL_law_257 ?_
  refine x_ialdS C dL_law_258 h (fun v21 h => ?_)
  refine q_aload_n C dL_law_259 rfl ?_
  refine q_iload C dL_law_260 rfl ?_
  refine x_iconst (v := (3 : Int32)) C dL_law_262 (by decide) ?_
  refine q_iadd C dL_law_263 ?_
  refine x_ialdS C dL_law_264 h (fun v22 h => ?_)
  refine q_aload_n C dL_law_265 rfl ?_
  refine q_iload C dL_law_266 rfl ?_
  refine x_iconst (v := (4 : Int32)) C dL_law_268 (by decide) ?_
  refine q_iadd C dL_law_269 ?_
  refine x_ialdS C dL_law_270 h (fun v23 h => ?_)
  refine q_aload_n C dL_law_271 rfl ?_
  refine q_iload C dL_law_272 rfl ?_
  refine x_iconst (v := (5 : Int32)) C dL_law_274 (by decide) ?_
  refine q_iadd C dL_law_275 ?_
  refine x_ialdS C dL_law_276 h (fun v24 h => ?_)
  obtain ⟨hk, h⟩ := q_obE h
  obtain ⟨⟨u25, M26⟩, e1, h⟩ := q_bind h
  refine x_callV0 C dL_law_277 lkM_L_23 mV_X12_feed ⟨_, rfl, rfl⟩ hk (c_X12_feed _ _ _ _ _ _ _ _ _ e1) rfl rfl (Nat.le_of_ble_eq_true rfl) (by decide) ⟨by omega, by omega⟩ ?_
  refine q_icmp_eq (tgt := 1542) C dL_law_280 (by decide) h (fun _ h => ?_) (fun _ h => ?_)
  · exact q_msk [true, true, true, true, true, false, false] (jW_L_law_1542_23 C l1 l2 l3 l4 M26 (by omega) (by omega) h kC)
  · cases h
set_option maxRecDepth 100000 in
set_option maxHeartbeats 4000000 in
theorem bW_L_law_c1 {K : q_K} {Q : State → Prop} (C : q_C K yL_law cL_law 7 (Option.some Jvm.ClassFile.FieldType.boolean) 195 6000 240000) {ce sl : Nat} (l1 : Nat) (l2 : Nat) (l3 : Nat) (l4 : Int32) (M : q_Mem) (hcm : ce + 10 ≤ 6000) (hsm : sl + 400 ≤ 240000) {stp : (Int32 × q_Mem) ⊕ (q_Mem)} (h : (q_sc (q_kG K) (l4 + (1 : Int32)) (fun v27 => (q_ob M l1 11 ((F_X11_end l1 v27 M).bind (fun x => match x with | (u28, M29) => (q_sc (q_kG K) (l4 + (1 : Int32)) (fun v30 => (q_ob M29 l2 12 ((F_X12_end l2 v30 M29).bind (fun x => match x with | (u31, M32) => (if u28 = u31 then J_L_law_1542_23 (q_kG K) l1 l2 l3 l4 M32 else none))))))))))) = some stp) (kC : ∀ (M : q_Mem), stp = .inl (l4 + 6, M) → q_W K 7 Q (ce + 10) (sl + 400) M 23 [some (.ref 35), some (.ref l1), some (.ref l2), some (.ref l3), some (.int (l4 + 6)), none, none] []) : q_W K 7 Q ce sl M 285 [some (.ref 35), some (.ref l1), some (.ref l2), some (.ref l3), some (.int l4), none, none] [] := by
  refine q_aload_n C dL_law_285 rfl ?_
  refine q_aload_n C dL_law_286 rfl ?_
  refine q_iload C dL_law_287 rfl ?_
  refine x_iconst (v := (1 : Int32)) C dL_law_289 (by decide) ?_
  refine q_iadd C dL_law_290 ?_
  refine x_ialdS C dL_law_291 h (fun v27 h => ?_)
  obtain ⟨hk, h⟩ := q_obE h
  obtain ⟨⟨u28, M29⟩, e1, h⟩ := q_bind h
  refine x_callV0 C dL_law_292 lkM_L_24 mV_X11_end ⟨_, rfl, rfl⟩ hk (c_X11_end _ _ _ _ _ e1) rfl rfl (Nat.le_of_ble_eq_true rfl) (by decide) ⟨by omega, by omega⟩ ?_
  refine q_aload_n C dL_law_295 rfl ?_
  refine q_aload_n C dL_law_296 rfl ?_
  refine q_iload C dL_law_297 rfl ?_
  refine x_iconst (v := (1 : Int32)) C dL_law_299 (by decide) ?_
  refine q_iadd C dL_law_300 ?_
  refine x_ialdS C dL_law_301 h (fun v30 h => ?_)
  obtain ⟨hk, h⟩ := q_obE h
  obtain ⟨⟨u31, M32⟩, e1, h⟩ := q_bind h
  refine x_callV0 C dL_law_302 lkM_L_28 mV_X12_end ⟨_, rfl, rfl⟩ hk (c_X12_end _ _ _ _ _ e1) rfl rfl (Nat.le_of_ble_eq_true rfl) (by decide) ⟨by omega, by omega⟩ ?_
  refine q_icmp_eq (tgt := 1542) C dL_law_305 (by decide) h (fun _ h => ?_) (fun _ h => ?_)
  · exact q_msk [true, true, true, true, true, false, false] (jW_L_law_1542_23 C l1 l2 l3 l4 M32 (by omega) (by omega) h kC)
  · cases h
set_option maxRecDepth 100000 in
set_option maxHeartbeats 4000000 in
theorem bW_L_law_c2 {K : q_K} {Q : State → Prop} (C : q_C K yL_law cL_law 7 (Option.some Jvm.ClassFile.FieldType.boolean) 195 6000 240000) {ce sl : Nat} (l1 : Nat) (l2 : Nat) (l3 : Nat) (l4 : Int32) (M : q_Mem) (hcm : ce + 10 ≤ 6000) (hsm : sl + 400 ≤ 240000) {stp : (Int32 × q_Mem) ⊕ (q_Mem)} (h : (q_sc (q_kG K) (l4 + (1 : Int32)) (fun v33 => (q_ob M l1 11 ((F_X11_fault l1 v33 M).bind (fun x => match x with | (u34, M35) => (q_sc (q_kG K) (l4 + (1 : Int32)) (fun v36 => (q_ob M35 l2 12 ((F_X12_fault l2 v36 M35).bind (fun x => match x with | (u37, M38) => (if u34 = u37 then J_L_law_1542_23 (q_kG K) l1 l2 l3 l4 M38 else none))))))))))) = some stp) (kC : ∀ (M : q_Mem), stp = .inl (l4 + 6, M) → q_W K 7 Q (ce + 10) (sl + 400) M 23 [some (.ref 35), some (.ref l1), some (.ref l2), some (.ref l3), some (.int (l4 + 6)), none, none] []) : q_W K 7 Q ce sl M 310 [some (.ref 35), some (.ref l1), some (.ref l2), some (.ref l3), some (.int l4), none, none] [] := by
  refine q_aload_n C dL_law_310 rfl ?_
  refine q_aload_n C dL_law_311 rfl ?_
  refine q_iload C dL_law_312 rfl ?_
  refine x_iconst (v := (1 : Int32)) C dL_law_314 (by decide) ?_
  refine q_iadd C dL_law_315 ?_
  refine x_ialdS C dL_law_316 h (fun v33 h => ?_)
  obtain ⟨hk, h⟩ := q_obE h
  obtain ⟨⟨u34, M35⟩, e1, h⟩ := q_bind h
  refine x_callV0 C dL_law_317 lkM_L_29 mV_X11_fault ⟨_, rfl, rfl⟩ hk (c_X11_fault _ _ _ _ _ e1) rfl rfl (Nat.le_of_ble_eq_true rfl) (by decide) ⟨by omega, by omega⟩ ?_
  refine q_aload_n C dL_law_320 rfl ?_
  refine q_aload_n C dL_law_321 rfl ?_
  refine q_iload C dL_law_322 rfl ?_
  refine x_iconst (v := (1 : Int32)) C dL_law_324 (by decide) ?_
  refine q_iadd C dL_law_325 ?_
  refine x_ialdS C dL_law_326 h (fun v36 h => ?_)
  obtain ⟨hk, h⟩ := q_obE h
  obtain ⟨⟨u37, M38⟩, e1, h⟩ := q_bind h
  refine x_callV0 C dL_law_327 lkM_L_33 mV_X12_fault ⟨_, rfl, rfl⟩ hk (c_X12_fault _ _ _ _ _ e1) rfl rfl (Nat.le_of_ble_eq_true rfl) (by decide) ⟨by omega, by omega⟩ ?_
  refine q_icmp_eq (tgt := 1542) C dL_law_330 (by decide) h (fun _ h => ?_) (fun _ h => ?_)
  · exact q_msk [true, true, true, true, true, false, false] (jW_L_law_1542_23 C l1 l2 l3 l4 M38 (by omega) (by omega) h kC)
  · cases h
set_option maxRecDepth 100000 in
set_option maxHeartbeats 4000000 in
theorem bW_L_law_c3 {K : q_K} {Q : State → Prop} (C : q_C K yL_law cL_law 7 (Option.some Jvm.ClassFile.FieldType.boolean) 195 6000 240000) {ce sl : Nat} (l1 : Nat) (l2 : Nat) (l3 : Nat) (l4 : Int32) (M : q_Mem) (hcm : ce + 10 ≤ 6000) (hsm : sl + 400 ≤ 240000) {stp : (Int32 × q_Mem) ⊕ (q_Mem)} (h : (q_sc (q_kG K) (l4 + (1 : Int32)) (fun v39 => (q_ob M l1 11 ((F_X11_text l1 v39 M).bind (fun x => match x with | (u40, M41) => (q_sc (q_kG K) (l4 + (1 : Int32)) (fun v42 => (q_ob M41 l2 12 ((F_X12_text l2 v42 M41).bind (fun x => match x with | (u43, M44) => (if u40 = u43 then J_L_law_1542_23 (q_kG K) l1 l2 l3 l4 M44 else none))))))))))) = some stp) (kC : ∀ (M : q_Mem), stp = .inl (l4 + 6, M) → q_W K 7 Q (ce + 10) (sl + 400) M 23 [some (.ref 35), some (.ref l1), some (.ref l2), some (.ref l3), some (.int (l4 + 6)), none, none] []) : q_W K 7 Q ce sl M 335 [some (.ref 35), some (.ref l1), some (.ref l2), some (.ref l3), some (.int l4), none, none] [] := by
  refine q_aload_n C dL_law_335 rfl ?_
  refine q_aload_n C dL_law_336 rfl ?_
  refine q_iload C dL_law_337 rfl ?_
  refine x_iconst (v := (1 : Int32)) C dL_law_339 (by decide) ?_
  refine q_iadd C dL_law_340 ?_
  refine x_ialdS C dL_law_341 h (fun v39 h => ?_)
  obtain ⟨hk, h⟩ := q_obE h
  obtain ⟨⟨u40, M41⟩, e1, h⟩ := q_bind h
  refine x_callV C dL_law_342 lkM_L_34 mV_X11_text ⟨_, rfl, rfl⟩ hk (c_X11_text _ _ _ _ _ e1) rfl rfl (Nat.le_of_ble_eq_true rfl) (by decide) ⟨by omega, by omega⟩ ?_
  refine q_aload_n C dL_law_345 rfl ?_
  refine q_aload_n C dL_law_346 rfl ?_
  refine q_iload C dL_law_347 rfl ?_
  refine x_iconst (v := (1 : Int32)) C dL_law_349 (by decide) ?_
  refine q_iadd C dL_law_350 ?_
  refine x_ialdS C dL_law_351 h (fun v42 h => ?_)
  obtain ⟨hk, h⟩ := q_obE h
  obtain ⟨⟨u43, M44⟩, e1, h⟩ := q_bind h
  refine x_callV0 C dL_law_352 lkM_L_37 mV_X12_text ⟨_, rfl, rfl⟩ hk (c_X12_text _ _ _ _ _ e1) rfl rfl (Nat.le_of_ble_eq_true rfl) (by decide) ⟨by omega, by omega⟩ ?_
  refine q_icmp_eq (tgt := 1542) C dL_law_355 (by decide) h (fun _ h => ?_) (fun _ h => ?_)
  · exact q_msk [true, true, true, true, true, false, false] (jW_L_law_1542_23 C l1 l2 l3 l4 M44 (by omega) (by omega) h kC)
  · cases h
set_option maxRecDepth 100000 in
set_option maxHeartbeats 4000000 in
theorem bW_L_law_c4 {K : q_K} {Q : State → Prop} (C : q_C K yL_law cL_law 7 (Option.some Jvm.ClassFile.FieldType.boolean) 195 6000 240000) {ce sl : Nat} (l1 : Nat) (l2 : Nat) (l3 : Nat) (l4 : Int32) (M : q_Mem) (hcm : ce + 10 ≤ 6000) (hsm : sl + 400 ≤ 240000) {stp : (Int32 × q_Mem) ⊕ (q_Mem)} (h : (q_sc (q_kG K) (l4 + (1 : Int32)) (fun v45 => (q_ob M l1 11 ((F_X11_rule l1 v45 M).bind (fun u46 => (q_sc (q_kG K) (l4 + (1 : Int32)) (fun v47 => (q_ob M l2 12 ((F_X12_rule l2 v47 M).bind (fun x => match x with | (u48, M49) => (if u46 = u48 then J_L_law_1542_23 (q_kG K) l1 l2 l3 l4 M49 else none))))))))))) = some stp) (kC : ∀ (M : q_Mem), stp = .inl (l4 + 6, M) → q_W K 7 Q (ce + 10) (sl + 400) M 23 [some (.ref 35), some (.ref l1), some (.ref l2), some (.ref l3), some (.int (l4 + 6)), none, none] []) : q_W K 7 Q ce sl M 360 [some (.ref 35), some (.ref l1), some (.ref l2), some (.ref l3), some (.int l4), none, none] [] := by
  refine q_aload_n C dL_law_360 rfl ?_
  refine q_aload_n C dL_law_361 rfl ?_
  refine q_iload C dL_law_362 rfl ?_
  refine x_iconst (v := (1 : Int32)) C dL_law_364 (by decide) ?_
  refine q_iadd C dL_law_365 ?_
  refine x_ialdS C dL_law_366 h (fun v45 h => ?_)
  obtain ⟨hk, h⟩ := q_obE h
  obtain ⟨u46, e1, h⟩ := q_bind h
  refine x_callV0 C dL_law_367 lkM_L_38 mV_X11_rule ⟨_, rfl, rfl⟩ hk (c_X11_rule _ _ _ _ _ e1) rfl rfl (Nat.le_of_ble_eq_true rfl) (by decide) ⟨by omega, by omega⟩ ?_
  refine q_aload_n C dL_law_370 rfl ?_
  refine q_aload_n C dL_law_371 rfl ?_
  refine q_iload C dL_law_372 rfl ?_
  refine x_iconst (v := (1 : Int32)) C dL_law_374 (by decide) ?_
  refine q_iadd C dL_law_375 ?_
  refine x_ialdS C dL_law_376 h (fun v47 h => ?_)
  obtain ⟨hk, h⟩ := q_obE h
  obtain ⟨⟨u48, M49⟩, e1, h⟩ := q_bind h
  refine x_callV0 C dL_law_377 lkM_L_41 mV_X12_rule ⟨_, rfl, rfl⟩ hk (c_X12_rule _ _ _ _ _ e1) rfl rfl (Nat.le_of_ble_eq_true rfl) (by decide) ⟨by omega, by omega⟩ ?_
  refine q_icmp_eq (tgt := 1542) C dL_law_380 (by decide) h (fun _ h => ?_) (fun _ h => ?_)
  · exact q_msk [true, true, true, true, true, false, false] (jW_L_law_1542_23 C l1 l2 l3 l4 M49 (by omega) (by omega) h kC)
  · cases h
set_option maxRecDepth 100000 in
set_option maxHeartbeats 4000000 in
theorem bW_L_law_c5 {K : q_K} {Q : State → Prop} (C : q_C K yL_law cL_law 7 (Option.some Jvm.ClassFile.FieldType.boolean) 195 6000 240000) {ce sl : Nat} (l1 : Nat) (l2 : Nat) (l3 : Nat) (l4 : Int32) (M : q_Mem) (hcm : ce + 10 ≤ 6000) (hsm : sl + 400 ≤ 240000) {stp : (Int32 × q_Mem) ⊕ (q_Mem)} (h : (q_sc (q_kG K) (l4 + (1 : Int32)) (fun v50 => (q_sc (q_kG K) (l4 + (2 : Int32)) (fun v51 => (q_ob M l1 11 ((F_X11_dish l1 v50 v51 M).bind (fun u52 => (q_sc (q_kG K) (l4 + (1 : Int32)) (fun v53 => (q_sc (q_kG K) (l4 + (2 : Int32)) (fun v54 => (q_ob M l2 12 ((F_X12_dish l2 v53 v54 M).bind (fun x => match x with | (u55, M56) => (if u52 = u55 then J_L_law_1542_23 (q_kG K) l1 l2 l3 l4 M56 else none))))))))))))))) = some stp) (kC : ∀ (M : q_Mem), stp = .inl (l4 + 6, M) → q_W K 7 Q (ce + 10) (sl + 400) M 23 [some (.ref 35), some (.ref l1), some (.ref l2), some (.ref l3), some (.int (l4 + 6)), none, none] []) : q_W K 7 Q ce sl M 385 [some (.ref 35), some (.ref l1), some (.ref l2), some (.ref l3), some (.int l4), none, none] [] := by
  refine q_aload_n C dL_law_385 rfl ?_
  refine q_aload_n C dL_law_386 rfl ?_
  refine q_iload C dL_law_387 rfl ?_
  refine x_iconst (v := (1 : Int32)) C dL_law_389 (by decide) ?_
  refine q_iadd C dL_law_390 ?_
  refine x_ialdS C dL_law_391 h (fun v50 h => ?_)
  refine q_aload_n C dL_law_392 rfl ?_
  refine q_iload C dL_law_393 rfl ?_
  refine x_iconst (v := (2 : Int32)) C dL_law_395 (by decide) ?_
  refine q_iadd C dL_law_396 ?_
  refine x_ialdS C dL_law_397 h (fun v51 h => ?_)
  obtain ⟨hk, h⟩ := q_obE h
  obtain ⟨u52, e1, h⟩ := q_bind h
  refine x_callV0 C dL_law_398 lkM_L_42 mV_X11_dish ⟨_, rfl, rfl⟩ hk (c_X11_dish _ _ _ _ _ _ e1) rfl rfl (Nat.le_of_ble_eq_true rfl) (by decide) ⟨by omega, by omega⟩ ?_
  refine q_aload_n C dL_law_401 rfl ?_
  refine q_aload_n C dL_law_402 rfl ?_
  refine q_iload C dL_law_403 rfl ?_
  refine x_iconst (v := (1 : Int32)) C dL_law_405 (by decide) ?_
  refine q_iadd C dL_law_406 ?_
  refine x_ialdS C dL_law_407 h (fun v53 h => ?_)
  refine q_aload_n C dL_law_408 rfl ?_
  refine q_iload C dL_law_409 rfl ?_
  refine x_iconst (v := (2 : Int32)) C dL_law_411 (by decide) ?_
  refine q_iadd C dL_law_412 ?_
  refine x_ialdS C dL_law_413 h (fun v54 h => ?_)
  obtain ⟨hk, h⟩ := q_obE h
  obtain ⟨⟨u55, M56⟩, e1, h⟩ := q_bind h
  refine x_callV0 C dL_law_414 lkM_L_45 mV_X12_dish ⟨_, rfl, rfl⟩ hk (c_X12_dish _ _ _ _ _ _ e1) rfl rfl (Nat.le_of_ble_eq_true rfl) (by decide) ⟨by omega, by omega⟩ ?_
  refine q_icmp_eq (tgt := 1542) C dL_law_417 (by decide) h (fun _ h => ?_) (fun _ h => ?_)
  · exact q_msk [true, true, true, true, true, false, false] (jW_L_law_1542_23 C l1 l2 l3 l4 M56 (by omega) (by omega) h kC)
  · cases h
set_option maxRecDepth 100000 in
set_option maxHeartbeats 4000000 in
theorem bW_L_law_c6 {K : q_K} {Q : State → Prop} (C : q_C K yL_law cL_law 7 (Option.some Jvm.ClassFile.FieldType.boolean) 195 6000 240000) (hKT : q_KT K) (hst : K.2.1.stackTraces = false) {ce sl : Nat} (l1 : Nat) (l2 : Nat) (l3 : Nat) (l4 : Int32) (M : q_Mem) (hcm : ce + 10 ≤ 6000) (hsm : sl + 400 ≤ 240000) {stp : (Int32 × q_Mem) ⊕ (q_Mem)} (h : (q_sc (q_kG K) (l4 + (1 : Int32)) (fun v57 => (q_sc (q_kG K) (l4 + (2 : Int32)) (fun v58 => ((F_L_guest l1 v57 v58 l3 M).bind (fun x => match x with | (u59, M60) => (q_sc (q_kG K) (l4 + (1 : Int32)) (fun v61 => (q_sc (q_kG K) (l4 + (2 : Int32)) (fun v62 => (q_ob M60 l2 12 ((F_X12_guest l2 v61 v62 M60).bind (fun x => match x with | (u63, M64) => (q_ob M64 l2 12 ((F_X12_thrown l2 M64).bind (fun u65 => (if u65 = u59 then (if u59 = 0 then (q_lL M64 l3 (0 : Int32) (fun v66 => (if (lg_cmp v66 u63.toInt64) = 0 then J_L_law_487_23 (q_kG K) l1 l2 l3 l4 M64 else none))) else J_L_law_487_23 (q_kG K) l1 l2 l3 l4 M64) else none))))))))))))))))) = some stp) (kC : ∀ (M : q_Mem), stp = .inl (l4 + 6, M) → q_W K 7 Q (ce + 10) (sl + 400) M 23 [some (.ref 35), some (.ref l1), some (.ref l2), some (.ref l3), some (.int (l4 + 6)), none, none] []) : q_W K 7 Q ce sl M 422 [some (.ref 35), some (.ref l1), some (.ref l2), some (.ref l3), some (.int l4), none, none] [] := by
  refine q_aload_n C dL_law_422 rfl ?_
  refine q_aload_n C dL_law_423 rfl ?_
  refine q_iload C dL_law_424 rfl ?_
  refine x_iconst (v := (1 : Int32)) C dL_law_426 (by decide) ?_
  refine q_iadd C dL_law_427 ?_
  refine x_ialdS C dL_law_428 h (fun v57 h => ?_)
  refine q_aload_n C dL_law_429 rfl ?_
  refine q_iload C dL_law_430 rfl ?_
  refine x_iconst (v := (2 : Int32)) C dL_law_432 (by decide) ?_
  refine q_iadd C dL_law_433 ?_
  refine x_ialdS C dL_law_434 h (fun v58 h => ?_)
  refine q_aload_n C dL_law_435 rfl ?_
  obtain ⟨⟨u59, M60⟩, e1, h⟩ := q_bind h
  refine x_callH C dL_law_436 wd_1117 yw_0 hKT (c_L_guest _ _ hst _ _ _ _ _ e1) rfl rfl (Nat.le_of_ble_eq_true rfl) (by decide) ⟨by omega, by omega⟩ ?_
  refine q_istore (L' := [some (.ref 35), some (.ref l1), some (.ref l2), some (.ref l3), some (.int l4), some (.int u59), none]) C dL_law_439 (by decide) rfl rfl ?_
  refine q_aload_n C dL_law_441 rfl ?_
  refine q_aload_n C dL_law_442 rfl ?_
  refine q_iload C dL_law_443 rfl ?_
  refine x_iconst (v := (1 : Int32)) C dL_law_445 (by decide) ?_
  refine q_iadd C dL_law_446 ?_
  refine x_ialdS C dL_law_447 h (fun v61 h => ?_)
  refine q_aload_n C dL_law_448 rfl ?_
  refine q_iload C dL_law_449 rfl ?_
  refine x_iconst (v := (2 : Int32)) C dL_law_451 (by decide) ?_
  refine q_iadd C dL_law_452 ?_
  refine x_ialdS C dL_law_453 h (fun v62 h => ?_)
  obtain ⟨hk, h⟩ := q_obE h
  obtain ⟨⟨u63, M64⟩, e1, h⟩ := q_bind h
  refine x_callV0 C dL_law_454 lkM_L_51 mV_X12_guest ⟨_, rfl, rfl⟩ hk (c_X12_guest _ _ _ _ _ _ e1) rfl rfl (Nat.le_of_ble_eq_true rfl) (by decide) ⟨by omega, by omega⟩ ?_
  refine q_istore (L' := [some (.ref 35), some (.ref l1), some (.ref l2), some (.ref l3), some (.int l4), some (.int u59), some (.int u63)]) C dL_law_457 (by decide) rfl rfl ?_
  refine q_aload_n C dL_law_459 rfl ?_
  obtain ⟨hk, h⟩ := q_obE h
  obtain ⟨u65, e1, h⟩ := q_bind h
  refine x_callV0 C dL_law_460 lkM_L_52 mV_X12_thrown ⟨_, rfl, rfl⟩ hk (c_X12_thrown _ _ _ _ e1) rfl rfl (Nat.le_of_ble_eq_true rfl) (by decide) ⟨by omega, by omega⟩ ?_
  refine q_iload C dL_law_463 rfl ?_
  refine q_icmp_eq (tgt := 470) C dL_law_465 (by decide) h (fun _ h => ?_) (fun _ h => ?_)
  · refine q_iload C dL_law_470 rfl ?_
    refine q_if_ne (tgt := 487) C dL_law_472 (by decide) h (fun _ h => ?_) (fun _ h => ?_)
    · refine q_aload_n C dL_law_475 rfl ?_
      refine x_iconst (v := (0 : Int32)) C dL_law_476 (by decide) ?_
      refine x_lald C dL_law_477 h (fun v66 h => ?_)
      refine q_iload C dL_law_478 rfl ?_
      refine q_i2l C dL_law_480 ?_
      refine q_lcmp C dL_law_481 ?_
      refine q_if_eq (tgt := 487) C dL_law_482 (by decide) h (fun _ h => ?_) (fun _ h => ?_)
      · exact q_msk [true, true, true, true, true, false, false] (jW_L_law_487_23 C l1 l2 l3 l4 M64 (by omega) (by omega) h kC)
      · cases h
    · exact q_msk [true, true, true, true, true, false, false] (jW_L_law_487_23 C l1 l2 l3 l4 M64 (by omega) (by omega) h kC)
  · cases h
set_option maxRecDepth 100000 in
set_option maxHeartbeats 4000000 in
theorem bW_L_law_c7 {K : q_K} {Q : State → Prop} (C : q_C K yL_law cL_law 7 (Option.some Jvm.ClassFile.FieldType.boolean) 195 6000 240000) {ce sl : Nat} (l1 : Nat) (l2 : Nat) (l3 : Nat) (l4 : Int32) (M : q_Mem) (hcm : ce + 10 ≤ 6000) (hsm : sl + 400 ≤ 240000) {stp : (Int32 × q_Mem) ⊕ (q_Mem)} (h : (q_sc (q_kG K) (l4 + (1 : Int32)) (fun v67 => (q_ob M l1 11 ((F_X11_law l1 v67 M).bind (fun x => match x with | (u68, M69) => (q_sc (q_kG K) (l4 + (1 : Int32)) (fun v70 => (q_ob M69 l2 12 ((F_X12_law l2 v70 M69).bind (fun x => match x with | (u71, M72) => (if u68 = u71 then J_L_law_1542_23 (q_kG K) l1 l2 l3 l4 M72 else none))))))))))) = some stp) (kC : ∀ (M : q_Mem), stp = .inl (l4 + 6, M) → q_W K 7 Q (ce + 10) (sl + 400) M 23 [some (.ref 35), some (.ref l1), some (.ref l2), some (.ref l3), some (.int (l4 + 6)), none, none] []) : q_W K 7 Q ce sl M 490 [some (.ref 35), some (.ref l1), some (.ref l2), some (.ref l3), some (.int l4), none, none] [] := by
  refine q_aload_n C dL_law_490 rfl ?_
  refine q_aload_n C dL_law_491 rfl ?_
  refine q_iload C dL_law_492 rfl ?_
  refine x_iconst (v := (1 : Int32)) C dL_law_494 (by decide) ?_
  refine q_iadd C dL_law_495 ?_
  refine x_ialdS C dL_law_496 h (fun v67 h => ?_)
  obtain ⟨hk, h⟩ := q_obE h
  obtain ⟨⟨u68, M69⟩, e1, h⟩ := q_bind h
  refine x_callV0 C dL_law_497 lkM_L_56 mV_X11_law ⟨_, rfl, rfl⟩ hk (c_X11_law _ _ _ _ _ e1) rfl rfl (Nat.le_of_ble_eq_true rfl) (by decide) ⟨by omega, by omega⟩ ?_
  refine q_aload_n C dL_law_500 rfl ?_
  refine q_aload_n C dL_law_501 rfl ?_
  refine q_iload C dL_law_502 rfl ?_
  refine x_iconst (v := (1 : Int32)) C dL_law_504 (by decide) ?_
  refine q_iadd C dL_law_505 ?_
  refine x_ialdS C dL_law_506 h (fun v70 h => ?_)
  obtain ⟨hk, h⟩ := q_obE h
  obtain ⟨⟨u71, M72⟩, e1, h⟩ := q_bind h
  refine x_callV0 C dL_law_507 lkM_L_59 mV_X12_law ⟨_, rfl, rfl⟩ hk (c_X12_law _ _ _ _ _ e1) rfl rfl (Nat.le_of_ble_eq_true rfl) (by decide) ⟨by omega, by omega⟩ ?_
  refine q_icmp_eq (tgt := 1542) C dL_law_510 (by decide) h (fun _ h => ?_) (fun _ h => ?_)
  · exact q_msk [true, true, true, true, true, false, false] (jW_L_law_1542_23 C l1 l2 l3 l4 M72 (by omega) (by omega) h kC)
  · cases h
set_option maxRecDepth 100000 in
set_option maxHeartbeats 4000000 in
theorem bW_L_law_c8 {K : q_K} {Q : State → Prop} (C : q_C K yL_law cL_law 7 (Option.some Jvm.ClassFile.FieldType.boolean) 195 6000 240000) {ce sl : Nat} (l1 : Nat) (l2 : Nat) (l3 : Nat) (l4 : Int32) (M : q_Mem) (hcm : ce + 10 ≤ 6000) (hsm : sl + 400 ≤ 240000) {stp : (Int32 × q_Mem) ⊕ (q_Mem)} (h : (q_sc (q_kG K) (l4 + (1 : Int32)) (fun v73 => (q_ob M l1 11 ((F_X11_fever l1 v73 M).bind (fun x => match x with | (u74, M75) => (q_sc (q_kG K) (l4 + (1 : Int32)) (fun v76 => (q_ob M75 l2 12 ((F_X12_fever l2 v76 M75).bind (fun x => match x with | (u77, M78) => (if u74 = u77 then J_L_law_1542_23 (q_kG K) l1 l2 l3 l4 M78 else none))))))))))) = some stp) (kC : ∀ (M : q_Mem), stp = .inl (l4 + 6, M) → q_W K 7 Q (ce + 10) (sl + 400) M 23 [some (.ref 35), some (.ref l1), some (.ref l2), some (.ref l3), some (.int (l4 + 6)), none, none] []) : q_W K 7 Q ce sl M 515 [some (.ref 35), some (.ref l1), some (.ref l2), some (.ref l3), some (.int l4), none, none] [] := by
  refine q_aload_n C dL_law_515 rfl ?_
  refine q_aload_n C dL_law_516 rfl ?_
  refine q_iload C dL_law_517 rfl ?_
  refine x_iconst (v := (1 : Int32)) C dL_law_519 (by decide) ?_
  refine q_iadd C dL_law_520 ?_
  refine x_ialdS C dL_law_521 h (fun v73 h => ?_)
  obtain ⟨hk, h⟩ := q_obE h
  obtain ⟨⟨u74, M75⟩, e1, h⟩ := q_bind h
  refine x_callV0 C dL_law_522 lkM_L_60 mV_X11_fever ⟨_, rfl, rfl⟩ hk (c_X11_fever _ _ _ _ _ e1) rfl rfl (Nat.le_of_ble_eq_true rfl) (by decide) ⟨by omega, by omega⟩ ?_
  refine q_aload_n C dL_law_525 rfl ?_
  refine q_aload_n C dL_law_526 rfl ?_
  refine q_iload C dL_law_527 rfl ?_
  refine x_iconst (v := (1 : Int32)) C dL_law_529 (by decide) ?_
  refine q_iadd C dL_law_530 ?_
  refine x_ialdS C dL_law_531 h (fun v76 h => ?_)
  obtain ⟨hk, h⟩ := q_obE h
  obtain ⟨⟨u77, M78⟩, e1, h⟩ := q_bind h
  refine x_callV0 C dL_law_532 lkM_L_63 mV_X12_fever ⟨_, rfl, rfl⟩ hk (c_X12_fever _ _ _ _ _ e1) rfl rfl (Nat.le_of_ble_eq_true rfl) (by decide) ⟨by omega, by omega⟩ ?_
  refine q_icmp_eq (tgt := 1542) C dL_law_535 (by decide) h (fun _ h => ?_) (fun _ h => ?_)
  · exact q_msk [true, true, true, true, true, false, false] (jW_L_law_1542_23 C l1 l2 l3 l4 M78 (by omega) (by omega) h kC)
  · cases h
set_option maxRecDepth 100000 in
set_option maxHeartbeats 4000000 in
theorem bW_L_law_c9 {K : q_K} {Q : State → Prop} (C : q_C K yL_law cL_law 7 (Option.some Jvm.ClassFile.FieldType.boolean) 195 6000 240000) {ce sl : Nat} (l1 : Nat) (l2 : Nat) (l3 : Nat) (l4 : Int32) (M : q_Mem) (hcm : ce + 10 ≤ 6000) (hsm : sl + 400 ≤ 240000) {stp : (Int32 × q_Mem) ⊕ (q_Mem)} (h : (q_ob M l1 11 ((F_X11_day l1 M).bind (fun x => match x with | (u79, M80) => (q_ob M80 l2 12 ((F_X12_day l2 M80).bind (fun x => match x with | (u81, M82) => (if u79 = u81 then J_L_law_1542_23 (q_kG K) l1 l2 l3 l4 M82 else none))))))) = some stp) (kC : ∀ (M : q_Mem), stp = .inl (l4 + 6, M) → q_W K 7 Q (ce + 10) (sl + 400) M 23 [some (.ref 35), some (.ref l1), some (.ref l2), some (.ref l3), some (.int (l4 + 6)), none, none] []) : q_W K 7 Q ce sl M 540 [some (.ref 35), some (.ref l1), some (.ref l2), some (.ref l3), some (.int l4), none, none] [] := by
  refine q_aload_n C dL_law_540 rfl ?_
  obtain ⟨hk, h⟩ := q_obE h
  obtain ⟨⟨u79, M80⟩, e1, h⟩ := q_bind h
  refine x_callV0 C dL_law_541 lkM_L_64 mV_X11_day ⟨_, rfl, rfl⟩ hk (c_X11_day _ _ _ _ e1) rfl rfl (Nat.le_of_ble_eq_true rfl) (by decide) ⟨by omega, by omega⟩ ?_
  refine q_aload_n C dL_law_544 rfl ?_
  obtain ⟨hk, h⟩ := q_obE h
  obtain ⟨⟨u81, M82⟩, e1, h⟩ := q_bind h
  refine x_callV0 C dL_law_545 lkM_L_67 mV_X12_day ⟨_, rfl, rfl⟩ hk (c_X12_day _ _ _ _ e1) rfl rfl (Nat.le_of_ble_eq_true rfl) (by decide) ⟨by omega, by omega⟩ ?_
  refine q_icmp_eq (tgt := 1542) C dL_law_548 (by decide) h (fun _ h => ?_) (fun _ h => ?_)
  · exact q_msk [true, true, true, true, true, false, false] (jW_L_law_1542_23 C l1 l2 l3 l4 M82 (by omega) (by omega) h kC)
  · cases h
