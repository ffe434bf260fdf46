/-! the law: its walk (laid by wip/whole/mk_lwalk.py) -/

set_option maxRecDepth 100000 in
set_option maxHeartbeats 4000000 in
theorem bW_L_law_c30 {K : q_K} {Q : State → Prop} (C : q_C K yL_law cL_law 7 (Option.some Jvm.ClassFile.FieldType.boolean) 195 6000 240000) {ce sl : Nat} (l1 : Nat) (l2 : Nat) (l3 : Nat) (l4 : Int32) (M : q_Mem) (hcm : ce + 10 ≤ 6000) (hsm : sl + 400 ≤ 240000) {stp : (Int32 × q_Mem) ⊕ (q_Mem)} (h : (q_sc (q_kG K) (l4 + (1 : Int32)) (fun v227 => (q_sc (q_kG K) (l4 + (2 : Int32)) (fun v228 => (q_sc (q_kG K) (l4 + (3 : Int32)) (fun v229 => (q_sc (q_kG K) (l4 + (4 : Int32)) (fun v230 => (q_sc (q_kG K) (l4 + (5 : Int32)) (fun v231 => (q_ob M l1 11 ((F_X11_game l1 v227 v228 v229 v230 v231 M).bind (fun x => match x with | (u232, M233) => (q_sc (q_kG K) (l4 + (1 : Int32)) (fun v234 => (q_sc (q_kG K) (l4 + (2 : Int32)) (fun v235 => (q_sc (q_kG K) (l4 + (3 : Int32)) (fun v236 => (q_sc (q_kG K) (l4 + (4 : Int32)) (fun v237 => (q_sc (q_kG K) (l4 + (5 : Int32)) (fun v238 => (q_ob M233 l2 12 ((F_X12_game l2 v234 v235 v236 v237 v238 M233).bind (fun x => match x with | (u239, M240) => (if u232 = u239 then J_L_law_1542_23 (q_kG K) l1 l2 l3 l4 M240 else none))))))))))))))))))))))))))) = some stp) (kC : ∀ (M : q_Mem), stp = .inl (l4 + 6, M) → q_W K 7 Q (ce + 10) (sl + 400) M 23 [some (.ref 35), some (.ref l1), some (.ref l2), some (.ref l3), some (.int (l4 + 6)), none, none] []) : q_W K 7 Q ce sl M 1245 [some (.ref 35), some (.ref l1), some (.ref l2), some (.ref l3), some (.int l4), none, none] [] := by
  refine q_aload_n C dL_law_1245 rfl ?_
  refine q_aload_n C dL_law_1246 rfl ?_
  refine q_iload C dL_law_1247 rfl ?_
  refine x_iconst (v := (1 : Int32)) C dL_law_1249 (by decide) ?_
  refine q_iadd C dL_law_1250 ?_
  refine x_ialdS C dL_law_1251 h (fun v227 h => ?_)
  refine q_aload_n C dL_law_1252 rfl ?_
  refine q_iload C dL_law_1253 rfl ?_
  refine x_iconst (v := (2 : Int32)) C dL_law_1255 (by decide) ?_
  refine q_iadd C dL_law_1256 ?_
  refine x_ialdS C dL_law_1257 h (fun v228 h => ?_)
  refine q_aload_n C dL_law_1258 rfl ?_
  refine q_iload C dL_law_1259 rfl ?_
  refine x_iconst (v := (3 : Int32)) C dL_law_1261 (by decide) ?_
  refine q_iadd C dL_law_1262 ?_
  refine x_ialdS C dL_law_1263 h (fun v229 h => ?_)
  refine q_aload_n C dL_law_1264 rfl ?_
  refine q_iload C dL_law_1265 rfl ?_
  refine x_iconst (v := (4 : Int32)) C dL_law_1267 (by decide) ?_
  refine q_iadd C dL_law_1268 ?_
  refine x_ialdS C dL_law_1269 h (fun v230 h => ?_)
  refine q_aload_n C dL_law_1270 rfl ?_
  refine q_iload C dL_law_1271 rfl ?_
  refine x_iconst (v := (5 : Int32)) C dL_law_1273 (by decide) ?_
  refine q_iadd C dL_law_1274 ?_
  refine x_ialdS C dL_law_1275 h (fun v231 h => ?_)
  obtain ⟨hk, h⟩ := q_obE h
  obtain ⟨⟨u232, M233⟩, e1, h⟩ := q_bind h
  refine x_callV0 C dL_law_1276 lkM_L_153 mV_X11_game ⟨_, rfl, rfl⟩ hk (c_X11_game _ _ _ _ _ _ _ _ _ e1) rfl rfl (Nat.le_of_ble_eq_true rfl) (by decide) ⟨by omega, by omega⟩ ?_
  refine q_aload_n C dL_law_1279 rfl ?_
  refine q_aload_n C dL_law_1280 rfl ?_
  refine q_iload C dL_law_1281 rfl ?_
  refine x_iconst (v := (1 : Int32)) C dL_law_1283 (by decide) ?_
  refine q_iadd C dL_law_1284 ?_
  refine x_ialdS C dL_law_1285 h (fun v234 h => ?_)
  refine q_aload_n C dL_law_1286 rfl ?_
  refine q_iload C dL_law_1287 rfl ?_
  refine x_iconst (v := (2 : Int32)) C dL_law_1289 (by decide) ?_
  refine q_iadd C dL_law_1290 ?_
  refine x_ialdS C dL_law_1291 h (fun v235 h => ?_)
  refine q_aload_n C dL_law_1292 rfl ?_
  refine q_iload C dL_law_1293 rfl ?_
  refine x_iconst (v := (3 : Int32)) C dL_law_1295 (by decide) ?_
  refine q_iadd C dL_law_1296 ?_
  refine x_ialdS C dL_law_1297 h (fun v236 h => ?_)
  refine q_aload_n C dL_law_1298 rfl ?_
  refine q_iload C dL_law_1299 rfl ?_
  refine x_iconst (v := (4 : Int32)) C dL_law_1301 (by decide) ?_
  refine q_iadd C dL_law_1302 ?_
  refine x_ialdS C dL_law_1303 h (fun v237 h => ?_)
  refine q_aload_n C dL_law_1304 rfl ?_
  refine q_iload C dL_law_1305 rfl ?_
  refine x_iconst (v := (5 : Int32)) C dL_law_1307 (by decide) ?_
  refine q_iadd C dL_law_1308 ?_
  refine x_ialdS C dL_law_1309 h (fun v238 h => ?_)
  obtain ⟨hk, h⟩ := q_obE h
  obtain ⟨⟨u239, M240⟩, e1, h⟩ := q_bind h
  refine x_callV0 C dL_law_1310 lkM_L_156 mV_X12_game ⟨_, rfl, rfl⟩ hk (c_X12_game _ _ _ _ _ _ _ _ _ e1) rfl rfl (Nat.le_of_ble_eq_true rfl) (by decide) ⟨by omega, by omega⟩ ?_
  refine q_icmp_eq (tgt := 1542) C dL_law_1313 (by decide) h (fun _ h => ?_) (fun _ h => ?_)
  · exact q_msk [true, true, true, true, true, false, false] (jW_L_law_1542_23 C l1 l2 l3 l4 M240 (by omega) (by omega) h kC)
  · cases h
set_option maxRecDepth 100000 in
set_option maxHeartbeats 4000000 in
theorem bW_L_law_c31 {K : q_K} {Q : State → Prop} (C : q_C K yL_law cL_law 7 (Option.some Jvm.ClassFile.FieldType.boolean) 195 6000 240000) {ce sl : Nat} (l1 : Nat) (l2 : Nat) (l3 : Nat) (l4 : Int32) (M : q_Mem) (hcm : ce + 10 ≤ 6000) (hsm : sl + 400 ≤ 240000) {stp : (Int32 × q_Mem) ⊕ (q_Mem)} (h : (q_sc (q_kG K) (l4 + (1 : Int32)) (fun v241 => (q_sc (q_kG K) (l4 + (2 : Int32)) (fun v242 => (q_sc (q_kG K) (l4 + (3 : Int32)) (fun v243 => (q_ob M l1 11 ((F_X11_rests l1 v241 v242 v243 M).bind (fun x => match x with | (u244, M245) => (q_sc (q_kG K) (l4 + (1 : Int32)) (fun v246 => (q_sc (q_kG K) (l4 + (2 : Int32)) (fun v247 => (q_sc (q_kG K) (l4 + (3 : Int32)) (fun v248 => (q_ob M245 l2 12 ((F_X12_rests l2 v246 v247 v248 M245).bind (fun x => match x with | (u249, M250) => (if u244 = u249 then J_L_law_1542_23 (q_kG K) l1 l2 l3 l4 M250 else none))))))))))))))))))) = some stp) (kC : ∀ (M : q_Mem), stp = .inl (l4 + 6, M) → q_W K 7 Q (ce + 10) (sl + 400) M 23 [some (.ref 35), some (.ref l1), some (.ref l2), some (.ref l3), some (.int (l4 + 6)), none, none] []) : q_W K 7 Q ce sl M 1318 [some (.ref 35), some (.ref l1), some (.ref l2), some (.ref l3), some (.int l4), none, none] [] := by
  refine q_aload_n C dL_law_1318 rfl ?_
  refine q_aload_n C dL_law_1319 rfl ?_
  refine q_iload C dL_law_1320 rfl ?_
  refine x_iconst (v := (1 : Int32)) C dL_law_1322 (by decide) ?_
  refine q_iadd C dL_law_1323 ?_
  refine x_ialdS C dL_law_1324 h (fun v241 h => ?_)
  refine q_aload_n C dL_law_1325 rfl ?_
  refine q_iload C dL_law_1326 rfl ?_
  refine x_iconst (v := (2 : Int32)) C dL_law_1328 (by decide) ?_
  refine q_iadd C dL_law_1329 ?_
  refine x_ialdS C dL_law_1330 h (fun v242 h => ?_)
  refine q_aload_n C dL_law_1331 rfl ?_
  refine q_iload C dL_law_1332 rfl ?_
  refine x_iconst (v := (3 : Int32)) C dL_law_1334 (by decide) ?_
  refine q_iadd C dL_law_1335 ?_
  refine x_ialdS C dL_law_1336 h (fun v243 h => ?_)
  obtain ⟨hk, h⟩ := q_obE h
  obtain ⟨⟨u244, M245⟩, e1, h⟩ := q_bind h
  refine x_callV0 C dL_law_1337 lkM_L_157 mV_X11_rests ⟨_, rfl, rfl⟩ hk (c_X11_rests _ _ _ _ _ _ _ e1) rfl rfl (Nat.le_of_ble_eq_true rfl) (by decide) ⟨by omega, by omega⟩ ?_
  refine q_aload_n C dL_law_1340 rfl ?_
  refine q_aload_n C dL_law_1341 rfl ?_
  refine q_iload C dL_law_1342 rfl ?_
  refine x_iconst (v := (1 : Int32)) C dL_law_1344 (by decide) ?_
  refine q_iadd C dL_law_1345 ?_
  refine x_ialdS C dL_law_1346 h (fun v246 h => ?_)
  refine q_aload_n C dL_law_1347 rfl ?_
  refine q_iload C dL_law_1348 rfl ?_
  refine x_iconst (v := (2 : Int32)) C dL_law_1350 (by decide) ?_
  refine q_iadd C dL_law_1351 ?_
  refine x_ialdS C dL_law_1352 h (fun v247 h => ?_)
  refine q_aload_n C dL_law_1353 rfl ?_
  refine q_iload C dL_law_1354 rfl ?_
  refine x_iconst (v := (3 : Int32)) C dL_law_1356 (by decide) ?_
  refine q_iadd C dL_law_1357 ?_
  refine x_ialdS C dL_law_1358 h (fun v248 h => ?_)
  obtain ⟨hk, h⟩ := q_obE h
  obtain ⟨⟨u249, M250⟩, e1, h⟩ := q_bind h
  refine x_callV0 C dL_law_1359 lkM_L_160 mV_X12_rests ⟨_, rfl, rfl⟩ hk (c_X12_rests _ _ _ _ _ _ _ e1) rfl rfl (Nat.le_of_ble_eq_true rfl) (by decide) ⟨by omega, by omega⟩ ?_
  refine q_icmp_eq (tgt := 1542) C dL_law_1362 (by decide) h (fun _ h => ?_) (fun _ h => ?_)
  · exact q_msk [true, true, true, true, true, false, false] (jW_L_law_1542_23 C l1 l2 l3 l4 M250 (by omega) (by omega) h kC)
  · cases h
set_option maxRecDepth 100000 in
set_option maxHeartbeats 4000000 in
theorem bW_L_law_c32 {K : q_K} {Q : State → Prop} (C : q_C K yL_law cL_law 7 (Option.some Jvm.ClassFile.FieldType.boolean) 195 6000 240000) {ce sl : Nat} (l1 : Nat) (l2 : Nat) (l3 : Nat) (l4 : Int32) (M : q_Mem) (hcm : ce + 10 ≤ 6000) (hsm : sl + 400 ≤ 240000) {stp : (Int32 × q_Mem) ⊕ (q_Mem)} (h : (q_sc (q_kG K) (l4 + (1 : Int32)) (fun v251 => (q_sc (q_kG K) (l4 + (2 : Int32)) (fun v252 => (q_sc (q_kG K) (l4 + (3 : Int32)) (fun v253 => (q_ob M l1 11 ((F_X11_odds l1 v251 v252 v253 M).bind (fun x => match x with | (u254, M255) => (q_sc (q_kG K) (l4 + (1 : Int32)) (fun v256 => (q_sc (q_kG K) (l4 + (2 : Int32)) (fun v257 => (q_sc (q_kG K) (l4 + (3 : Int32)) (fun v258 => (q_ob M255 l2 12 ((F_X12_odds l2 v256 v257 v258 M255).bind (fun x => match x with | (u259, M260) => (if u254 = u259 then J_L_law_1542_23 (q_kG K) l1 l2 l3 l4 M260 else none))))))))))))))))))) = some stp) (kC : ∀ (M : q_Mem), stp = .inl (l4 + 6, M) → q_W K 7 Q (ce + 10) (sl + 400) M 23 [some (.ref 35), some (.ref l1), some (.ref l2), some (.ref l3), some (.int (l4 + 6)), none, none] []) : q_W K 7 Q ce sl M 1367 [some (.ref 35), some (.ref l1), some (.ref l2), some (.ref l3), some (.int l4), none, none] [] := by
  refine q_aload_n C dL_law_1367 rfl ?_
  refine q_aload_n C dL_law_1368 rfl ?_
  refine q_iload C dL_law_1369 rfl ?_
  refine x_iconst (v := (1 : Int32)) C dL_law_1371 (by decide) ?_
  refine q_iadd C dL_law_1372 ?_
  refine x_ialdS C dL_law_1373 h (fun v251 h => ?_)
  refine q_aload_n C dL_law_1374 rfl ?_
  refine q_iload C dL_law_1375 rfl ?_
  refine x_iconst (v := (2 : Int32)) C dL_law_1377 (by decide) ?_
  refine q_iadd C dL_law_1378 ?_
  refine x_ialdS C dL_law_1379 h (fun v252 h => ?_)
  refine q_aload_n C dL_law_1380 rfl ?_
  refine q_iload C dL_law_1381 rfl ?_
  refine x_iconst (v := (3 : Int32)) C dL_law_1383 (by decide) ?_
  refine q_iadd C dL_law_1384 ?_
  refine x_ialdS C dL_law_1385 h (fun v253 h => ?_)
  obtain ⟨hk, h⟩ := q_obE h
  obtain ⟨⟨u254, M255⟩, e1, h⟩ := q_bind h
  refine x_callV0 C dL_law_1386 lkM_L_161 mV_X11_odds ⟨_, rfl, rfl⟩ hk (c_X11_odds _ _ _ _ _ _ _ e1) rfl rfl (Nat.le_of_ble_eq_true rfl) (by decide) ⟨by omega, by omega⟩ ?_
  refine q_aload_n C dL_law_1389 rfl ?_
  refine q_aload_n C dL_law_1390 rfl ?_
  refine q_iload C dL_law_1391 rfl ?_
  refine x_iconst (v := (1 : Int32)) C dL_law_1393 (by decide) ?_
  refine q_iadd C dL_law_1394 ?_
  refine x_ialdS C dL_law_1395 h (fun v256 h => ?_)
  refine q_aload_n C dL_law_1396 rfl ?_
  refine q_iload C dL_law_1397 rfl ?_
  refine x_iconst (v := (2 : Int32)) C dL_law_1399 (by decide) ?_
  refine q_iadd C dL_law_1400 ?_
  refine x_ialdS C dL_law_1401 h (fun v257 h => ?_)
  refine q_aload_n C dL_law_1402 rfl ?_
  refine q_iload C dL_law_1403 rfl ?_
  refine x_iconst (v := (3 : Int32)) C dL_law_1405 (by decide) ?_
  refine q_iadd C dL_law_1406 ?_
  refine x_ialdS C dL_law_1407 h (fun v258 h => ?_)
  obtain ⟨hk, h⟩ := q_obE h
  obtain ⟨⟨u259, M260⟩, e1, h⟩ := q_bind h
  refine x_callV0 C dL_law_1408 lkM_L_164 mV_X12_odds ⟨_, rfl, rfl⟩ hk (c_X12_odds _ _ _ _ _ _ _ e1) rfl rfl (Nat.le_of_ble_eq_true rfl) (by decide) ⟨by omega, by omega⟩ ?_
  refine q_icmp_eq (tgt := 1542) C dL_law_1411 (by decide) h (fun _ h => ?_) (fun _ h => ?_)
  · exact q_msk [true, true, true, true, true, false, false] (jW_L_law_1542_23 C l1 l2 l3 l4 M260 (by omega) (by omega) h kC)
  · cases h
set_option maxRecDepth 100000 in
set_option maxHeartbeats 4000000 in
theorem bW_L_law_c33 {K : q_K} {Q : State → Prop} (C : q_C K yL_law cL_law 7 (Option.some Jvm.ClassFile.FieldType.boolean) 195 6000 240000) {ce sl : Nat} (l1 : Nat) (l2 : Nat) (l3 : Nat) (l4 : Int32) (M : q_Mem) (hcm : ce + 10 ≤ 6000) (hsm : sl + 400 ≤ 240000) {stp : (Int32 × q_Mem) ⊕ (q_Mem)} (h : (q_sc (q_kG K) (l4 + (1 : Int32)) (fun v261 => (q_ob M l1 11 ((F_X11_all l1 v261 M).bind (fun x => match x with | (u262, M263) => (q_sc (q_kG K) (l4 + (1 : Int32)) (fun v264 => (q_ob M263 l2 12 ((F_X12_all l2 v264 M263).bind (fun x => match x with | (u265, M266) => (if u262 = u265 then J_L_law_1542_23 (q_kG K) l1 l2 l3 l4 M266 else none))))))))))) = some stp) (kC : ∀ (M : q_Mem), stp = .inl (l4 + 6, M) → q_W K 7 Q (ce + 10) (sl + 400) M 23 [some (.ref 35), some (.ref l1), some (.ref l2), some (.ref l3), some (.int (l4 + 6)), none, none] []) : q_W K 7 Q ce sl M 1416 [some (.ref 35), some (.ref l1), some (.ref l2), some (.ref l3), some (.int l4), none, none] [] := by
  refine q_aload_n C dL_law_1416 rfl ?_
  refine q_aload_n C dL_law_1417 rfl ?_
  refine q_iload C dL_law_1418 rfl ?_
  refine x_iconst (v := (1 : Int32)) C dL_law_1420 (by decide) ?_
  refine q_iadd C dL_law_1421 ?_
  refine x_ialdS C dL_law_1422 h (fun v261 h => ?_)
  obtain ⟨hk, h⟩ := q_obE h
  obtain ⟨⟨u262, M263⟩, e1, h⟩ := q_bind h
  refine x_callV0 C dL_law_1423 lkM_L_165 mV_X11_all ⟨_, rfl, rfl⟩ hk (c_X11_all _ _ _ _ _ e1) rfl rfl (Nat.le_of_ble_eq_true rfl) (by decide) ⟨by omega, by omega⟩ ?_
  refine q_aload_n C dL_law_1426 rfl ?_
  refine q_aload_n C dL_law_1427 rfl ?_
  refine q_iload C dL_law_1428 rfl ?_
  refine x_iconst (v := (1 : Int32)) C dL_law_1430 (by decide) ?_
  refine q_iadd C dL_law_1431 ?_
  refine x_ialdS C dL_law_1432 h (fun v264 h => ?_)
  obtain ⟨hk, h⟩ := q_obE h
  obtain ⟨⟨u265, M266⟩, e1, h⟩ := q_bind h
  refine x_callV0 C dL_law_1433 lkM_L_168 mV_X12_all ⟨_, rfl, rfl⟩ hk (c_X12_all _ _ _ _ _ e1) rfl rfl (Nat.le_of_ble_eq_true rfl) (by decide) ⟨by omega, by omega⟩ ?_
  refine q_icmp_eq (tgt := 1542) C dL_law_1436 (by decide) h (fun _ h => ?_) (fun _ h => ?_)
  · exact q_msk [true, true, true, true, true, false, false] (jW_L_law_1542_23 C l1 l2 l3 l4 M266 (by omega) (by omega) h kC)
  · cases h
set_option maxRecDepth 100000 in
set_option maxHeartbeats 4000000 in
theorem bW_L_law_c34 {K : q_K} {Q : State → Prop} (C : q_C K yL_law cL_law 7 (Option.some Jvm.ClassFile.FieldType.boolean) 195 6000 240000) {ce sl : Nat} (l1 : Nat) (l2 : Nat) (l3 : Nat) (l4 : Int32) (M : q_Mem) (hcm : ce + 10 ≤ 6000) (hsm : sl + 400 ≤ 240000) {stp : (Int32 × q_Mem) ⊕ (q_Mem)} (h : (q_sc (q_kG K) (l4 + (1 : Int32)) (fun v267 => (q_ob M l1 11 ((F_X11_kinds l1 v267 M).bind (fun u268 => (q_sc (q_kG K) (l4 + (1 : Int32)) (fun v269 => (q_ob M l2 12 ((F_X12_kinds l2 v269 M).bind (fun x => match x with | (u270, M271) => (if u268 = u270 then J_L_law_1542_23 (q_kG K) l1 l2 l3 l4 M271 else none))))))))))) = some stp) (kC : ∀ (M : q_Mem), stp = .inl (l4 + 6, M) → q_W K 7 Q (ce + 10) (sl + 400) M 23 [some (.ref 35), some (.ref l1), some (.ref l2), some (.ref l3), some (.int (l4 + 6)), none, none] []) : q_W K 7 Q ce sl M 1441 [some (.ref 35), some (.ref l1), some (.ref l2), some (.ref l3), some (.int l4), none, none] [] := by
  refine q_aload_n C dL_law_1441 rfl ?_
  refine q_aload_n C dL_law_1442 rfl ?_
  refine q_iload C dL_law_1443 rfl ?_
  refine x_iconst (v := (1 : Int32)) C dL_law_1445 (by decide) ?_
  refine q_iadd C dL_law_1446 ?_
  refine x_ialdS C dL_law_1447 h (fun v267 h => ?_)
  obtain ⟨hk, h⟩ := q_obE h
  obtain ⟨u268, e1, h⟩ := q_bind h
  refine x_callV0 C dL_law_1448 lkM_L_169 mV_X11_kinds ⟨_, rfl, rfl⟩ hk (c_X11_kinds _ _ _ _ _ e1) rfl rfl (Nat.le_of_ble_eq_true rfl) (by decide) ⟨by omega, by omega⟩ ?_
  refine q_aload_n C dL_law_1451 rfl ?_
  refine q_aload_n C dL_law_1452 rfl ?_
  refine q_iload C dL_law_1453 rfl ?_
  refine x_iconst (v := (1 : Int32)) C dL_law_1455 (by decide) ?_
  refine q_iadd C dL_law_1456 ?_
  refine x_ialdS C dL_law_1457 h (fun v269 h => ?_)
  obtain ⟨hk, h⟩ := q_obE h
  obtain ⟨⟨u270, M271⟩, e1, h⟩ := q_bind h
  refine x_callV0 C dL_law_1458 lkM_L_172 mV_X12_kinds ⟨_, rfl, rfl⟩ hk (c_X12_kinds _ _ _ _ _ e1) rfl rfl (Nat.le_of_ble_eq_true rfl) (by decide) ⟨by omega, by omega⟩ ?_
  refine q_icmp_eq (tgt := 1542) C dL_law_1461 (by decide) h (fun _ h => ?_) (fun _ h => ?_)
  · exact q_msk [true, true, true, true, true, false, false] (jW_L_law_1542_23 C l1 l2 l3 l4 M271 (by omega) (by omega) h kC)
  · cases h
set_option maxRecDepth 100000 in
set_option maxHeartbeats 4000000 in
theorem bW_L_law_c35 {K : q_K} {Q : State → Prop} (C : q_C K yL_law cL_law 7 (Option.some Jvm.ClassFile.FieldType.boolean) 195 6000 240000) {ce sl : Nat} (l1 : Nat) (l2 : Nat) (l3 : Nat) (l4 : Int32) (M : q_Mem) (hcm : ce + 10 ≤ 6000) (hsm : sl + 400 ≤ 240000) {stp : (Int32 × q_Mem) ⊕ (q_Mem)} (h : (q_sc (q_kG K) (l4 + (1 : Int32)) (fun v272 => (q_ob M l1 11 ((F_X11_staying l1 v272 M).bind (fun u273 => (q_sc (q_kG K) (l4 + (1 : Int32)) (fun v274 => (q_ob M l2 12 ((F_X12_staying l2 v274 M).bind (fun x => match x with | (u275, M276) => (if u273 = u275 then J_L_law_1542_23 (q_kG K) l1 l2 l3 l4 M276 else none))))))))))) = some stp) (kC : ∀ (M : q_Mem), stp = .inl (l4 + 6, M) → q_W K 7 Q (ce + 10) (sl + 400) M 23 [some (.ref 35), some (.ref l1), some (.ref l2), some (.ref l3), some (.int (l4 + 6)), none, none] []) : q_W K 7 Q ce sl M 1466 [some (.ref 35), some (.ref l1), some (.ref l2), some (.ref l3), some (.int l4), none, none] [] := by
  refine q_aload_n C dL_law_1466 rfl ?_
  refine q_aload_n C dL_law_1467 rfl ?_
  refine q_iload C dL_law_1468 rfl ?_
  refine x_iconst (v := (1 : Int32)) C dL_law_1470 (by decide) ?_
  refine q_iadd C dL_law_1471 ?_
  refine x_ialdS C dL_law_1472 h (fun v272 h => ?_)
  obtain ⟨hk, h⟩ := q_obE h
  obtain ⟨u273, e1, h⟩ := q_bind h
  refine x_callV0 C dL_law_1473 lkM_L_173 mV_X11_staying ⟨_, rfl, rfl⟩ hk (c_X11_staying _ _ _ _ _ e1) rfl rfl (Nat.le_of_ble_eq_true rfl) (by decide) ⟨by omega, by omega⟩ ?_
  refine q_aload_n C dL_law_1476 rfl ?_
  refine q_aload_n C dL_law_1477 rfl ?_
  refine q_iload C dL_law_1478 rfl ?_
  refine x_iconst (v := (1 : Int32)) C dL_law_1480 (by decide) ?_
  refine q_iadd C dL_law_1481 ?_
  refine x_ialdS C dL_law_1482 h (fun v274 h => ?_)
  obtain ⟨hk, h⟩ := q_obE h
  obtain ⟨⟨u275, M276⟩, e1, h⟩ := q_bind h
  refine x_callV0 C dL_law_1483 lkM_L_176 mV_X12_staying ⟨_, rfl, rfl⟩ hk (c_X12_staying _ _ _ _ _ e1) rfl rfl (Nat.le_of_ble_eq_true rfl) (by decide) ⟨by omega, by omega⟩ ?_
  refine q_icmp_eq (tgt := 1542) C dL_law_1486 (by decide) h (fun _ h => ?_) (fun _ h => ?_)
  · exact q_msk [true, true, true, true, true, false, false] (jW_L_law_1542_23 C l1 l2 l3 l4 M276 (by omega) (by omega) h kC)
  · cases h
set_option maxRecDepth 100000 in
set_option maxHeartbeats 4000000 in
theorem bW_L_law_c36 {K : q_K} {Q : State → Prop} (C : q_C K yL_law cL_law 7 (Option.some Jvm.ClassFile.FieldType.boolean) 195 6000 240000) {ce sl : Nat} (l1 : Nat) (l2 : Nat) (l3 : Nat) (l4 : Int32) (M : q_Mem) (hcm : ce + 10 ≤ 6000) (hsm : sl + 400 ≤ 240000) {stp : (Int32 × q_Mem) ⊕ (q_Mem)} (h : (q_ob M l1 11 ((F_X11_image l1 M).bind (fun x => match x with | (u277, M278) => (q_ob M278 l2 12 ((F_X12_image l2 M278).bind (fun x => match x with | (u279, M280) => (if u277 = u279 then J_L_law_1542_23 (q_kG K) l1 l2 l3 l4 M280 else none))))))) = some stp) (kC : ∀ (M : q_Mem), stp = .inl (l4 + 6, M) → q_W K 7 Q (ce + 10) (sl + 400) M 23 [some (.ref 35), some (.ref l1), some (.ref l2), some (.ref l3), some (.int (l4 + 6)), none, none] []) : q_W K 7 Q ce sl M 1491 [some (.ref 35), some (.ref l1), some (.ref l2), some (.ref l3), some (.int l4), none, none] [] := by
  refine q_aload_n C dL_law_1491 rfl ?_
  obtain ⟨hk, h⟩ := q_obE h
  obtain ⟨⟨u277, M278⟩, e1, h⟩ := q_bind h
  refine x_callV0 C dL_law_1492 lkM_L_177 mV_X11_image ⟨_, rfl, rfl⟩ hk (c_X11_image _ _ _ _ e1) rfl rfl (Nat.le_of_ble_eq_true rfl) (by decide) ⟨by omega, by omega⟩ ?_
  refine q_aload_n C dL_law_1495 rfl ?_
  obtain ⟨hk, h⟩ := q_obE h
  obtain ⟨⟨u279, M280⟩, e1, h⟩ := q_bind h
  refine x_callV0 C dL_law_1496 lkM_L_180 mV_X12_image ⟨_, rfl, rfl⟩ hk (c_X12_image _ _ _ _ e1) rfl rfl (Nat.le_of_ble_eq_true rfl) (by decide) ⟨by omega, by omega⟩ ?_
  refine q_icmp_eq (tgt := 1542) C dL_law_1499 (by decide) h (fun _ h => ?_) (fun _ h => ?_)
  · exact q_msk [true, true, true, true, true, false, false] (jW_L_law_1542_23 C l1 l2 l3 l4 M280 (by omega) (by omega) h kC)
  · cases h
set_option maxRecDepth 100000 in
set_option maxHeartbeats 4000000 in
theorem bW_L_law_c37 {K : q_K} {Q : State → Prop} (C : q_C K yL_law cL_law 7 (Option.some Jvm.ClassFile.FieldType.boolean) 195 6000 240000) {ce sl : Nat} (l1 : Nat) (l2 : Nat) (l3 : Nat) (l4 : Int32) (M : q_Mem) (hcm : ce + 10 ≤ 6000) (hsm : sl + 400 ≤ 240000) {stp : (Int32 × q_Mem) ⊕ (q_Mem)} (h : (q_ob M l1 11 ((F_X11_back l1 M).bind (fun x => match x with | (u281, M282) => (q_ob M282 l2 12 ((F_X12_back l2 M282).bind (fun x => match x with | (u283, M284) => (if u281 = u283 then J_L_law_1542_23 (q_kG K) l1 l2 l3 l4 M284 else none))))))) = some stp) (kC : ∀ (M : q_Mem), stp = .inl (l4 + 6, M) → q_W K 7 Q (ce + 10) (sl + 400) M 23 [some (.ref 35), some (.ref l1), some (.ref l2), some (.ref l3), some (.int (l4 + 6)), none, none] []) : q_W K 7 Q ce sl M 1504 [some (.ref 35), some (.ref l1), some (.ref l2), some (.ref l3), some (.int l4), none, none] [] := by
  refine q_aload_n C dL_law_1504 rfl ?_
  obtain ⟨hk, h⟩ := q_obE h
  obtain ⟨⟨u281, M282⟩, e1, h⟩ := q_bind h
  refine x_callV0 C dL_law_1505 lkM_L_181 mV_X11_back ⟨_, rfl, rfl⟩ hk (c_X11_back _ _ _ _ e1) rfl rfl (Nat.le_of_ble_eq_true rfl) (by decide) ⟨by omega, by omega⟩ ?_
  refine q_aload_n C dL_law_1508 rfl ?_
  obtain ⟨hk, h⟩ := q_obE h
  obtain ⟨⟨u283, M284⟩, e1, h⟩ := q_bind h
  refine x_callV0 C dL_law_1509 lkM_L_184 mV_X12_back ⟨_, rfl, rfl⟩ hk (c_X12_back _ _ _ _ e1) rfl rfl (Nat.le_of_ble_eq_true rfl) (by decide) ⟨by omega, by omega⟩ ?_
  refine q_icmp_eq (tgt := 1542) C dL_law_1512 (by decide) h (fun _ h => ?_) (fun _ h => ?_)
  · exact q_msk [true, true, true, true, true, false, false] (jW_L_law_1542_23 C l1 l2 l3 l4 M284 (by omega) (by omega) h kC)
  · cases h
set_option maxRecDepth 100000 in
set_option maxHeartbeats 4000000 in
theorem bW_L_law_c38 {K : q_K} {Q : State → Prop} (C : q_C K yL_law cL_law 7 (Option.some Jvm.ClassFile.FieldType.boolean) 195 6000 240000) {ce sl : Nat} (l1 : Nat) (l2 : Nat) (l3 : Nat) (l4 : Int32) (M : q_Mem) (hcm : ce + 10 ≤ 6000) (hsm : sl + 400 ≤ 240000) {stp : (Int32 × q_Mem) ⊕ (q_Mem)} (h : (q_sc (q_kG K) (l4 + (1 : Int32)) (fun v285 => (q_ob M l1 11 ((F_X11_count l1 v285 M).bind (fun u286 => (q_sc (q_kG K) (l4 + (1 : Int32)) (fun v287 => (q_ob M l2 12 ((F_X12_count l2 v287 M).bind (fun x => match x with | (u288, M289) => (if u286 = u288 then J_L_law_1542_23 (q_kG K) l1 l2 l3 l4 M289 else none))))))))))) = some stp) (kC : ∀ (M : q_Mem), stp = .inl (l4 + 6, M) → q_W K 7 Q (ce + 10) (sl + 400) M 23 [some (.ref 35), some (.ref l1), some (.ref l2), some (.ref l3), some (.int (l4 + 6)), none, none] []) : q_W K 7 Q ce sl M 1517 [some (.ref 35), some (.ref l1), some (.ref l2), some (.ref l3), some (.int l4), none, none] [] := by
  refine q_aload_n C dL_law_1517 rfl ?_
  refine q_aload_n C dL_law_1518 rfl ?_
  refine q_iload C dL_law_1519 rfl ?_
  refine x_iconst (v := (1 : Int32)) C dL_law_1521 (by decide) ?_
  refine q_iadd C dL_law_1522 ?_
  refine x_ialdS C dL_law_1523 h (fun v285 h => ?_)
  obtain ⟨hk, h⟩ := q_obE h
  obtain ⟨u286, e1, h⟩ := q_bind h
  refine x_callV0 C dL_law_1524 lkM_L_185 mV_X11_count ⟨_, rfl, rfl⟩ hk (c_X11_count _ _ _ _ _ e1) rfl rfl (Nat.le_of_ble_eq_true rfl) (by decide) ⟨by omega, by omega⟩ ?_
  refine q_aload_n C dL_law_1527 rfl ?_
  refine q_aload_n C dL_law_1528 rfl ?_
  refine q_iload C dL_law_1529 rfl ?_
  refine x_iconst (v := (1 : Int32)) C dL_law_1531 (by decide) ?_
  refine q_iadd C dL_law_1532 ?_
  refine x_ialdS C dL_law_1533 h (fun v287 h => ?_)
  obtain ⟨hk, h⟩ := q_obE h
  obtain ⟨⟨u288, M289⟩, e1, h⟩ := q_bind h
  refine x_callV0 C dL_law_1534 lkM_L_188 mV_X12_count ⟨_, rfl, rfl⟩ hk (c_X12_count _ _ _ _ _ e1) rfl rfl (Nat.le_of_ble_eq_true rfl) (by decide) ⟨by omega, by omega⟩ ?_
  refine q_icmp_eq (tgt := 1542) C dL_law_1537 (by decide) h (fun _ h => ?_) (fun _ h => ?_)
  · exact q_msk [true, true, true, true, true, false, false] (jW_L_law_1542_23 C l1 l2 l3 l4 M289 (by omega) (by omega) h kC)
  · cases h
