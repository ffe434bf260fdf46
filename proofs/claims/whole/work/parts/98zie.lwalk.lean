/-! the law: its walk (laid by wip/whole/mk_lwalk.py) -/

set_option maxRecDepth 100000 in
set_option maxHeartbeats 4000000 in
theorem bW_L_law_23 {K : q_K} {Q : State → Prop} (C : q_C K yL_law cL_law 7 (Option.some Jvm.ClassFile.FieldType.boolean) 195 6000 240000) (hKT : q_KT K) (hst : K.2.1.stackTraces = false) {ce sl : Nat} (l1 : Nat) (l2 : Nat) (l3 : Nat) (l4 : Int32) (M : q_Mem) (hcm : ce + 10 ≤ 6000) (hsm : sl + 400 ≤ 240000) {stp : (Int32 × q_Mem) ⊕ (q_Mem)} (h : B_L_law_23 (q_kG K) l1 l2 l3 l4 M = some stp) (kC : ∀ (M : q_Mem), stp = .inl (l4 + 6, M) → q_W K 7 Q (ce + 10) (sl + 400) M 23 [some (.ref 35), some (.ref l1), some (.ref l2), some (.ref l3), some (.int (l4 + 6)), none, none] []) (kE0 : ∀ (M : q_Mem), stp = .inr M → q_W K 7 Q ce sl M 1548 [none, none, none, none, none, none, none] []) : q_W K 7 Q ce sl M 23 [some (.ref 35), some (.ref l1), some (.ref l2), some (.ref l3), some (.int l4), none, none] [] := by
  unfold B_L_law_23 at h
  refine q_iload C dL_law_23 rfl ?_
  refine q_aload_n C dL_law_25 rfl ?_
  refine x_alenS C dL_law_26 h (fun v11 h => ?_)
  refine x_bipush (v := (6 : Int32)) C dL_law_27 (by decide) ?_
  refine q_isub C dL_law_29 ?_
  refine q_icmp_gt (tgt := 1548) C dL_law_30 (by decide) h (fun _ h => ?_) (fun _ h => ?_)
  · exact q_msk [false, false, false, false, false, false, false] (kE0 _ (Option.some.inj h).symm)
  · refine q_aload_n C dL_law_33 rfl ?_
    refine q_iload C dL_law_34 rfl ?_
    refine x_ialdS C dL_law_36 h (fun v12 h => ?_)
    refine x_bipush (v := (63 : Int32)) C dL_law_37 (by decide) ?_
    refine q_iand C dL_law_39 ?_
    by_cases hs40_0 : (v12 &&& (63 : Int32)) = (0 : Int32)
    · have h := q_iteT h hs40_0
      refine q_tsIn (tgt := 212) C dL_law_40 hs40_0 (by decide) (by decide) rfl (by decide) ?_
      exact q_msk [true, true, true, true, true, false, false] (bW_L_law_c0 C l1 l2 l3 l4 M hcm hsm h kC)
    have h := q_iteF h hs40_0
    by_cases hs40_1 : (v12 &&& (63 : Int32)) = (1 : Int32)
    · have h := q_iteT h hs40_1
      refine q_tsIn (tgt := 285) C dL_law_40 hs40_1 (by decide) (by decide) rfl (by decide) ?_
      exact q_msk [true, true, true, true, true, false, false] (bW_L_law_c1 C l1 l2 l3 l4 M hcm hsm h kC)
    have h := q_iteF h hs40_1
    by_cases hs40_2 : (v12 &&& (63 : Int32)) = (2 : Int32)
    · have h := q_iteT h hs40_2
      refine q_tsIn (tgt := 310) C dL_law_40 hs40_2 (by decide) (by decide) rfl (by decide) ?_
      exact q_msk [true, true, true, true, true, false, false] (bW_L_law_c2 C l1 l2 l3 l4 M hcm hsm h kC)
    have h := q_iteF h hs40_2
    by_cases hs40_3 : (v12 &&& (63 : Int32)) = (3 : Int32)
    · have h := q_iteT h hs40_3
      refine q_tsIn (tgt := 335) C dL_law_40 hs40_3 (by decide) (by decide) rfl (by decide) ?_
      exact q_msk [true, true, true, true, true, false, false] (bW_L_law_c3 C l1 l2 l3 l4 M hcm hsm h kC)
    have h := q_iteF h hs40_3
    by_cases hs40_4 : (v12 &&& (63 : Int32)) = (4 : Int32)
    · have h := q_iteT h hs40_4
      refine q_tsIn (tgt := 360) C dL_law_40 hs40_4 (by decide) (by decide) rfl (by decide) ?_
      exact q_msk [true, true, true, true, true, false, false] (bW_L_law_c4 C l1 l2 l3 l4 M hcm hsm h kC)
    have h := q_iteF h hs40_4
    by_cases hs40_5 : (v12 &&& (63 : Int32)) = (5 : Int32)
    · have h := q_iteT h hs40_5
      refine q_tsIn (tgt := 385) C dL_law_40 hs40_5 (by decide) (by decide) rfl (by decide) ?_
      exact q_msk [true, true, true, true, true, false, false] (bW_L_law_c5 C l1 l2 l3 l4 M hcm hsm h kC)
    have h := q_iteF h hs40_5
    by_cases hs40_6 : (v12 &&& (63 : Int32)) = (6 : Int32)
    · have h := q_iteT h hs40_6
      refine q_tsIn (tgt := 422) C dL_law_40 hs40_6 (by decide) (by decide) rfl (by decide) ?_
      exact q_msk [true, true, true, true, true, false, false] (bW_L_law_c6 C hKT hst l1 l2 l3 l4 M hcm hsm h kC)
    have h := q_iteF h hs40_6
    by_cases hs40_7 : (v12 &&& (63 : Int32)) = (7 : Int32)
    · have h := q_iteT h hs40_7
      refine q_tsIn (tgt := 490) C dL_law_40 hs40_7 (by decide) (by decide) rfl (by decide) ?_
      exact q_msk [true, true, true, true, true, false, false] (bW_L_law_c7 C l1 l2 l3 l4 M hcm hsm h kC)
    have h := q_iteF h hs40_7
    by_cases hs40_8 : (v12 &&& (63 : Int32)) = (8 : Int32)
    · have h := q_iteT h hs40_8
      refine q_tsIn (tgt := 515) C dL_law_40 hs40_8 (by decide) (by decide) rfl (by decide) ?_
      exact q_msk [true, true, true, true, true, false, false] (bW_L_law_c8 C l1 l2 l3 l4 M hcm hsm h kC)
    have h := q_iteF h hs40_8
    by_cases hs40_9 : (v12 &&& (63 : Int32)) = (9 : Int32)
    · have h := q_iteT h hs40_9
      refine q_tsIn (tgt := 540) C dL_law_40 hs40_9 (by decide) (by decide) rfl (by decide) ?_
      exact q_msk [true, true, true, true, true, false, false] (bW_L_law_c9 C l1 l2 l3 l4 M hcm hsm h kC)
    have h := q_iteF h hs40_9
    by_cases hs40_10 : (v12 &&& (63 : Int32)) = (10 : Int32)
    · have h := q_iteT h hs40_10
      refine q_tsIn (tgt := 553) C dL_law_40 hs40_10 (by decide) (by decide) rfl (by decide) ?_
      exact q_msk [true, true, true, true, true, false, false] (bW_L_law_c10 C l1 l2 l3 l4 M hcm hsm h kC)
    have h := q_iteF h hs40_10
    by_cases hs40_11 : (v12 &&& (63 : Int32)) = (11 : Int32)
    · have h := q_iteT h hs40_11
      refine q_tsIn (tgt := 578) C dL_law_40 hs40_11 (by decide) (by decide) rfl (by decide) ?_
      exact q_msk [true, true, true, true, true, false, false] (bW_L_law_c11 C l1 l2 l3 l4 M hcm hsm h kC)
    have h := q_iteF h hs40_11
    by_cases hs40_12 : (v12 &&& (63 : Int32)) = (12 : Int32)
    · have h := q_iteT h hs40_12
      refine q_tsIn (tgt := 591) C dL_law_40 hs40_12 (by decide) (by decide) rfl (by decide) ?_
      exact q_msk [true, true, true, true, true, false, false] (bW_L_law_c12 C l1 l2 l3 l4 M hcm hsm h kC)
    have h := q_iteF h hs40_12
    by_cases hs40_13 : (v12 &&& (63 : Int32)) = (13 : Int32)
    · have h := q_iteT h hs40_13
      refine q_tsIn (tgt := 604) C dL_law_40 hs40_13 (by decide) (by decide) rfl (by decide) ?_
      exact q_msk [true, true, true, true, true, false, false] (bW_L_law_c13 C l1 l2 l3 l4 M hcm hsm h kC)
    have h := q_iteF h hs40_13
    by_cases hs40_14 : (v12 &&& (63 : Int32)) = (14 : Int32)
    · have h := q_iteT h hs40_14
      refine q_tsIn (tgt := 641) C dL_law_40 hs40_14 (by decide) (by decide) rfl (by decide) ?_
      exact q_msk [true, true, true, true, true, false, false] (bW_L_law_c14 C l1 l2 l3 l4 M hcm hsm h kC)
    have h := q_iteF h hs40_14
    by_cases hs40_15 : (v12 &&& (63 : Int32)) = (15 : Int32)
    · have h := q_iteT h hs40_15
      refine q_tsIn (tgt := 678) C dL_law_40 hs40_15 (by decide) (by decide) rfl (by decide) ?_
      exact q_msk [true, true, true, true, true, false, false] (bW_L_law_c15 C l1 l2 l3 l4 M hcm hsm h kC)
    have h := q_iteF h hs40_15
    by_cases hs40_16 : (v12 &&& (63 : Int32)) = (16 : Int32)
    · have h := q_iteT h hs40_16
      refine q_tsIn (tgt := 747) C dL_law_40 hs40_16 (by decide) (by decide) rfl (by decide) ?_
      exact q_msk [true, true, true, true, true, false, false] (bW_L_law_c16 C l1 l2 l3 l4 M hcm hsm h kC)
    have h := q_iteF h hs40_16
    by_cases hs40_17 : (v12 &&& (63 : Int32)) = (17 : Int32)
    · have h := q_iteT h hs40_17
      refine q_tsIn (tgt := 760) C dL_law_40 hs40_17 (by decide) (by decide) rfl (by decide) ?_
      exact q_msk [true, true, true, true, true, false, false] (bW_L_law_c17 C l1 l2 l3 l4 M hcm hsm h kC)
    have h := q_iteF h hs40_17
    by_cases hs40_18 : (v12 &&& (63 : Int32)) = (18 : Int32)
    · have h := q_iteT h hs40_18
      refine q_tsIn (tgt := 797) C dL_law_40 hs40_18 (by decide) (by decide) rfl (by decide) ?_
      exact q_msk [true, true, true, true, true, false, false] (bW_L_law_c18 C l1 l2 l3 l4 M hcm hsm h kC)
    have h := q_iteF h hs40_18
    by_cases hs40_19 : (v12 &&& (63 : Int32)) = (19 : Int32)
    · have h := q_iteT h hs40_19
      refine q_tsIn (tgt := 846) C dL_law_40 hs40_19 (by decide) (by decide) rfl (by decide) ?_
      exact q_msk [true, true, true, true, true, false, false] (bW_L_law_c19 C l1 l2 l3 l4 M hcm hsm h kC)
    have h := q_iteF h hs40_19
    by_cases hs40_20 : (v12 &&& (63 : Int32)) = (20 : Int32)
    · have h := q_iteT h hs40_20
      refine q_tsIn (tgt := 883) C dL_law_40 hs40_20 (by decide) (by decide) rfl (by decide) ?_
      exact q_msk [true, true, true, true, true, false, false] (bW_L_law_c20 C l1 l2 l3 l4 M hcm hsm h kC)
    have h := q_iteF h hs40_20
    by_cases hs40_21 : (v12 &&& (63 : Int32)) = (21 : Int32)
    · have h := q_iteT h hs40_21
      refine q_tsIn (tgt := 908) C dL_law_40 hs40_21 (by decide) (by decide) rfl (by decide) ?_
      exact q_msk [true, true, true, true, true, false, false] (bW_L_law_c21 C l1 l2 l3 l4 M hcm hsm h kC)
    have h := q_iteF h hs40_21
    by_cases hs40_22 : (v12 &&& (63 : Int32)) = (22 : Int32)
    · have h := q_iteT h hs40_22
      refine q_tsIn (tgt := 945) C dL_law_40 hs40_22 (by decide) (by decide) rfl (by decide) ?_
      exact q_msk [true, true, true, true, true, false, false] (bW_L_law_c22 C l1 l2 l3 l4 M hcm hsm h kC)
    have h := q_iteF h hs40_22
    by_cases hs40_23 : (v12 &&& (63 : Int32)) = (23 : Int32)
    · have h := q_iteT h hs40_23
      refine q_tsIn (tgt := 970) C dL_law_40 hs40_23 (by decide) (by decide) rfl (by decide) ?_
      exact q_msk [true, true, true, true, true, false, false] (bW_L_law_c23 C l1 l2 l3 l4 M hcm hsm h kC)
    have h := q_iteF h hs40_23
    by_cases hs40_24 : (v12 &&& (63 : Int32)) = (24 : Int32)
    · have h := q_iteT h hs40_24
      refine q_tsIn (tgt := 995) C dL_law_40 hs40_24 (by decide) (by decide) rfl (by decide) ?_
      exact q_msk [true, true, true, true, true, false, false] (bW_L_law_c24 C l1 l2 l3 l4 M hcm hsm h kC)
    have h := q_iteF h hs40_24
    by_cases hs40_25 : (v12 &&& (63 : Int32)) = (25 : Int32)
    · have h := q_iteT h hs40_25
      refine q_tsIn (tgt := 1032) C dL_law_40 hs40_25 (by decide) (by decide) rfl (by decide) ?_
      exact q_msk [true, true, true, true, true, false, false] (bW_L_law_c25 C l1 l2 l3 l4 M hcm hsm h kC)
    have h := q_iteF h hs40_25
    by_cases hs40_26 : (v12 &&& (63 : Int32)) = (26 : Int32)
    · have h := q_iteT h hs40_26
      refine q_tsIn (tgt := 1057) C dL_law_40 hs40_26 (by decide) (by decide) rfl (by decide) ?_
      exact q_msk [true, true, true, true, true, false, false] (bW_L_law_c26 C l1 l2 l3 l4 M hcm hsm h kC)
    have h := q_iteF h hs40_26
    by_cases hs40_27 : (v12 &&& (63 : Int32)) = (27 : Int32)
    · have h := q_iteT h hs40_27
      refine q_tsIn (tgt := 1146) C dL_law_40 hs40_27 (by decide) (by decide) rfl (by decide) ?_
      exact q_msk [true, true, true, true, true, false, false] (bW_L_law_c27 C l1 l2 l3 l4 M hcm hsm h kC)
    have h := q_iteF h hs40_27
    by_cases hs40_28 : (v12 &&& (63 : Int32)) = (28 : Int32)
    · have h := q_iteT h hs40_28
      refine q_tsIn (tgt := 1171) C dL_law_40 hs40_28 (by decide) (by decide) rfl (by decide) ?_
      exact q_msk [true, true, true, true, true, false, false] (bW_L_law_c28 C l1 l2 l3 l4 M hcm hsm h kC)
    have h := q_iteF h hs40_28
    by_cases hs40_29 : (v12 &&& (63 : Int32)) = (29 : Int32)
    · have h := q_iteT h hs40_29
      refine q_tsIn (tgt := 1220) C dL_law_40 hs40_29 (by decide) (by decide) rfl (by decide) ?_
      exact q_msk [true, true, true, true, true, false, false] (bW_L_law_c29 C l1 l2 l3 l4 M hcm hsm h kC)
    have h := q_iteF h hs40_29
    by_cases hs40_30 : (v12 &&& (63 : Int32)) = (30 : Int32)
    · have h := q_iteT h hs40_30
      refine q_tsIn (tgt := 1245) C dL_law_40 hs40_30 (by decide) (by decide) rfl (by decide) ?_
      exact q_msk [true, true, true, true, true, false, false] (bW_L_law_c30 C l1 l2 l3 l4 M hcm hsm h kC)
    have h := q_iteF h hs40_30
    by_cases hs40_31 : (v12 &&& (63 : Int32)) = (31 : Int32)
    · have h := q_iteT h hs40_31
      refine q_tsIn (tgt := 1318) C dL_law_40 hs40_31 (by decide) (by decide) rfl (by decide) ?_
      exact q_msk [true, true, true, true, true, false, false] (bW_L_law_c31 C l1 l2 l3 l4 M hcm hsm h kC)
    have h := q_iteF h hs40_31
    by_cases hs40_32 : (v12 &&& (63 : Int32)) = (32 : Int32)
    · have h := q_iteT h hs40_32
      refine q_tsIn (tgt := 1367) C dL_law_40 hs40_32 (by decide) (by decide) rfl (by decide) ?_
      exact q_msk [true, true, true, true, true, false, false] (bW_L_law_c32 C l1 l2 l3 l4 M hcm hsm h kC)
    have h := q_iteF h hs40_32
    by_cases hs40_33 : (v12 &&& (63 : Int32)) = (33 : Int32)
    · have h := q_iteT h hs40_33
      refine q_tsIn (tgt := 1416) C dL_law_40 hs40_33 (by decide) (by decide) rfl (by decide) ?_
      exact q_msk [true, true, true, true, true, false, false] (bW_L_law_c33 C l1 l2 l3 l4 M hcm hsm h kC)
    have h := q_iteF h hs40_33
    by_cases hs40_34 : (v12 &&& (63 : Int32)) = (34 : Int32)
    · have h := q_iteT h hs40_34
      refine q_tsIn (tgt := 1441) C dL_law_40 hs40_34 (by decide) (by decide) rfl (by decide) ?_
      exact q_msk [true, true, true, true, true, false, false] (bW_L_law_c34 C l1 l2 l3 l4 M hcm hsm h kC)
    have h := q_iteF h hs40_34
    by_cases hs40_35 : (v12 &&& (63 : Int32)) = (35 : Int32)
    · have h := q_iteT h hs40_35
      refine q_tsIn (tgt := 1466) C dL_law_40 hs40_35 (by decide) (by decide) rfl (by decide) ?_
      exact q_msk [true, true, true, true, true, false, false] (bW_L_law_c35 C l1 l2 l3 l4 M hcm hsm h kC)
    have h := q_iteF h hs40_35
    by_cases hs40_36 : (v12 &&& (63 : Int32)) = (36 : Int32)
    · have h := q_iteT h hs40_36
      refine q_tsIn (tgt := 1491) C dL_law_40 hs40_36 (by decide) (by decide) rfl (by decide) ?_
      exact q_msk [true, true, true, true, true, false, false] (bW_L_law_c36 C l1 l2 l3 l4 M hcm hsm h kC)
    have h := q_iteF h hs40_36
    by_cases hs40_37 : (v12 &&& (63 : Int32)) = (37 : Int32)
    · have h := q_iteT h hs40_37
      refine q_tsIn (tgt := 1504) C dL_law_40 hs40_37 (by decide) (by decide) rfl (by decide) ?_
      exact q_msk [true, true, true, true, true, false, false] (bW_L_law_c37 C l1 l2 l3 l4 M hcm hsm h kC)
    have h := q_iteF h hs40_37
    by_cases hs40_38 : (v12 &&& (63 : Int32)) = (38 : Int32)
    · have h := q_iteT h hs40_38
      refine q_tsIn (tgt := 1517) C dL_law_40 hs40_38 (by decide) (by decide) rfl (by decide) ?_
      exact q_msk [true, true, true, true, true, false, false] (bW_L_law_c38 C l1 l2 l3 l4 M hcm hsm h kC)
    have h := q_iteF h hs40_38
    have ho40 : ((v12 &&& (63 : Int32)) : Int32).toInt < 0 ∨ 38 < ((v12 &&& (63 : Int32)) : Int32).toInt := by
      have z0 := lv_neT (a := 0) hs40_0 (by decide)
      have z1 := lv_neT (a := 1) hs40_1 (by decide)
      have z2 := lv_neT (a := 2) hs40_2 (by decide)
      have z3 := lv_neT (a := 3) hs40_3 (by decide)
      have z4 := lv_neT (a := 4) hs40_4 (by decide)
      have z5 := lv_neT (a := 5) hs40_5 (by decide)
      have z6 := lv_neT (a := 6) hs40_6 (by decide)
      have z7 := lv_neT (a := 7) hs40_7 (by decide)
      have z8 := lv_neT (a := 8) hs40_8 (by decide)
      have z9 := lv_neT (a := 9) hs40_9 (by decide)
      have z10 := lv_neT (a := 10) hs40_10 (by decide)
      have z11 := lv_neT (a := 11) hs40_11 (by decide)
      have z12 := lv_neT (a := 12) hs40_12 (by decide)
      have z13 := lv_neT (a := 13) hs40_13 (by decide)
      have z14 := lv_neT (a := 14) hs40_14 (by decide)
      have z15 := lv_neT (a := 15) hs40_15 (by decide)
      have z16 := lv_neT (a := 16) hs40_16 (by decide)
      have z17 := lv_neT (a := 17) hs40_17 (by decide)
      have z18 := lv_neT (a := 18) hs40_18 (by decide)
      have z19 := lv_neT (a := 19) hs40_19 (by decide)
      have z20 := lv_neT (a := 20) hs40_20 (by decide)
      have z21 := lv_neT (a := 21) hs40_21 (by decide)
      have z22 := lv_neT (a := 22) hs40_22 (by decide)
      have z23 := lv_neT (a := 23) hs40_23 (by decide)
      have z24 := lv_neT (a := 24) hs40_24 (by decide)
      have z25 := lv_neT (a := 25) hs40_25 (by decide)
      have z26 := lv_neT (a := 26) hs40_26 (by decide)
      have z27 := lv_neT (a := 27) hs40_27 (by decide)
      have z28 := lv_neT (a := 28) hs40_28 (by decide)
      have z29 := lv_neT (a := 29) hs40_29 (by decide)
      have z30 := lv_neT (a := 30) hs40_30 (by decide)
      have z31 := lv_neT (a := 31) hs40_31 (by decide)
      have z32 := lv_neT (a := 32) hs40_32 (by decide)
      have z33 := lv_neT (a := 33) hs40_33 (by decide)
      have z34 := lv_neT (a := 34) hs40_34 (by decide)
      have z35 := lv_neT (a := 35) hs40_35 (by decide)
      have z36 := lv_neT (a := 36) hs40_36 (by decide)
      have z37 := lv_neT (a := 37) hs40_37 (by decide)
      have z38 := lv_neT (a := 38) hs40_38 (by decide)
      omega
    refine q_tsOut (tgt := 1542) C dL_law_40 ho40 (by decide) ?_
    exact q_msk [true, true, true, true, true, false, false] (jW_L_law_1542_23 C l1 l2 l3 l4 M (by omega) (by omega) h kC)
theorem yt_outG {G : q_G} {M : q_Mem} {l1 l2 l3 : Nat} (hn : G.2.1 99 ≤ 3072) (i : Nat) (hi : 6 * i ≤ G.2.1 99) (h : ¬ 6 * i + 6 ≤ G.2.1 99) : B_L_law_23 G l1 l2 l3 (Int32.ofNat (6 * i)) M = some (.inr M) := by
  have hz : Int32.ofNat (G.2.1 99) - 6 < Int32.ofNat (6 * i) := by
    by_cases h6 : 6 ≤ G.2.1 99
    · have e : Int32.ofNat (G.2.1 99) - 6 = Int32.ofNat (G.2.1 99 - 6) := p_osub (G.2.1 99) 6 (by omega)
      rw [e, p_lt _ _ (by omega) (by omega)]
      omega
    · have hi0 : i = 0 := by omega
      subst hi0
      have hc : G.2.1 99 = 0 ∨ G.2.1 99 = 1 ∨ G.2.1 99 = 2 ∨ G.2.1 99 = 3 ∨ G.2.1 99 = 4 ∨ G.2.1 99 = 5 := by omega
      rcases hc with e | e | e | e | e | e <;> rw [e] <;> decide
  unfold B_L_law_23 q_scn
  exact if_pos hz
set_option maxRecDepth 100000 in
set_option maxHeartbeats 4000000 in
theorem lW_L_law_23 {K : q_K} {Q : State → Prop} (C : q_C K yL_law cL_law 7 (Option.some Jvm.ClassFile.FieldType.boolean) 195 6000 240000) (hKT : q_KT K) (hst : K.2.1.stackTraces = false) (hn : (q_kG K).2.1 99 ≤ 3072) (l1 : Nat) (l2 : Nat) (l3 : Nat) (c0 s0 : Nat) (hc0 : c0 ≤ 800) (hs0 : s0 ≤ 30000) (kE0 : ∀ (ce sl : Nat) (M : q_Mem), ce ≤ 6000 → sl ≤ 240000 → q_W K 7 Q ce sl M 1548 [none, none, none, none, none, none, none] []) (n : Nat) : ∀ (t : Nat) (M : q_Mem) (e : q_Mem), 6 * t ≤ (q_kG K).2.1 99 → q_lp (fun s => B_L_law_23 (q_kG K) l1 l2 l3 s.1 s.2) n (Int32.ofNat (6 * t), M) = some e → q_W K 7 Q (c0 + 10 * t) (s0 + 400 * t) M 23 [some (.ref 35), some (.ref l1), some (.ref l2), some (.ref l3), some (.int (Int32.ofNat (6 * t))), none, none] [] := by
  induction n with
  | zero => intro t M e _ h; cases h
  | succ n ih =>
    intro t M e ht h
    obtain ⟨stp, e1, e2⟩ := q_bind h
    refine bW_L_law_23 C hKT hst l1 l2 l3 (Int32.ofNat (6 * t)) M (by omega) (by omega) e1 (fun a1 hs => ?_) (fun b0 hs => kE0 _ _ _ (by omega) (by omega))
    subst hs
    by_cases h6 : 6 * t + 6 ≤ (q_kG K).2.1 99
    · have e6 : Int32.ofNat (6 * t) + 6 = Int32.ofNat (6 * (t + 1)) := by
        rw [show 6 * (t + 1) = 6 * t + 6 by omega, Int32.ofNat_add]
        rfl
      simp only at e2
      rw [e6] at e2 ⊢
      exact ih (t + 1) a1 e (by omega) e2
    · have e3 : B_L_law_23 (q_kG K) l1 l2 l3 (Int32.ofNat (6 * t)) M = _ := e1
      rw [yt_outG hn t ht h6] at e3
      cases e3
set_option maxRecDepth 100000 in
set_option maxHeartbeats 4000000 in
theorem c_L_law {K : q_K} {Q : State → Prop} (C : q_C K yL_law cL_law 7 (Option.some Jvm.ClassFile.FieldType.boolean) 195 6000 240000) (hKT : q_KT K) (hst : K.2.1.stackTraces = false) (hn : (q_kG K).2.1 99 ≤ 3072) (M : q_Mem) {r : Int32} {M1 : q_Mem} (h : F_L_law (q_kG K) M = some (r, M1)) (kE : ∀ (ce sl : Nat) (M : q_Mem), ce ≤ 6000 → sl ≤ 240000 → q_W K 7 Q ce sl M 1549 [none, none, none, none, none, none, none] [.int 1]) : q_W K 7 Q 0 0 M 0 [some (.ref 35), none, none, none, none, none, none] [] := by
  unfold F_L_law at h
  refine x_new (ci := 11) C dL_law_0 rfl clok_11 wd_27 wd_28 wd_1 df_11 h (by decide) (fun k1 M2 h => ?_)
  refine q_dup C dL_law_3 rfl ?_
  obtain ⟨⟨_, M4⟩, e1, h⟩ := q_bind h
  refine x_callI C dL_law_4 lkM_L_15 mI_X11_init (c_X11_init _ _ _ _ e1) rfl rfl (Nat.le_of_ble_eq_true rfl) (by decide) (by decide) ?_
  refine q_astore_n (L' := [some (.ref 35), some (.ref k1), none, none, none, none, none]) C dL_law_7 (by decide) rfl rfl ?_
  refine x_new (ci := 12) C dL_law_8 rfl clok_12 wd_1191 wd_1192 wd_12 df_12 h (by decide) (fun k5 M6 h => ?_)
  refine q_dup C dL_law_11 rfl ?_
  obtain ⟨⟨_, M8⟩, e1, h⟩ := q_bind h
  refine x_callI C dL_law_12 lkM_L_18 mI_X12_init (c_X12_init _ _ _ _ e1) rfl rfl (Nat.le_of_ble_eq_true rfl) (by decide) (by decide) ?_
  refine q_astore_n (L' := [some (.ref 35), some (.ref k1), some (.ref k5), none, none, none, none]) C dL_law_15 (by decide) rfl rfl ?_
  refine x_iconst (v := (1 : Int32)) C dL_law_16 (by decide) ?_
  refine x_newa C dL_law_17 (by simp) wd_1841 (by decide) h (by decide) (fun k9 M10 h => ?_)
  refine q_astore_n (L' := [some (.ref 35), some (.ref k1), some (.ref k5), some (.ref k9), none, none, none]) C dL_law_19 (by decide) rfl rfl ?_
  refine x_iconst (v := (0 : Int32)) C dL_law_20 (by decide) ?_
  refine q_istore (L' := [some (.ref 35), some (.ref k1), some (.ref k5), some (.ref k9), some (.int (0 : Int32)), none, none]) C dL_law_21 (by decide) rfl rfl ?_
  obtain ⟨e290, he, h⟩ := q_bind h
  refine q_msk [true, true, true, true, true, false, false] (q_widen (ce' := 800 + 10 * 0) (sl' := 30000 + 400 * 0) (by decide) (by decide) (lW_L_law_23 C hKT hst hn k1 k5 k9 800 30000 (by decide) (by decide) ?_ q_fu 0 _ _ (by omega) he))
  intro ce sl M2 hc hs
  exact x_iconst (v := (1 : Int32)) C dL_law_1548 (by decide) (kE ce sl M2 hc hs)
