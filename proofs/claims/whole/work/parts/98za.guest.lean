/-! where guest throws -/
noncomputable def T_X11_guest (l0 : Nat) (l1 : Int32) (l2 : Int32) (M : q_Mem) : Option Unit := (q_gR M l0 11 1 (fun c1 => q_nn c1 (fun r2 => (q_ob M r2 3 ((F_X3_hasGuest r2 l1 M).bind (fun u3 => (if u3 = 0 then some () else (if l2 = (0 : Int32) then none else (if l2 = (1 : Int32) then none else (if l2 = (2 : Int32) then none else (if l2 = (3 : Int32) then none else (if l2 = (4 : Int32) then none else (if l2 = (5 : Int32) then none else some ())))))))))))))
set_option maxRecDepth 100000 in
set_option maxHeartbeats 4000000 in
theorem cx_X11_guest (l : Launch) (G : q_G) (hst : l.stackTraces = false) (l0 : Nat) (l1 : Int32) (l2 : Int32) (M : q_Mem) (h : T_X11_guest l0 l1 l2 M = some ()) : q_MetX l G yX11_guest cX11_guest 3 (Option.some Jvm.ClassFile.FieldType.int) 6 1 6 [.ref l0, .int l1, .int l2] M := by
  unfold T_X11_guest at h
  refine q_enterX [some (.ref l0), some (.int l1), some (.int l2)] hst (by decide) (Nat.le_of_ble_eq_true rfl) rfl (fun K C X => ?_)
  refine q_aload_n C dX11_guest_0 rfl ?_
  refine x_getR (ci := 11) (j := 1) C dX11_guest_1 lkF_X11_19 rfl h (fun c1 h => ?_)
  refine x_nn h (fun r2 h => ?_)
  refine q_iload_n C dX11_guest_4 rfl ?_
  obtain ⟨hk, h⟩ := q_obE h
  obtain ⟨u3, e1, h⟩ := q_bind h
  refine x_callV0 C dX11_guest_5 lkM_X11_170 mV_X3_hasGuest ⟨_, rfl, rfl⟩ hk (c_X3_hasGuest _ _ _ _ _ e1) rfl rfl (Nat.le_of_ble_eq_true rfl) (by decide) (by decide) ?_
  refine q_if_ne (tgt := 21) C dX11_guest_8 (by decide) h (fun _ h => ?_) (fun _ h => ?_)
  · exact q_throw (sa := fun G => G.2.1 100) C X rfl (fun G U h => h.2.2.2.1) dX11_guest_11 dX11_guest_14 dX11_guest_15 dX11_guest_17 dX11_guest_20 (by decide) (by decide) (by decide)
  · refine q_iload_n C dX11_guest_21 rfl ?_
    by_cases hs22_0 : l2 = (0 : Int32)
    · have h := q_iteT h hs22_0; cases h
    have h := q_iteF h hs22_0
    by_cases hs22_1 : l2 = (1 : Int32)
    · have h := q_iteT h hs22_1; cases h
    have h := q_iteF h hs22_1
    by_cases hs22_2 : l2 = (2 : Int32)
    · have h := q_iteT h hs22_2; cases h
    have h := q_iteF h hs22_2
    by_cases hs22_3 : l2 = (3 : Int32)
    · have h := q_iteT h hs22_3; cases h
    have h := q_iteF h hs22_3
    by_cases hs22_4 : l2 = (4 : Int32)
    · have h := q_iteT h hs22_4; cases h
    have h := q_iteF h hs22_4
    by_cases hs22_5 : l2 = (5 : Int32)
    · have h := q_iteT h hs22_5; cases h
    have ho22 : (l2 : Int32).toInt < 0 ∨ 5 < (l2 : Int32).toInt := by
      have z0 := lv_neT (a := 0) hs22_0 (by decide)
      have z1 := lv_neT (a := 1) hs22_1 (by decide)
      have z2 := lv_neT (a := 2) hs22_2 (by decide)
      have z3 := lv_neT (a := 3) hs22_3 (by decide)
      have z4 := lv_neT (a := 4) hs22_4 (by decide)
      have z5 := lv_neT (a := 5) hs22_5 (by decide)
      omega
    refine q_tsOut (tgt := 136) C dX11_guest_22 ho22 (by decide) ?_
    exact q_throw (sa := fun G => G.2.1 101) C X rfl (fun G U h => h.2.2.2.2) dX11_guest_136 dX11_guest_139 dX11_guest_140 dX11_guest_142 dX11_guest_145 (by decide) (by decide) (by decide)
