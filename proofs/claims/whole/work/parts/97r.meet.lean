/-! what a year's day begins with -/
noncomputable def yq_y1 (H' : t_H) (L' : t_L) (dx' : Int64 → Int64) (dv' : Int64 → Int32 → Int32) (f' : Int32) (s' : Nat → Int32) (x' : Int64) : Nat → Int32 := if dv' (dx' x') (Int32.ofNat 10) < f' ∧ t_can H' s' 2 (-1) (-1) = true then t_do H' L' s' 2 (-1) (-1) else s'
noncomputable def yq_y3 (H' : t_H) (L' : t_L) (s' : Nat → Int32) (a' : Int32) : Nat → Int32 := if t_can H' s' 4 a' 2 = true then t_do H' L' s' 4 a' 2 else s'
noncomputable def yq_y2 (H' : t_H) (L' : t_L) (dx' : Int64 → Int64) (dv' : Int64 → Int32 → Int32) (s' : Nat → Int32) (x' : Int64) : (Nat → Int32) × Int64 := if dv' (dx' (dx' x')) (Int32.ofNat 10) < 8 then (va_up s' 3 (dv' (dx' x') (Int32.ofNat (t_nd H'))), dx' (dx' x')) else (yq_y3 H' L' (va_up s' 3 (dv' (dx' x') (Int32.ofNat (t_nd H')))) (dv' (dx' (dx' (dx' x'))) (Int32.ofNat (t_ng H'))), dx' (dx' (dx' x')))
noncomputable def yq_yr (H' : t_H) (L' : t_L) (dx' : Int64 → Int64) (dv' : Int64 → Int32 → Int32) (f' : Int32) (s' : Nat → Int32) (x' : Int64) : (Nat → Int32) × Int64 := yq_y2 H' L' dx' dv' (yq_y1 H' L' dx' dv' f' s' x') (dx' x')
section PD'
variable {X' : p_X} {I' : p_I} {H' : t_H} {L' : t_L} {s' : Nat → Int32} {dx' : Int64 → Int64} {dv' : Int64 → Int32 → Int32}
theorem t_GSc (hW' : t_HW H') (h' : t_GS H' s') {d' : Nat} (hd' : d' < t_nd H') : t_GS H' (va_up s' 3 (Int32.ofNat d')) := by
  have hnd' := hW'.2.1
  by_cases e' : s' 3 = Int32.ofNat d'
  · have : va_up s' 3 (Int32.ofNat d') = s' := by
      funext j'
      rw [p_va]
      split
      · rename_i h'; rw [h', e']
      · rfl
    rw [this]; exact h'
  · have hc' : t_can H' s' 1 (Int32.ofNat d') 0 = true := by
      have hi' : t_inr (Int32.ofNat d') (t_nd H') = true := by
        unfold t_inr
        have h1' : (Int32.ofNat d' < 0) = False := by
          rw [show (0 : Int32) = Int32.ofNat 0 from rfl, p_lt d' 0 (by omega) (by omega)]
          simp
        have h2' : (Int32.ofNat d' < Int32.ofNat (t_nd H')) = True := by
          rw [p_lt d' _ (by omega) (by omega)]; exact eq_true hd'
        simp [h1', h2']
      simp only [t_can, hi', e', decide_false, Bool.not_false, Bool.and_self]
    exact t_GSd (L' := none) hW' h' (op' := 1) (by omega) hc'
theorem yq_y1G (hW' : t_HW H') (h' : t_GS H' s') (f' : Int32) (x' : Int64) : t_GS H' (yq_y1 H' L' dx' dv' f' s' x') := by
  unfold yq_y1
  split
  · rename_i hc'; exact t_GSd hW' h' (by omega) hc'.2
  · exact h'
theorem yq_y3G (hW' : t_HW H') (h' : t_GS H' s') (a' : Int32) : t_GS H' (yq_y3 H' L' s' a') := by
  unfold yq_y3
  split
  · rename_i hc'; exact t_GSd hW' h' (by omega) hc'
  · exact h'
theorem yq_y2G (hdN' : yq_HN dv') (hW' : t_HW H') (h' : t_GS H' s') (x' : Int64) : t_GS H' (yq_y2 H' L' dx' dv' s' x').1 := by
  obtain ⟨d', hd', ed'⟩ := hdN' (dx' x') _ hW'.1 (show t_nd H' ≤ 10 by have := hW'.2.1; omega)
  have h2' : t_GS H' (va_up s' 3 (dv' (dx' x') (Int32.ofNat (t_nd H')))) := by rw [ed']; exact t_GSc hW' h' hd'
  unfold yq_y2
  split
  · exact h2'
  · exact yq_y3G hW' h2' _
theorem s_meet28 (hdC' : yq_HC dx' dv') (hdN' : yq_HN dv') (hB' : p_B X') (hH' : t_HI H' I') (hW' : t_HW H') (hL' : ∀ x', t_LC L' (x', X'.2) I') (hG' : t_GS H' (I' 54)) : ∃ J', J_X11_meetChance_28 36 (I', X') = some ((), (J', p_L X' 36 19 (yq_y2 H' L' dx' dv' (I' 54) (X'.1 36 19)).2)) ∧ (∀ c', c' ≠ 63 → c' ≠ 64 → c' ≠ 65 → c' ≠ p_sc X' → c' ≠ 54 → J' c' = I' c') ∧ J' 54 = (yq_y2 H' L' dx' dv' (I' 54) (X'.1 36 19)).1 := by
  have hnd' := hW'.2.1
  have hng' := hW'.2.2.2.1
  generalize hx' : X'.1 36 19 = x'
  have d1' := hdC' X' I' _ hB' hW'.1 (show t_nd H' ≤ 10 by omega)
  rw [hx'] at d1'
  unfold yq_y2
  obtain ⟨d', hd', ed'⟩ := hdN' (dx' x') _ hW'.1 (show t_nd H' ≤ 10 by omega)
  rw [ed'] at d1' ⊢
  generalize dx' x' = x1' at *
  have hB1' := p_BL hB' 36 19 x1'
  have e54' : q_u2 I' 54 3 (Int32.ofNat d') 54 = va_up (I' 54) 3 (Int32.ofNat d') := p_ur _ _ _ _
  generalize hI1' : q_u2 I' 54 3 (Int32.ofNat d') = I1' at e54'
  have f1' : ∀ c', c' ≠ 54 → I1' c' = I' c' := fun c' hc' => by rw [← hI1']; exact p_uc _ _ _ _ _ hc'
  have d2' := hdC' (p_L X' 36 19 x1') I1' 10 hB1' (by decide) (by decide)
  rw [p_Lv, p_LL] at d2'
  have hB2' := p_BL hB' 36 19 (dx' x1')
  have d3' := hdC' (p_L X' 36 19 (dx' x1')) I1' _ hB2' hW'.2.2.1 (show t_ng H' ≤ 10 by omega)
  rw [p_Lv, p_LL] at d3'
  have hB3' := p_BL hB' 36 19 (dx' (dx' x1'))
  have d2'' : F_X11_draw 36 10 (I1', p_L X' 36 19 x1') = some (dv' (dx' x1') (Int32.ofNat 10), (I1', p_L X' 36 19 (dx' x1'))) := d2'
  have n4' : I' 39 4 = Int32.ofNat (t_nd H') := hH'.2.2.2.2.1
  have n5' : I1' 39 5 = Int32.ofNat (t_ng H') := by rw [f1' 39 (by decide)]; exact hH'.2.2.2.2.2.1
  have ht' : ∀ f' : q_Mem → Option (Unit × q_Mem), q_tI (I', p_L X' 36 19 x1') 54 3 (Int32.ofNat d') f' = f' (I1', p_L X' 36 19 x1') := fun f' => by
    rw [← hI1']
    exact p_tI (sh_54 hB1') (by decide) (by decide) I' 3 _ f' (by decide)
  have hGS1' : t_GS H' (I1' 54) := by rw [e54']; exact t_GSc hW' hG' hd'
  unfold J_X11_meetChance_28
  by_cases hc' : dv' (dx' x1') (Int32.ofNat 10) < 8
  · refine ⟨I1', ?_, fun c' _ _ _ _ z' => f1' c' z', ?_⟩
    · simp (disch := omega) only [↓ce_36 hB', rf_36 hB', ↓ce_39 hB', rf_39 hB', ↓ce_53 hB', rf_53 hB', ↓nn_38, ↓nn_40, ↓nn_41, ↓nn_42, ↓nn_43, ↓nn_44, ↓nn_45, ↓nn_50, ↓nn_52, ↓nn_53, ↓nn_54, ↓nn_55, ↓nn_56, ↓nn_58, ↓nn_64, ↓nn_67, ↓nn_68, ↓nn_84, p_bs, p_rq0, p_rq1, p_rz0, p_rz1, p_us, p_un, p_uj, ↓reduceIte, n4', d1', ht']
      have hB' := hB1'
      simp (disch := omega) only [↓ce_36 hB', rf_36 hB', ↓nn_38, ↓nn_40, ↓nn_45, ↓nn_50, ↓nn_52, ↓nn_53, ↓nn_54, ↓nn_56, ↓nn_58, ↓nn_64, ↓nn_67, ↓nn_68, ↓nn_84, p_bs, p_rq0, p_rq1, p_rz0, p_rz1, p_us, p_un, p_uj, ↓reduceIte, d2'', hc']
    · rw [if_pos hc']; exact e54'
  · generalize dv' (dx' (dx' x1')) (Int32.ofNat (t_ng H')) = a3' at *
    obtain ⟨K', k1', k2', k3', k4', k5'⟩ := s_carry (X' := p_L X' 36 19 (dx' (dx' x1'))) (I' := I1') (k' := 53) (L' := L') hB3' (t_HIk hH' (fun c' h1' h2' => f1' c' (by omega))) hW' (by omega) hGS1'.1 (t_LCk (t_LCX hL' 36 19 (dx' (dx' x1'))) (fun c' h1' h2' => f1' c' (by omega))) 4 (by omega) a3' 2
    rw [p_scL] at k2'
    have k1'' : F_X0_carryOut 66 53 4 a3' 2 (I1', p_L X' 36 19 (dx' (dx' x1'))) = _ := k1'
    refine ⟨K', ?_, fun c' z1' z2' z3' z4' z5' => ?_, ?_⟩
    · simp (disch := omega) only [↓ce_36 hB', rf_36 hB', ↓ce_39 hB', rf_39 hB', ↓ce_53 hB', rf_53 hB', ↓nn_38, ↓nn_40, ↓nn_41, ↓nn_42, ↓nn_43, ↓nn_44, ↓nn_45, ↓nn_50, ↓nn_52, ↓nn_53, ↓nn_54, ↓nn_55, ↓nn_56, ↓nn_58, ↓nn_64, ↓nn_67, ↓nn_68, ↓nn_84, p_bs, p_rq0, p_rq1, p_rz0, p_rz1, p_us, p_un, p_uj, ↓reduceIte, n4', d1', ht']
      have hB' := hB1'
      simp (disch := omega) only [↓ce_36 hB', rf_36 hB', ↓nn_38, ↓nn_40, ↓nn_45, ↓nn_50, ↓nn_52, ↓nn_53, ↓nn_54, ↓nn_56, ↓nn_58, ↓nn_64, ↓nn_67, ↓nn_68, ↓nn_84, p_bs, p_rq0, p_rq1, p_rz0, p_rz1, p_us, p_un, p_uj, ↓reduceIte, d2'', hc']
      have hB' := hB2'
      simp (disch := omega) only [↓ce_36 hB', rf_36 hB', ↓ce_39 hB', rf_39 hB', ↓nn_38, ↓nn_40, ↓nn_41, ↓nn_42, ↓nn_43, ↓nn_44, ↓nn_45, ↓nn_50, ↓nn_52, ↓nn_53, ↓nn_54, ↓nn_56, ↓nn_58, ↓nn_64, ↓nn_67, ↓nn_68, ↓nn_84, p_bs, p_rq0, p_rq1, p_rz0, p_rz1, p_us, p_un, p_uj, ↓reduceIte, n5', d3']
      have hB' := hB3'
      simp (disch := omega) only [↓ce_36 hB', rf_36 hB', ↓ce_66 hB', rf_66 hB', ↓nn_38, ↓nn_40, ↓nn_45, ↓nn_50, ↓nn_52, ↓nn_53, ↓nn_54, ↓nn_56, ↓nn_58, ↓nn_64, ↓nn_67, ↓nn_68, ↓nn_84, p_bs, p_rq0, p_rq1, p_rz0, p_rz1, p_us, p_un, p_uj, ↓reduceIte, k1'']
    · rw [k2' c' z1' z2' z3' z4' z5']; exact f1' c' z5'
    · rw [if_neg hc']
      simp only
      rw [← e54']
      unfold yq_y3
      cases hcan : t_can H' (I1' 54) 4 a3' 2
      · rw [if_neg (by decide), k4' hcan]
      · rw [if_pos rfl]; exact k3' hcan
theorem s_meet (hdC' : yq_HC dx' dv') (hdN' : yq_HN dv') (hB' : p_B X') (hH' : t_HI H' I') (hW' : t_HW H') (hL' : ∀ x', t_LC L' (x', X'.2) I') (hG' : t_GS H' (I' 54)) : ∃ J', F_X11_meetChance 36 (I', X') = some ((), (J', p_L X' 36 19 (yq_yr H' L' dx' dv' (I' 36 17) (I' 54) (X'.1 36 19)).2)) ∧ (∀ c', c' ≠ 63 → c' ≠ 64 → c' ≠ 65 → c' ≠ p_sc X' → c' ≠ 54 → J' c' = I' c') ∧ J' 54 = (yq_yr H' L' dx' dv' (I' 36 17) (I' 54) (X'.1 36 19)).1 := by
  have hsc' : p_sc X' = 65 ∨ 111 ≤ p_sc X' := p_scN (hL' X'.1)
  generalize hx' : X'.1 36 19 = x'
  have hB1' := p_BL hB' 36 19 (dx' x')
  have d1' := hdC' X' I' 10 hB' (by decide) (by decide)
  rw [hx'] at d1'
  have d1'' : F_X11_draw 36 10 (I', X') = some (dv' (dx' x') (Int32.ofNat 10), (I', p_L X' 36 19 (dx' x'))) := d1'
  have hrest : ∀ I1' : p_I, (∀ c', c' ≠ 63 → c' ≠ 64 → c' ≠ 65 → c' ≠ p_sc X' → c' ≠ 54 → I1' c' = I' c') → I1' 54 = yq_y1 H' L' dx' dv' (I' 36 17) (I' 54) x' → ∃ J', J_X11_meetChance_28 36 (I1', p_L X' 36 19 (dx' x')) = some ((), (J', p_L X' 36 19 (yq_yr H' L' dx' dv' (I' 36 17) (I' 54) x').2)) ∧ (∀ c', c' ≠ 63 → c' ≠ 64 → c' ≠ 65 → c' ≠ p_sc X' → c' ≠ 54 → J' c' = I' c') ∧ J' 54 = (yq_yr H' L' dx' dv' (I' 36 17) (I' 54) x').1 := by
    intro I1' f1' e54'
    obtain ⟨J', a1', a2', a3'⟩ := s_meet28 (X' := p_L X' 36 19 (dx' x')) (I' := I1') (L' := L') hdC' hdN' hB1' (t_HIk hH' (fun c' h1' h2' => f1' c' (by omega) (by omega) (by omega) (by omega) (by omega))) hW' (fun x'' => t_LCk (hL' x'') (fun c' h1' h2' => f1' c' (by omega) (by omega) (by omega) h2' (by omega))) (by rw [e54']; exact yq_y1G hW' hG' _ _)
    rw [p_Lv, e54'] at a1' a3'
    rw [p_LL] at a1'
    rw [p_scL] at a2'
    exact ⟨J', a1', fun c' z1' z2' z3' z4' z5' => by rw [a2' c' z1' z2' z3' z4' z5']; exact f1' c' z1' z2' z3' z4' z5', a3'⟩
  unfold F_X11_meetChance
  by_cases hc' : dv' (dx' x') (Int32.ofNat 10) < I' 36 17
  · obtain ⟨K', k1', k2', k3', k4', k5'⟩ := s_carry (X' := p_L X' 36 19 (dx' x')) (I' := I') (k' := 53) (L' := L') hB1' hH' hW' (by omega) hG'.1 (t_LCX hL' 36 19 (dx' x')) 2 (by omega) (-1) (-1)
    rw [p_scL] at k2'
    have k1'' : F_X0_carryOut 66 53 2 (-1) (-1) (I', p_L X' 36 19 (dx' x')) = _ := k1'
    obtain ⟨J', a1', a2'⟩ := hrest K' k2' (by
      unfold yq_y1
      cases hcan : t_can H' (I' 54) 2 (-1) (-1)
      · rw [if_neg (by simp), k4' hcan]
      · rw [if_pos ⟨hc', rfl⟩]; exact k3' hcan)
    refine ⟨J', ?_, a2'⟩
    simp (disch := omega) only [↓ce_36 hB', rf_36 hB', ↓nn_38, ↓nn_40, ↓nn_45, ↓nn_50, ↓nn_52, ↓nn_53, ↓nn_54, ↓nn_56, ↓nn_58, ↓nn_64, ↓nn_67, ↓nn_68, ↓nn_84, p_bs, p_rq0, p_rq1, p_rz0, p_rz1, p_us, p_un, p_uj, ↓reduceIte, d1'']
    have hB' := hB1'
    simp (disch := omega) only [↓ce_36 hB', rf_36 hB', ↓ce_53 hB', rf_53 hB', ↓ce_66 hB', rf_66 hB', ↓nn_38, ↓nn_40, ↓nn_45, ↓nn_50, ↓nn_52, ↓nn_53, ↓nn_54, ↓nn_55, ↓nn_56, ↓nn_58, ↓nn_64, ↓nn_67, ↓nn_68, ↓nn_84, p_bs, p_rq0, p_rq1, p_rz0, p_rz1, p_us, p_un, p_uj, ↓reduceIte, hc', k1'', a1']
  · obtain ⟨J', a1', a2'⟩ := hrest I' (fun _ _ _ _ _ _ => rfl) (by unfold yq_y1; rw [if_neg (fun h' => hc' h'.1)])
    refine ⟨J', ?_, a2'⟩
    simp (disch := omega) only [↓ce_36 hB', rf_36 hB', ↓nn_38, ↓nn_40, ↓nn_45, ↓nn_50, ↓nn_52, ↓nn_53, ↓nn_54, ↓nn_56, ↓nn_58, ↓nn_64, ↓nn_67, ↓nn_68, ↓nn_84, p_bs, p_rq0, p_rq1, p_rz0, p_rz1, p_us, p_un, p_uj, ↓reduceIte, d1'']
    have hB' := hB1'
    simp (disch := omega) only [↓ce_36 hB', rf_36 hB', ↓nn_38, ↓nn_40, ↓nn_45, ↓nn_50, ↓nn_52, ↓nn_53, ↓nn_54, ↓nn_56, ↓nn_58, ↓nn_64, ↓nn_67, ↓nn_68, ↓nn_84, p_bs, p_rq0, p_rq1, p_rz0, p_rz1, p_us, p_un, p_uj, ↓reduceIte, hc', a1']
end PD'
