/-! best: the class -/
section PB'
variable {X' : p_X} {I' : p_I} {H' : t_H} {L' : t_L} {s' : Nat → Int32}
theorem p_70 (hB' : p_B X') {k' : Nat} (hk' : k' < 5) : X'.2.1 70 k' = 73 + 2 * k' + 1 := by
  obtain ⟨h0', h1', h2', h3', h4'⟩ := rf_70 hB'
  have ho' : k' = 0 ∨ k' = 1 ∨ k' = 2 ∨ k' = 3 ∨ k' = 4 := by omega
  rcases ho' with rfl | rfl | rfl | rfl | rfl
  · exact h0'
  · exact h1'
  · exact h2'
  · exact h3'
  · exact h4'
theorem s_tr3 (rec' : Nat → Nat → Int32 → Int32 → Int32 → q_Mem → Option (Unit × q_Mem)) (hB' : p_B X') (hH' : t_HI H' I') (hW' : t_HW H') (hL' : t_LC L' X' I') {q' : Nat} (hq' : t_SK q') (hq'' : 67 < q') (hS' : t_WF H' (I' (q' + 1))) {D' : Nat} (hD' : I' (q' + 1) 0 = Int32.ofNat D') (hD'' : D' + 3 ≤ 2000) (l1' l2' l3' l5' l6' : Int32) : ∃ J', q_lp (fun z' => B_X2_tryRows_102 rec' 67 l1' l2' l3' q' l5' l6' z'.1 z'.2) q_fu ((0 : Int32), (I', X')) = some (J', X') ∧ (∀ c', c' ≠ 63 → c' ≠ 64 → c' ≠ 65 → c' ≠ p_sc X' → c' ≠ q' + 1 → J' c' = I' c') ∧ J' (q' + 1) = t_yi H' L' (I' (q' + 1)) 3 := by
  have hsc' := p_scN hL'
  obtain ⟨z', h1', J', rfl, j1', j2'⟩ := p_lp (fun z' => B_X2_tryRows_102 rec' 67 l1' l2' l3' q' l5' l6' z'.1 z'.2) (fun i' z' => ∃ J', z' = (Int32.ofNat i', (J', X')) ∧ (∀ c', c' ≠ 63 → c' ≠ 64 → c' ≠ 65 → c' ≠ p_sc X' → c' ≠ q' + 1 → J' c' = I' c') ∧ J' (q' + 1) = t_yi H' L' (I' (q' + 1)) i')
    (fun z' => ∃ J', z' = (J', X') ∧ (∀ c', c' ≠ 63 → c' ≠ 64 → c' ≠ 65 → c' ≠ p_sc X' → c' ≠ q' + 1 → J' c' = I' c') ∧ J' (q' + 1) = t_yi H' L' (I' (q' + 1)) 3) 3 (by
      rintro i' z' hi' ⟨J', rfl, j1', j2'⟩
      have hl8' : (Int32.ofNat i' < 3) = (i' < 3) := p_lt i' 3 (by omega) (by decide)
      unfold B_X2_tryRows_102
      by_cases hlt' : i' < 3
      · left
        have hw' := t_yiW (L' := L') hW' hS' hD' i' (by omega)
        obtain ⟨K', k1', k2', k3', k4'⟩ := s_pass (I' := J') (k' := q') (L' := L') hB' (t_HIk hH' (fun c' h1' h2' => j1' c' (by omega) (by omega) (by omega) (by omega) (by omega))) hW' hq' (by rw [j2']; exact hw'.1) (t_LCk hL' (fun c' h1' h2' => j1' c' (by omega) (by omega) (by omega) h2' (by omega)))
        simp (disch := omega) only [↓ce_67 hB', rf_67 hB', ↓ce_63 hB', rf_63 hB', ↓nn_40, ↓nn_64, ↓nn_65, ↓nn_66, ↓nn_67, ↓nn_69, ↓nn_71, ↓nn_72, ↓nn_73, p_bs, p_rq0, p_rq1, p_rz0, p_rz1, p_us, p_un, p_uj, ↓reduceIte, hl8', hlt', k1', p_ar]
        refine ⟨_, rfl, True.intro, K', rfl, fun c' h1' h2' h3' h4' h5' => by rw [k2' c' h1' h2' h3' h4' h5']; exact j1' c' h1' h2' h3' h4' h5', ?_⟩
        rw [k4', j2']
        rfl
      · right
        have hi'' : i' = 3 := by omega
        subst hi''
        simp (disch := omega) only [p_bs, p_rq0, p_rq1, p_rz0, p_rz1, p_us, p_un, p_uj, ↓reduceIte, hl8', Nat.lt_irrefl]
        exact ⟨_, rfl, J', rfl, j1', j2'⟩) 3 0 q_fu (0, (I', X')) (by omega) (by unfold q_fu; omega) ⟨I', rfl, fun _ _ _ _ _ _ => rfl, rfl⟩
  exact ⟨J', h1', j1', j2'⟩
theorem s_weigh (hB' : p_B X') (r' j' : Int32) : ∃ J', F_X2_weighRow 67 r' j' (I', X') = some ((), (J', X')) ∧ (∀ c', c' ≠ 67 → J' c' = I' c') ∧ (∀ i', i' ≠ 8 → i' ≠ 9 → J' 67 i' = I' 67 i') ∧ (J' 67 8, J' 67 9) = if I' 67 9 < j' then (r', j') else (I' 67 8, I' 67 9) := by
  unfold F_X2_weighRow
  by_cases h' : I' 67 9 < j'
  · simp (disch := omega) only [↓ce_67 hB', rf_67 hB', ↓nn_40, ↓nn_64, ↓nn_67, ↓nn_69, ↓nn_71, ↓nn_72, ↓nn_73, p_bs, p_rq0, p_rq1, p_rz0, p_rz1, p_us, p_un, p_uj, ↓reduceIte, h']
    refine ⟨_, rfl, fun c' hc' => by rw [p_uc _ _ _ _ _ hc', p_uc _ _ _ _ _ hc'], fun i' h1' h2' => by rw [p_uj _ _ _ _ _ h1', p_uj _ _ _ _ _ h2'], ?_⟩
    rw [p_us, p_uj _ _ _ _ _ (by decide), p_us]
  · simp (disch := omega) only [↓ce_67 hB', rf_67 hB', ↓nn_40, ↓nn_64, ↓nn_67, ↓nn_69, ↓nn_71, ↓nn_72, ↓nn_73, p_bs, p_rq0, p_rq1, p_rz0, p_rz1, p_us, p_un, p_uj, ↓reduceIte, h']
    exact ⟨I', rfl, fun _ _ => rfl, fun _ _ _ => rfl, rfl⟩
theorem yq_p10 (k' : Nat) (hk' : k' ≤ 3) : 10 ^ k' ≤ 1000 := by
  have ho' : k' = 0 ∨ k' = 1 ∨ k' = 2 ∨ k' = 3 := by omega
  rcases ho' with rfl | rfl | rfl | rfl <;> decide
/-- what the class does at a level -/
def yq_TR (X' : p_X) (H' : t_H) (L' : t_L) (s' : Nat → Int32) (n' k' p' m' : Nat) (I' J' : p_I) : Prop := (∀ c', c' ≠ 63 → c' ≠ 64 → c' ≠ 65 → c' ≠ p_sc X' → c' ≠ 67 → (c' ≤ 74 + 2 * k' ∨ 83 ≤ c' ∨ c' % 2 = 1) → J' c' = I' c') ∧ (∀ i', i' ≠ 8 → i' ≠ 9 → J' 67 i' = I' 67 i') ∧ (J' 67 8, J' 67 9) = yq_bf (yq_V H' L' s' n') (I' 67 8, I' 67 9) (p' * 10 ^ m') (10 ^ m')
theorem s_tryRows (hB' : p_B X') (hW' : t_HW H') (hS' : t_WF H' s') {D' : Nat} (hD' : s' 0 = Int32.ofNat D') (hD'' : D' ≤ 999) {n' : Nat} (hn' : n' ≤ 3) : ∀ (m' k' p' fu' : Nat) (I' : p_I), k' + (m' + 1) = n' → p' < 10 ^ k' → m' < fu' → t_HI H' I' → t_LC L' X' I' → (∀ j', j' < 31 → I' (74 + 2 * k') j' = yq_sp H' L' s' k' p' j') → yq_ok (t_nd H') k' p' = true → ∃ J', R_X2_tryRows fu' 0 67 (Int32.ofNat k') (Int32.ofNat n') (Int32.ofNat p') (I', X') = some ((), (J', X')) ∧ yq_TR X' H' L' s' n' k' p' (m' + 1) I' J' := by
  intro m'
  have hnd' := hW'.2.1
  have hng' := hW'.2.2.2.1
  induction m' with
  | zero =>
    intro k' p' fu' I' hkn' hp' hfu' hH' hL' hrow hok'
    obtain ⟨fu', rfl⟩ : ∃ f', fu' = f' + 1 := ⟨fu' - 1, by omega⟩
    have hsc' := p_scN hL'
    have hp1000 := yq_p10 k' (by omega)
    have hk5' : (Int32.ofNat k' + 1 < 5) = True := by
      rw [p_ar.2.2.2.1, show (5 : Int32) = Int32.ofNat 5 from rfl, p_lt (k' + 1) 5 (by omega) (by omega)]
      apply eq_true; omega
    have hkn'' : (Int32.ofNat k' + 1 < Int32.ofNat n') = False := by
      rw [p_ar.2.2.2.1, p_lt (k' + 1) n' (by omega) (by omega)]
      apply eq_false; omega
    have hr1' : X'.2.1 70 (k' + 1) = 75 + 2 * k' + 1 := by rw [p_70 hB' (by omega)]; omega
    have hr0' : X'.2.1 70 k' = 73 + 2 * k' + 1 := p_70 hB' (by omega)
    have hq' : t_SK (75 + 2 * k') := by omega
    have hq0' : t_SK (73 + 2 * k') := by omega
    obtain ⟨z', h1', J', rfl, j1', j2', j3'⟩ := p_lp (fun z' => B_X2_tryRows_35 (R_X2_tryRows fu') 67 (Int32.ofNat k') (Int32.ofNat n') (Int32.ofNat p') (75 + 2 * k') 1 z'.1 z'.2) (fun d' z' => ∃ J', z' = (Int32.ofNat d', (J', X')) ∧ (∀ c', c' ≠ 63 → c' ≠ 64 → c' ≠ 65 → c' ≠ p_sc X' → c' ≠ 67 → c' ≠ 76 + 2 * k' → J' c' = I' c') ∧ (∀ i', i' ≠ 8 → i' ≠ 9 → J' 67 i' = I' 67 i') ∧ (J' 67 8, J' 67 9) = yq_bf (yq_V H' L' s' n') (I' 67 8, I' 67 9) (p' * 10) d')
      (fun z' => ∃ J', z' = (J', X') ∧ (∀ c', c' ≠ 63 → c' ≠ 64 → c' ≠ 65 → c' ≠ p_sc X' → c' ≠ 67 → c' ≠ 76 + 2 * k' → J' c' = I' c') ∧ (∀ i', i' ≠ 8 → i' ≠ 9 → J' 67 i' = I' 67 i') ∧ (J' 67 8, J' 67 9) = yq_bf (yq_V H' L' s' n') (I' 67 8, I' 67 9) (p' * 10) (t_nd H')) (t_nd H') (by
        rintro d' z' hd' ⟨J', rfl, j1', j2', j3'⟩
        have n4' : J' 39 4 = Int32.ofNat (t_nd H') := by rw [j1' 39 (by omega) (by omega) (by omega) (by omega) (by omega) (by omega)]; exact hH'.2.2.2.2.1
        have hl8' : (Int32.ofNat d' < Int32.ofNat (t_nd H')) = (d' < t_nd H') := p_lt d' _ (by omega) (by omega)
        unfold B_X2_tryRows_35 J_X2_tryRows_139_35
        by_cases hlt' : d' < t_nd H'
        · left
          obtain ⟨K', k1', k2', k3'⟩ := s_copyFrom (I' := J') (k1' := 75 + 2 * k') (k2' := 73 + 2 * k') hB' hq' hq0'
          have k2'' : ∀ c', c' ≠ 76 + 2 * k' → K' c' = J' c' := fun c' hc' => k2' c' (by omega)
          have k3'' : ∀ j', j' < 31 → K' (76 + 2 * k') j' = yq_sp H' L' s' k' p' j' := fun j' hj' => by
            rw [show 76 + 2 * k' = 75 + 2 * k' + 1 by omega, k3' j' hj', show 73 + 2 * k' + 1 = 74 + 2 * k' by omega, j1' (74 + 2 * k') (by omega) (by omega) (by omega) (by omega) (by omega) (by omega)]
            exact hrow j' hj'
          have hK1' : ∀ j', j' < 31 → q_u2 K' (75 + 2 * k' + 1) 3 (Int32.ofNat d') (75 + 2 * k' + 1) j' = va_up (yq_sp H' L' s' k' p') 3 (Int32.ofNat d') j' := fun j' hj' => by
            rw [p_ur]
            exact t_vaC (by rw [show 75 + 2 * k' + 1 = 76 + 2 * k' by omega]; exact k3'' j' hj') rfl
          have hsp' := yq_spW (L' := L') hW' hS' hD' k' p' (by omega) hok'
          have f1' : ∀ c', c' ≠ 63 → c' ≠ 64 → c' ≠ 65 → c' ≠ p_sc X' → c' ≠ 67 → c' ≠ 76 + 2 * k' → q_u2 K' (75 + 2 * k' + 1) 3 (Int32.ofNat d') c' = I' c' := fun c' z1' z2' z3' z4' z5' z6' => by
            rw [p_uc _ _ _ _ _ (by omega), k2'' c' z6']; exact j1' c' z1' z2' z3' z4' z5' z6'
          have f67' : q_u2 K' (75 + 2 * k' + 1) 3 (Int32.ofNat d') 67 = J' 67 := by rw [p_uc _ _ _ _ _ (by omega), k2'' 67 (by omega)]
          generalize hK'' : q_u2 K' (75 + 2 * k' + 1) 3 (Int32.ofNat d') = K1' at hK1' f1' f67'
          have hupW := yq_upW hsp'.1 hlt'
          obtain ⟨K2', a1', a2', a3', a4'⟩ := s_pass (I' := K1') (k' := 75 + 2 * k') (L' := L') hB' (t_HIk hH' (fun c' h1' h2' => f1' c' (by omega) (by omega) (by omega) (by omega) (by omega) (by omega))) hW' hq' (t_WFa hupW hK1') (t_LCk hL' (fun c' h1' h2' => f1' c' (by omega) (by omega) (by omega) h2' (by omega) (by omega)))
          have e10' : (p' * 10 + d') / 10 = p' ∧ (p' * 10 + d') % 10 = d' := by omega
          have hsp1' : yq_sp H' L' s' (k' + 1) (p' * 10 + d') = t_ps H' L' (va_up (yq_sp H' L' s' k' p') 3 (Int32.ofNat d')) := by
            show yq_bd H' L' (yq_sp H' L' s' k' ((p' * 10 + d') / 10)) ((p' * 10 + d') % 10) = _
            rw [e10'.1, e10'.2]; rfl
          have hrow2 : ∀ j', j' < 31 → K2' (75 + 2 * k' + 1) j' = yq_sp H' L' s' (k' + 1) (p' * 10 + d') j' := fun j' hj' => by
            rw [a4', hsp1']
            exact t_psC hng' hK1' j' hj'
          have hok1' : yq_ok (t_nd H') (k' + 1) (p' * 10 + d') = true := by
            rw [yq_ok, e10'.1, e10'.2, hok']
            simp [hlt']
          have hsp2' := yq_spW (L' := L') hW' hS' hD' (k' + 1) (p' * 10 + d') (by omega) hok1'
          have f2' : ∀ c', c' ≠ 63 → c' ≠ 64 → c' ≠ 65 → c' ≠ p_sc X' → c' ≠ 67 → c' ≠ 76 + 2 * k' → K2' c' = I' c' := fun c' z1' z2' z3' z4' z5' z6' => by rw [a2' c' z1' z2' z3' z4' (by omega)]; exact f1' c' z1' z2' z3' z4' z5' z6'
          have f267 : K2' 67 = J' 67 := by rw [a2' 67 (by omega) (by omega) (by omega) (by omega) (by omega)]; exact f67'
          obtain ⟨K3', b1', b2', b3'⟩ := s_tr3 (R_X2_tryRows fu') (I' := K2') (L' := L') hB' (t_HIk hH' (fun c' h1' h2' => f2' c' (by omega) (by omega) (by omega) (by omega) (by omega) (by omega))) hW' (t_LCk hL' (fun c' h1' h2' => f2' c' (by omega) (by omega) (by omega) h2' (by omega) (by omega))) hq' (by omega) (t_WFa hsp2'.1 hrow2) (D' := D' + (k' + 1)) (by rw [hrow2 0 (by omega)]; exact hsp2'.2) (by omega) (Int32.ofNat k') (Int32.ofNat n') (Int32.ofNat p') 1 (Int32.ofNat d')
          have hjoy : F_X8_joyOfAll (75 + 2 * k') (K3', X') = some (t_sm (t_yi H' L' (yq_sp H' L' s' (k' + 1) (p' * 10 + d')) 3) 6) := by
            rw [s_joyOfAll hB' hq', b3', t_smC (t_yiC hng' hrow2 3)]
          obtain ⟨K4', c1', c2', c3', c4'⟩ := s_weigh (I' := K3') hB' (Int32.ofNat (p' * 10 + d')) (t_sm (t_yi H' L' (yq_sp H' L' s' (k' + 1) (p' * 10 + d')) 3) 6)
          have f367 : K3' 67 = J' 67 := by rw [b2' 67 (by omega) (by omega) (by omega) (by omega) (by omega)]; exact f267
          have hV' : yq_V H' L' s' n' (p' * 10 + d') = some (t_sm (t_yi H' L' (yq_sp H' L' s' (k' + 1) (p' * 10 + d')) 3) 6) := by
            unfold yq_V
            rw [show n' = k' + 1 by omega, if_pos hok1']
          rw [f367] at c4'
          refine ⟨(Int32.ofNat (d' + 1), (K4', X')), ?_, hlt', K4', rfl, fun c' z1' z2' z3' z4' z5' z6' => by rw [c2' c' z5', b2' c' z1' z2' z3' z4' (by omega)]; exact f2' c' z1' z2' z3' z4' z5' z6', fun i' h1' h2' => by rw [c3' i' h1' h2', f367]; exact j2' i' h1' h2', ?_⟩
          · have hmul : Int32.ofNat p' * 10 + Int32.ofNat d' = Int32.ofNat (p' * 10 + d') := by
              rw [show (10 : Int32) = Int32.ofNat 10 from rfl, ← Int32.ofNat_mul, ← Int32.ofNat_add]
            simp (disch := omega) only [↓ce_67 hB', rf_67 hB', ↓ce_39 hB', rf_39 hB', ↓ce_70 hB', rf_70 hB', ↓nn_40, ↓nn_41, ↓nn_42, ↓nn_43, ↓nn_44, ↓nn_64, ↓nn_67, ↓nn_69, ↓nn_71, ↓nn_72, ↓nn_73, ↓nn_74, ↓nn_76, ↓nn_78, ↓nn_80, ↓nn_82, p_bs, p_rq0, p_rq1, p_rz0, p_rz1, p_us, p_un, p_uj, ↓reduceIte, n4', hl8', hlt', hr0', p_nns, p_st hq' hB', k1']
            simp only [hK'']
            simp (disch := omega) only [↓ce_67 hB', rf_67 hB', ↓ce_63 hB', rf_63 hB', ↓nn_40, ↓nn_64, ↓nn_65, ↓nn_66, ↓nn_67, ↓nn_69, ↓nn_71, ↓nn_72, ↓nn_73, p_bs, p_rq0, p_rq1, p_rz0, p_rz1, p_us, p_un, p_uj, ↓reduceIte, a1', show ((1 : Int32) = 0) = False from by decide, b1', p_st hq' hB', hjoy, hmul, c1', p_ar]
          · rw [c4', yq_bf, ← j3', yq_bu, hV']
        · right
          have hd'' : d' = t_nd H' := by omega
          subst hd''
          simp (disch := omega) only [↓ce_67 hB', rf_67 hB', ↓ce_39 hB', rf_39 hB', ↓nn_40, ↓nn_41, ↓nn_42, ↓nn_43, ↓nn_44, ↓nn_64, ↓nn_67, ↓nn_69, ↓nn_71, ↓nn_72, ↓nn_73, p_bs, p_rq0, p_rq1, p_rz0, p_rz1, p_us, p_un, p_uj, ↓reduceIte, n4', hl8', Nat.lt_irrefl]
          exact ⟨_, rfl, J', rfl, j1', j2', j3'⟩) (t_nd H') 0 q_fu (0, (I', X')) (by omega) (by unfold q_fu; omega) ⟨I', rfl, fun _ _ _ _ _ _ _ => rfl, fun _ _ _ => rfl, rfl⟩
    refine ⟨J', ?_, fun c' z1' z2' z3' z4' z5' z6' => j1' c' z1' z2' z3' z4' z5' (by omega), j2', ?_⟩
    · show F_X2_tryRows (R_X2_tryRows fu') 67 (Int32.ofNat k') (Int32.ofNat n') (Int32.ofNat p') (I', X') = _
      unfold F_X2_tryRows J_X2_tryRows_30
      simp (disch := omega) only [↓ce_67 hB', rf_67 hB', ↓nn_40, ↓nn_64, ↓nn_67, ↓nn_69, ↓nn_71, ↓nn_72, ↓nn_73, p_bs, p_rq0, p_rq1, p_rz0, p_rz1, p_us, p_un, p_uj, ↓reduceIte, hk5', hkn'']
      rw [p_ar.2.2.2.1]
      simp (disch := omega) only [↓ce_70 hB', rf_70 hB', ↓nn_74, ↓nn_76, ↓nn_78, ↓nn_80, ↓nn_82, p_bs, p_rq0, p_rq1, p_rz0, p_rz1, p_us, p_un, p_uj, ↓reduceIte, hr1', p_nns, h1']
    · rw [j3']
      show _ = yq_bf (yq_V H' L' s' n') (I' 67 8, I' 67 9) (p' * 10) 10
      have h10' : t_nd H' + (10 - t_nd H') = 10 := by omega
      have e' := yq_bfA (yq_V H' L' s' n') (I' 67 8, I' 67 9) (p' * 10) (t_nd H') (10 - t_nd H')
      rw [h10'] at e'
      rw [← e']
      refine (yq_bfN _ _ _ _ (fun r' hr1' hr2' => ?_)).symm
      unfold yq_V
      rw [if_neg]
      intro hr'
      rw [show n' = k' + 1 by omega, yq_ok, Bool.and_eq_true, decide_eq_true_eq] at hr'
      omega
  | succ m' ih' =>
    intro k' p' fu' I' hkn' hp' hfu' hH' hL' hrow hok'
    obtain ⟨fu', rfl⟩ : ∃ f', fu' = f' + 1 := ⟨fu' - 1, by omega⟩
    have hsc' := p_scN hL'
    have hp1000 := yq_p10 k' (by omega)
    have hk5' : (Int32.ofNat k' + 1 < 5) = True := by
      rw [p_ar.2.2.2.1, show (5 : Int32) = Int32.ofNat 5 from rfl, p_lt (k' + 1) 5 (by omega) (by omega)]
      apply eq_true; omega
    have hkn'' : (Int32.ofNat k' + 1 < Int32.ofNat n') = True := by
      rw [p_ar.2.2.2.1, p_lt (k' + 1) n' (by omega) (by omega)]
      apply eq_true; omega
    have hr1' : X'.2.1 70 (k' + 1) = 75 + 2 * k' + 1 := by rw [p_70 hB' (by omega)]; omega
    have hr0' : X'.2.1 70 k' = 73 + 2 * k' + 1 := p_70 hB' (by omega)
    have hq' : t_SK (75 + 2 * k') := by omega
    have hq0' : t_SK (73 + 2 * k') := by omega
    obtain ⟨W', hWW'⟩ : ∃ W', W' = 10 ^ (m' + 1) := ⟨_, rfl⟩
    have hW10' : 10 ^ (m' + 1 + 1) = 10 * W' := by rw [hWW', Nat.pow_succ 10 (m' + 1), Nat.mul_comm]
    have hW0' : 0 < W' := by rw [hWW']; exact Nat.pow_pos (by decide)
    have hpW' : ∀ d', (p' * 10 + d') * W' = p' * (10 * W') + d' * W' := fun d' => by rw [Nat.add_mul, Nat.mul_assoc]
    obtain ⟨z', h1', J', rfl, j1', j2', j3'⟩ := p_lp (fun z' => B_X2_tryRows_35 (R_X2_tryRows fu') 67 (Int32.ofNat k') (Int32.ofNat n') (Int32.ofNat p') (75 + 2 * k') 0 z'.1 z'.2) (fun d' z' => ∃ J', z' = (Int32.ofNat d', (J', X')) ∧ (∀ c', c' ≠ 63 → c' ≠ 64 → c' ≠ 65 → c' ≠ p_sc X' → c' ≠ 67 → (c' ≤ 74 + 2 * k' ∨ 83 ≤ c' ∨ c' % 2 = 1) → J' c' = I' c') ∧ (∀ i', i' ≠ 8 → i' ≠ 9 → J' 67 i' = I' 67 i') ∧ (J' 67 8, J' 67 9) = yq_bf (yq_V H' L' s' n') (I' 67 8, I' 67 9) (p' * (10 * W')) (d' * W'))
      (fun z' => ∃ J', z' = (J', X') ∧ (∀ c', c' ≠ 63 → c' ≠ 64 → c' ≠ 65 → c' ≠ p_sc X' → c' ≠ 67 → (c' ≤ 74 + 2 * k' ∨ 83 ≤ c' ∨ c' % 2 = 1) → J' c' = I' c') ∧ (∀ i', i' ≠ 8 → i' ≠ 9 → J' 67 i' = I' 67 i') ∧ (J' 67 8, J' 67 9) = yq_bf (yq_V H' L' s' n') (I' 67 8, I' 67 9) (p' * (10 * W')) (t_nd H' * W')) (t_nd H') (by
        rintro d' z' hd' ⟨J', rfl, j1', j2', j3'⟩
        have n4' : J' 39 4 = Int32.ofNat (t_nd H') := by rw [j1' 39 (by omega) (by omega) (by omega) (by omega) (by omega) (by omega)]; exact hH'.2.2.2.2.1
        have hl8' : (Int32.ofNat d' < Int32.ofNat (t_nd H')) = (d' < t_nd H') := p_lt d' _ (by omega) (by omega)
        unfold B_X2_tryRows_35 J_X2_tryRows_139_35
        by_cases hlt' : d' < t_nd H'
        · left
          obtain ⟨K', k1', k2', k3'⟩ := s_copyFrom (I' := J') (k1' := 75 + 2 * k') (k2' := 73 + 2 * k') hB' hq' hq0'
          have k2'' : ∀ c', c' ≠ 76 + 2 * k' → K' c' = J' c' := fun c' hc' => k2' c' (by omega)
          have k3'' : ∀ j', j' < 31 → K' (76 + 2 * k') j' = yq_sp H' L' s' k' p' j' := fun j' hj' => by
            rw [show 76 + 2 * k' = 75 + 2 * k' + 1 by omega, k3' j' hj', show 73 + 2 * k' + 1 = 74 + 2 * k' by omega, j1' (74 + 2 * k') (by omega) (by omega) (by omega) (by omega) (by omega) (by omega)]
            exact hrow j' hj'
          have hK1' : ∀ j', j' < 31 → q_u2 K' (75 + 2 * k' + 1) 3 (Int32.ofNat d') (75 + 2 * k' + 1) j' = va_up (yq_sp H' L' s' k' p') 3 (Int32.ofNat d') j' := fun j' hj' => by
            rw [p_ur]
            exact t_vaC (by rw [show 75 + 2 * k' + 1 = 76 + 2 * k' by omega]; exact k3'' j' hj') rfl
          have hsp' := yq_spW (L' := L') hW' hS' hD' k' p' (by omega) hok'
          have f1' : ∀ c', c' ≠ 63 → c' ≠ 64 → c' ≠ 65 → c' ≠ p_sc X' → c' ≠ 67 → (c' ≤ 74 + 2 * k' ∨ 83 ≤ c' ∨ c' % 2 = 1) → q_u2 K' (75 + 2 * k' + 1) 3 (Int32.ofNat d') c' = I' c' := fun c' z1' z2' z3' z4' z5' z6' => by
            rw [p_uc _ _ _ _ _ (by omega), k2'' c' (by omega)]; exact j1' c' z1' z2' z3' z4' z5' z6'
          have f67' : q_u2 K' (75 + 2 * k' + 1) 3 (Int32.ofNat d') 67 = J' 67 := by rw [p_uc _ _ _ _ _ (by omega), k2'' 67 (by omega)]
          generalize hK'' : q_u2 K' (75 + 2 * k' + 1) 3 (Int32.ofNat d') = K1' at hK1' f1' f67'
          have hupW := yq_upW hsp'.1 hlt'
          obtain ⟨K2', a1', a2', a3', a4'⟩ := s_pass (I' := K1') (k' := 75 + 2 * k') (L' := L') hB' (t_HIk hH' (fun c' h1' h2' => f1' c' (by omega) (by omega) (by omega) (by omega) (by omega) (by omega))) hW' hq' (t_WFa hupW hK1') (t_LCk hL' (fun c' h1' h2' => f1' c' (by omega) (by omega) (by omega) h2' (by omega) (by omega)))
          have e10' : (p' * 10 + d') / 10 = p' ∧ (p' * 10 + d') % 10 = d' := by omega
          have hsp1' : yq_sp H' L' s' (k' + 1) (p' * 10 + d') = t_ps H' L' (va_up (yq_sp H' L' s' k' p') 3 (Int32.ofNat d')) := by
            show yq_bd H' L' (yq_sp H' L' s' k' ((p' * 10 + d') / 10)) ((p' * 10 + d') % 10) = _
            rw [e10'.1, e10'.2]; rfl
          have hrow2 : ∀ j', j' < 31 → K2' (74 + 2 * (k' + 1)) j' = yq_sp H' L' s' (k' + 1) (p' * 10 + d') j' := fun j' hj' => by
            rw [show 74 + 2 * (k' + 1) = 75 + 2 * k' + 1 by omega, a4', hsp1']
            exact t_psC hng' hK1' j' hj'
          have hok1' : yq_ok (t_nd H') (k' + 1) (p' * 10 + d') = true := by
            rw [yq_ok, e10'.1, e10'.2, hok']
            simp [hlt']
          have f2' : ∀ c', c' ≠ 63 → c' ≠ 64 → c' ≠ 65 → c' ≠ p_sc X' → c' ≠ 67 → (c' ≤ 74 + 2 * k' ∨ 83 ≤ c' ∨ c' % 2 = 1) → K2' c' = I' c' := fun c' z1' z2' z3' z4' z5' z6' => by rw [a2' c' z1' z2' z3' z4' (by omega)]; exact f1' c' z1' z2' z3' z4' z5' z6'
          have f267 : K2' 67 = J' 67 := by rw [a2' 67 (by omega) (by omega) (by omega) (by omega) (by omega)]; exact f67'
          obtain ⟨K4', c1', c2', c3', c4'⟩ := ih' (k' + 1) (p' * 10 + d') fu' K2' (by omega) (by rw [Nat.pow_succ]; omega) (by omega) (t_HIk hH' (fun c' h1' h2' => f2' c' (by omega) (by omega) (by omega) (by omega) (by omega) (by omega))) (t_LCk hL' (fun c' h1' h2' => f2' c' (by omega) (by omega) (by omega) h2' (by omega) (by omega))) hrow2 hok1'
          rw [f267] at c3' c4'
          refine ⟨(Int32.ofNat (d' + 1), (K4', X')), ?_, hlt', K4', rfl, fun c' z1' z2' z3' z4' z5' z6' => by rw [c2' c' z1' z2' z3' z4' z5' (by omega)]; exact f2' c' z1' z2' z3' z4' z5' z6', fun i' h1' h2' => by rw [c3' i' h1' h2']; exact j2' i' h1' h2', ?_⟩
          · have hmul : Int32.ofNat p' * 10 + Int32.ofNat d' = Int32.ofNat (p' * 10 + d') := by
              rw [show (10 : Int32) = Int32.ofNat 10 from rfl, ← Int32.ofNat_mul, ← Int32.ofNat_add]
            have hk1' : Int32.ofNat k' + 1 = Int32.ofNat (k' + 1) := (Int32.ofNat_add k' 1).symm
            simp (disch := omega) only [↓ce_67 hB', rf_67 hB', ↓ce_39 hB', rf_39 hB', ↓ce_70 hB', rf_70 hB', ↓nn_40, ↓nn_41, ↓nn_42, ↓nn_43, ↓nn_44, ↓nn_64, ↓nn_67, ↓nn_69, ↓nn_71, ↓nn_72, ↓nn_73, ↓nn_74, ↓nn_76, ↓nn_78, ↓nn_80, ↓nn_82, p_bs, p_rq0, p_rq1, p_rz0, p_rz1, p_us, p_un, p_uj, ↓reduceIte, n4', hl8', hlt', hr0', p_nns, p_st hq' hB', k1']
            simp only [hK'']
            simp (disch := omega) only [↓ce_67 hB', rf_67 hB', ↓ce_63 hB', rf_63 hB', ↓nn_40, ↓nn_64, ↓nn_65, ↓nn_66, ↓nn_67, ↓nn_69, ↓nn_71, ↓nn_72, ↓nn_73, p_bs, p_rq0, p_rq1, p_rz0, p_rz1, p_us, p_un, p_uj, ↓reduceIte, a1', hk1', hmul, c1', p_ar]
          · rw [c4', ← hWW', hpW', j3', yq_bfA, show (d' + 1) * W' = d' * W' + W' from Nat.succ_mul d' W']
        · right
          have hd'' : d' = t_nd H' := by omega
          subst hd''
          simp (disch := omega) only [↓ce_67 hB', rf_67 hB', ↓ce_39 hB', rf_39 hB', ↓nn_40, ↓nn_41, ↓nn_42, ↓nn_43, ↓nn_44, ↓nn_64, ↓nn_67, ↓nn_69, ↓nn_71, ↓nn_72, ↓nn_73, p_bs, p_rq0, p_rq1, p_rz0, p_rz1, p_us, p_un, p_uj, ↓reduceIte, n4', hl8', Nat.lt_irrefl]
          exact ⟨_, rfl, J', rfl, j1', j2', j3'⟩) (t_nd H') 0 q_fu (0, (I', X')) (by omega) (by unfold q_fu; omega) ⟨I', rfl, fun _ _ _ _ _ _ _ => rfl, fun _ _ _ => rfl, by rw [Nat.zero_mul]; rfl⟩
    refine ⟨J', ?_, fun c' z1' z2' z3' z4' z5' z6' => j1' c' z1' z2' z3' z4' z5' z6', j2', ?_⟩
    · show F_X2_tryRows (R_X2_tryRows fu') 67 (Int32.ofNat k') (Int32.ofNat n') (Int32.ofNat p') (I', X') = _
      unfold F_X2_tryRows J_X2_tryRows_30
      simp (disch := omega) only [↓ce_67 hB', rf_67 hB', ↓nn_40, ↓nn_64, ↓nn_67, ↓nn_69, ↓nn_71, ↓nn_72, ↓nn_73, p_bs, p_rq0, p_rq1, p_rz0, p_rz1, p_us, p_un, p_uj, ↓reduceIte, hk5', hkn'']
      rw [p_ar.2.2.2.1]
      simp (disch := omega) only [↓ce_70 hB', rf_70 hB', ↓nn_74, ↓nn_76, ↓nn_78, ↓nn_80, ↓nn_82, p_bs, p_rq0, p_rq1, p_rz0, p_rz1, p_us, p_un, p_uj, ↓reduceIte, hr1', p_nns, h1']
    · rw [j3', hW10']
      have h10' : t_nd H' * W' + (10 - t_nd H') * W' = 10 * W' := by rw [← Nat.add_mul]; congr 1; omega
      have e' := yq_bfA (yq_V H' L' s' n') (I' 67 8, I' 67 9) (p' * (10 * W')) (t_nd H' * W') ((10 - t_nd H') * W')
      rw [h10'] at e'
      rw [← e']
      refine (yq_bfN _ _ _ _ (fun r' hr1' hr2' => ?_)).symm
      unfold yq_V
      rw [if_neg]
      intro hr'
      rw [Nat.add_assoc, h10'] at hr2'
      rw [show n' = (k' + 1) + (m' + 1) by omega] at hr'
      have hr3' := yq_okD _ _ _ _ hr'
      rw [← hWW', yq_ok, Bool.and_eq_true, decide_eq_true_eq] at hr3'
      have l1' : p' * 10 + t_nd H' ≤ r' / W' := by
        rw [Nat.le_div_iff_mul_le hW0', hpW']; exact hr1'
      have l2' : r' / W' < p' * 10 + 10 := by
        rw [Nat.div_lt_iff_lt_mul hW0', hpW']; exact hr2'
      omega
end PB'
