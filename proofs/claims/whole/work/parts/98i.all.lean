/-! all: days ahead -/
noncomputable def yq_mu (H' : t_H) (L' : t_L) (s' : Nat → Int32) (x' : Nat) : Bool := !decide (t_B (t_tp H' (t_yi H' L' s' x')) = 0) && decide (t_B (t_fd H' (t_yi H' L' s' x')) = 0)
noncomputable def yq_fu (H' : t_H) (L' : t_L) (s' : Nat → Int32) (x' y' : Nat) : Bool := decide (t_pn H' (t_yi H' L' s' x') < t_pn H' (t_yi H' L' s' y'))
section PY'
variable {X' : p_X} {I' : p_I} {H' : t_H} {L' : t_L} {s' : Nat → Int32}
theorem s_mustC (hB' : p_B X') (hH' : t_HI H' I') (hW' : t_HW H') (hL' : t_LC L' X' I') (hS' : t_WF H' (I' 69)) {D' : Nat} (hD' : I' 69 0 = Int32.ofNat D') (hD'' : D' ≤ 999) : ∃ J', q_lp (fun z' => B_X2_daysToNothing_10 67 z'.1 z'.2) q_fu ((0 : Int32), (I', X')) = some (t_ex (t_fi (yq_mu H' L' (I' 69)) 61 0) (J', X')) ∧ (∀ c', c' ≠ 63 → c' ≠ 64 → c' ≠ 65 → c' ≠ p_sc X' → c' ≠ 69 → J' c' = I' c') := by
  have hsc' := p_scN hL'
  obtain ⟨z', h1', J', rfl, j1'⟩ := p_lp (fun z' => B_X2_daysToNothing_10 67 z'.1 z'.2) (fun i' z' => ∃ J', z' = (Int32.ofNat i', (J', X')) ∧ (∀ c', c' ≠ 63 → c' ≠ 64 → c' ≠ 65 → c' ≠ p_sc X' → c' ≠ 69 → J' c' = I' c') ∧ J' 69 = t_yi H' L' (I' 69) i' ∧ t_fi (yq_mu H' L' (I' 69)) (61 - i') i' = t_fi (yq_mu H' L' (I' 69)) 61 0)
    (fun z' => ∃ J', z' = t_ex (t_fi (yq_mu H' L' (I' 69)) 61 0) (J', X') ∧ (∀ c', c' ≠ 63 → c' ≠ 64 → c' ≠ 65 → c' ≠ p_sc X' → c' ≠ 69 → J' c' = I' c')) 61 (by
      rintro i' z' hi' ⟨J', rfl, j1', j2', j3'⟩
      have h60' : (60 < Int32.ofNat i') = (60 < i') := p_lt 60 i' (by decide) (by omega)
      unfold B_X2_daysToNothing_10 J_X2_daysToNothing_49_10
      by_cases hlt' : i' < 61
      · have hw' := t_yiW (L' := L') hW' hS' hD' i' (by omega)
        obtain ⟨K', k1', k2', k3', k4'⟩ := s_pass (I' := J') (k' := 68) (L' := L') hB' (t_HIk hH' (fun c' h1' h2' => j1' c' (by omega) (by omega) (by omega) (by omega) (by omega))) hW' (by omega) (by rw [j2']; exact hw'.1) (t_LCk hL' (fun c' h1' h2' => j1' c' (by omega) (by omega) (by omega) h2' (by omega)))
        have k4'' : K' 69 = t_yi H' L' (I' 69) (i' + 1) := by
          have k4'' : K' 69 = t_ps H' L' (J' 69) := k4'
          rw [k4'', j2']
          rfl
        have k3'' : t_EV H' (t_yi H' L' (I' 69) i') K' := by rw [← j2']; exact k3'
        have e4' := k3''.1
        have e10' := k3''.2.2.2.2.2.2.1
        have kf' : ∀ c', c' ≠ 63 → c' ≠ 64 → c' ≠ 65 → c' ≠ p_sc X' → c' ≠ 69 → K' c' = I' c' := fun c' h1' h2' h3' h4' h5' => by rw [k2' c' h1' h2' h3' h4' h5']; exact j1' c' h1' h2' h3' h4' h5'
        have hn' : ¬ 60 < i' := by omega
        have e60' : 61 - i' = (61 - (i' + 1)) + 1 := by omega
        rw [e60', t_fi] at j3'
        have hmu' : yq_mu H' L' (I' 69) i' = (!decide (t_B (t_tp H' (t_yi H' L' (I' 69) i')) = 0) && decide (t_B (t_fd H' (t_yi H' L' (I' 69) i')) = 0)) := rfl
        by_cases c1' : t_B (t_tp H' (t_yi H' L' (I' 69) i')) = 0
        · left
          have hb' : yq_mu H' L' (I' 69) i' = false := by rw [hmu']; simp [c1']
          rw [hb', if_neg (by decide)] at j3'
          simp (disch := omega) only [↓ce_67 hB', rf_67 hB', ↓ce_63 hB', rf_63 hB', ↓ce_68 hB', rf_68 hB', ↓nn_40, ↓nn_64, ↓nn_65, ↓nn_66, ↓nn_67, ↓nn_69, ↓nn_70, ↓nn_71, ↓nn_72, ↓nn_73, p_bs, p_rq0, p_rq1, p_rz0, p_rz1, p_us, p_un, p_uj, ↓reduceIte, h60', hn', k1', e4', c1', p_ar]
          exact ⟨_, rfl, hlt', K', rfl, kf', k4'', j3'⟩
        · by_cases c2' : t_B (t_fd H' (t_yi H' L' (I' 69) i')) = 0
          · right
            have hb' : yq_mu H' L' (I' 69) i' = true := by rw [hmu']; simp [c1', c2']
            rw [hb', if_pos rfl] at j3'
            simp (disch := omega) only [↓ce_67 hB', rf_67 hB', ↓ce_63 hB', rf_63 hB', ↓ce_68 hB', rf_68 hB', ↓nn_40, ↓nn_64, ↓nn_65, ↓nn_66, ↓nn_67, ↓nn_69, ↓nn_70, ↓nn_71, ↓nn_72, ↓nn_73, p_bs, p_rq0, p_rq1, p_rz0, p_rz1, p_us, p_un, p_uj, ↓reduceIte, h60', hn', k1', e4', c1', e10', c2', p_ar]
            exact ⟨_, rfl, K', by rw [← j3']; rfl, kf'⟩
          · left
            have hb' : yq_mu H' L' (I' 69) i' = false := by rw [hmu']; simp [c2']
            rw [hb', if_neg (by decide)] at j3'
            simp (disch := omega) only [↓ce_67 hB', rf_67 hB', ↓ce_63 hB', rf_63 hB', ↓ce_68 hB', rf_68 hB', ↓nn_40, ↓nn_64, ↓nn_65, ↓nn_66, ↓nn_67, ↓nn_69, ↓nn_70, ↓nn_71, ↓nn_72, ↓nn_73, p_bs, p_rq0, p_rq1, p_rz0, p_rz1, p_us, p_un, p_uj, ↓reduceIte, h60', hn', k1', e4', c1', e10', c2', p_ar]
            exact ⟨_, rfl, hlt', K', rfl, kf', k4'', j3'⟩
      · right
        have hi'' : i' = 61 := by omega
        subst hi''
        simp (disch := omega) only [p_bs, p_rq0, p_rq1, p_rz0, p_rz1, p_us, p_un, p_uj, ↓reduceIte, h60', show (60 < 61) = True from by decide]
        exact ⟨_, rfl, J', by rw [← j3']; rfl, j1'⟩) 61 0 q_fu (0, (I', X')) (by omega) (by unfold q_fu; omega) ⟨I', rfl, fun _ _ _ _ _ _ => rfl, rfl, rfl⟩
  exact ⟨J', h1', j1'⟩
theorem s_mustM (hB' : p_B X') (hS0' : p_S I') (hM' : t_HM H' I') (hW' : t_HW H') (hS' : t_WF H' s') (hR' : t_RS s' (I' 101)) (h36' : ∃ n', n' ≤ 60 ∧ I' 101 36 = Int32.ofNat n') (hL' : t_LM L' X' I') {D' : Nat} (hD' : s' 0 = Int32.ofNat D') (hD'' : D' ≤ 999) : ∃ J' u', q_lp (fun z' => B_X12_mustard_13 87 z'.1 z'.2) q_fu ((0 : Int32), (I', X')) = some (t_ex (t_fi (yq_mu H' L' s') 61 0) (J', p_T X' u')) ∧ (∀ c', c' ≠ 87 → c' ≠ 91 → c' ≠ 102 → c' ≠ 101 → J' c' = I' c') ∧ (∀ j', ¬ t_m87 j' → J' 87 j' = I' 87 j') := by
  obtain ⟨z', h1', J', u', rfl, j1', j2'⟩ := p_lp (fun z' => B_X12_mustard_13 87 z'.1 z'.2) (fun i' z' => ∃ J' u', z' = (Int32.ofNat i', (J', p_T X' u')) ∧ (∀ c', c' ≠ 87 → c' ≠ 91 → c' ≠ 102 → c' ≠ 101 → J' c' = I' c') ∧ (∀ j', ¬ t_m87 j' → J' 87 j' = I' 87 j') ∧ t_RS (t_yi H' L' s' i') (J' 101) ∧ (∃ n', n' ≤ 60 ∧ J' 101 36 = Int32.ofNat n') ∧ t_fi (yq_mu H' L' s') (61 - i') i' = t_fi (yq_mu H' L' s') 61 0)
    (fun z' => ∃ J' u', z' = t_ex (t_fi (yq_mu H' L' s') 61 0) (J', p_T X' u') ∧ (∀ c', c' ≠ 87 → c' ≠ 91 → c' ≠ 102 → c' ≠ 101 → J' c' = I' c') ∧ (∀ j', ¬ t_m87 j' → J' 87 j' = I' 87 j')) 61 (by
      rintro i' z' hi' ⟨J', u', rfl, j1', j2', j3', ⟨m', j4', j5'⟩, j6'⟩
      have hB0' := hB'
      have hB' := p_BT hB0' u'
      have h60' : (60 < Int32.ofNat i') = (60 < i') := p_lt 60 i' (by decide) (by omega)
      unfold B_X12_mustard_13 J_X12_mustard_45_13
      by_cases hlt' : i' < 61
      · have hw' := t_yiW (L' := L') hW' hS' hD' i' (by omega)
        have hMJ' : t_HM H' J' := t_HMk hM' (j1' 92 (by decide) (by decide) (by decide) (by decide)) (j1' 94 (by decide) (by decide) (by decide) (by decide)) (j1' 96 (by decide) (by decide) (by decide) (by decide)) (j2' 26 (by omega)) (j2' 27 (by omega))
        have htb' := s_thereBits (X' := p_T X' u') (c' := 101) hB' hMJ' hW' hw'.1 (.inr rfl) j3'.1
        obtain ⟨K', u'', k1', k2', k3', k4', k5'⟩ := s_goDay (I' := J') (s' := t_yi H' L' s' i') (c' := 101) (L' := L') hB' (fun c' hc' => by rw [j1' c' (by omega) (by omega) (by omega) (by omega)]; exact hS0' c' hc') hMJ' hW' hw'.1 (.inr rfl) j3' (t_LMk (t_LMT hL' u') (j2' 34 (by omega)) (j1' 89 (by decide) (by decide) (by decide) (by decide)) (j1' 90 (by decide) (by decide) (by decide) (by decide))) hw'.2 (by omega) j4' j5'
        rw [p_TT] at k1'
        have k4'' : t_RS (t_yi H' L' s' (i' + 1)) (K' 101) := k4'
        have hn' : ¬ 60 < i' := by omega
        have e60' : 61 - i' = (61 - (i' + 1)) + 1 := by omega
        rw [e60', t_fi] at j6'
        have kf' : ∀ c', c' ≠ 87 → c' ≠ 91 → c' ≠ 102 → c' ≠ 101 → K' c' = I' c' := fun c' h1' h2' h3' h4' => by rw [k2' c' h1' h2' h3' h4']; exact j1' c' h1' h2' h3' h4'
        have kg' : ∀ j', ¬ t_m87 j' → K' 87 j' = I' 87 j' := fun j' hj' => by rw [k3' j' (by omega) (by omega) (by omega)]; exact j2' j' hj'
        have hmu' : yq_mu H' L' s' i' = (!decide (t_B (t_tp H' (t_yi H' L' s' i')) = 0) && decide (t_B (t_fd H' (t_yi H' L' s' i')) = 0)) := rfl
        by_cases c2' : t_B (t_fd H' (t_yi H' L' s' i')) = 0
        · by_cases c1' : t_B (t_tp H' (t_yi H' L' s' i')) = 0
          · left
            have hb' : yq_mu H' L' s' i' = false := by rw [hmu']; simp [c1']
            rw [hb', if_neg (by decide)] at j6'
            rw [c2'] at k1'
            rw [c1'] at htb'
            simp (disch := omega) only [↓ce_87 hB', rf_87 hB', ↓nn_31, ↓nn_33, ↓nn_89, ↓nn_90, ↓nn_91, ↓nn_92, ↓nn_93, ↓nn_94, ↓nn_95, ↓nn_96, ↓nn_97, ↓nn_98, ↓nn_99, ↓nn_100, ↓nn_101, ↓nn_102, ↓nn_103, ↓nn_104, ↓nn_105, ↓nn_106, ↓nn_107, ↓nn_108, p_bs, p_rq0, p_rq1, p_rz0, p_rz1, p_us, p_un, p_uj, ↓reduceIte, h60', hn', htb', k1', p_ar]
            exact ⟨_, rfl, hlt', K', u'', rfl, kf', kg', k4'', t_LU36 k5', j6'⟩
          · right
            have hb' : yq_mu H' L' s' i' = true := by rw [hmu']; simp [c1', c2']
            rw [hb', if_pos rfl] at j6'
            rw [c2'] at k1'
            simp (disch := omega) only [↓ce_87 hB', rf_87 hB', ↓nn_31, ↓nn_33, ↓nn_89, ↓nn_90, ↓nn_91, ↓nn_92, ↓nn_93, ↓nn_94, ↓nn_95, ↓nn_96, ↓nn_97, ↓nn_98, ↓nn_99, ↓nn_100, ↓nn_101, ↓nn_102, ↓nn_103, ↓nn_104, ↓nn_105, ↓nn_106, ↓nn_107, ↓nn_108, p_bs, p_rq0, p_rq1, p_rz0, p_rz1, p_us, p_un, p_uj, ↓reduceIte, h60', hn', htb', k1', c1', p_ar]
            exact ⟨_, rfl, K', u'', by rw [← j6']; rfl, kf', kg'⟩
        · left
          have hb' : yq_mu H' L' s' i' = false := by rw [hmu']; simp [c2']
          rw [hb', if_neg (by decide)] at j6'
          simp (disch := omega) only [↓ce_87 hB', rf_87 hB', ↓nn_31, ↓nn_33, ↓nn_89, ↓nn_90, ↓nn_91, ↓nn_92, ↓nn_93, ↓nn_94, ↓nn_95, ↓nn_96, ↓nn_97, ↓nn_98, ↓nn_99, ↓nn_100, ↓nn_101, ↓nn_102, ↓nn_103, ↓nn_104, ↓nn_105, ↓nn_106, ↓nn_107, ↓nn_108, p_bs, p_rq0, p_rq1, p_rz0, p_rz1, p_us, p_un, p_uj, ↓reduceIte, h60', hn', htb', k1', c2', p_ar]
          exact ⟨_, rfl, hlt', K', u'', rfl, kf', kg', k4'', t_LU36 k5', j6'⟩
      · right
        have hi'' : i' = 61 := by omega
        subst hi''
        simp (disch := omega) only [p_bs, p_rq0, p_rq1, p_rz0, p_rz1, p_us, p_un, p_uj, ↓reduceIte, h60', show (60 < 61) = True from by decide]
        exact ⟨_, rfl, J', u', by rw [← j6']; rfl, j1', j2'⟩) 61 0 q_fu (0, (I', X')) (by omega) (by unfold q_fu; omega) ⟨I', X'.2.1 87 5, by rw [p_Ts]; rfl, fun _ _ _ _ _ => rfl, fun _ _ => rfl, hR', h36', rfl⟩
  exact ⟨J', u', h1', j1', j2'⟩
theorem s_fullC (hB' : p_B X') (hH' : t_HI H' I') (hW' : t_HW H') (hL' : t_LC L' X' I') (hS' : t_WF H' (I' 69)) {D' : Nat} (hD' : I' 69 0 = Int32.ofNat D') (hD'' : D' ≤ 999) : ∃ J', q_lp (fun z' => B_X2_fullestDay_15 67 z'.1 z'.2.1 z'.2.2.1 z'.2.2.2) q_fu ((0 : Int32), (-1 : Int32), (0 : Int32), (I', X')) = some (Int32.ofNat (yq_am (yq_fu H' L' (I' 69)) 19), (J', X')) ∧ (∀ c', c' ≠ 63 → c' ≠ 64 → c' ≠ 65 → c' ≠ p_sc X' → c' ≠ 69 → J' c' = I' c') := by
  have hsc' := p_scN hL'
  obtain ⟨P', hP'⟩ : ∃ P', P' = yq_fu H' L' (I' 69) := ⟨_, rfl⟩
  rw [← hP']
  obtain ⟨z', h1', J', rfl, j1'⟩ := p_lp (fun z' => B_X2_fullestDay_15 67 z'.1 z'.2.1 z'.2.2.1 z'.2.2.2) (fun k' z' => ∃ J', z' = (Int32.ofNat (yq_am P' (k' - 1)), (if k' = 0 then -1 else t_pn H' (t_yi H' L' (I' 69) (yq_am P' (k' - 1)))), Int32.ofNat k', (J', X')) ∧ (∀ c', c' ≠ 63 → c' ≠ 64 → c' ≠ 65 → c' ≠ p_sc X' → c' ≠ 69 → J' c' = I' c') ∧ J' 69 = t_yi H' L' (I' 69) k')
    (fun z' => ∃ J', z' = (Int32.ofNat (yq_am P' 19), (J', X')) ∧ (∀ c', c' ≠ 63 → c' ≠ 64 → c' ≠ 65 → c' ≠ p_sc X' → c' ≠ 69 → J' c' = I' c')) 20 (by
      rintro k' z' hk' ⟨J', rfl, j1', j2'⟩
      have hl' : (Int32.ofNat k' < 20) = (k' < 20) := p_lt k' 20 (by omega) (by decide)
      unfold B_X2_fullestDay_15 J_X2_fullestDay_55_15
      by_cases hlt' : k' < 20
      · left
        have hw' := t_yiW (L' := L') hW' hS' hD' k' (by omega)
        obtain ⟨K', k1', k2', k3', k4'⟩ := s_pass (I' := J') (k' := 68) (L' := L') hB' (t_HIk hH' (fun c' h1' h2' => j1' c' (by omega) (by omega) (by omega) (by omega) (by omega))) hW' (by omega) (by rw [j2']; exact hw'.1) (t_LCk hL' (fun c' h1' h2' => j1' c' (by omega) (by omega) (by omega) h2' (by omega)))
        have k4'' : K' 69 = t_yi H' L' (I' 69) (k' + 1) := by
          have k4'' : K' 69 = t_ps H' L' (J' 69) := k4'
          rw [k4'', j2']
          rfl
        have k3'' : t_EV H' (t_yi H' L' (I' 69) k') K' := by rw [← j2']; exact k3'
        have e6' := k3''.2.2.1
        have kf' : ∀ c', c' ≠ 63 → c' ≠ 64 → c' ≠ 65 → c' ≠ p_sc X' → c' ≠ 69 → K' c' = I' c' := fun c' h1' h2' h3' h4' h5' => by rw [k2' c' h1' h2' h3' h4' h5']; exact j1' c' h1' h2' h3' h4' h5'
        obtain ⟨x', x1', x2'⟩ := t_pnN (H' := H') (t_yi H' L' (I' 69) k')
        refine ⟨(Int32.ofNat (yq_am P' (k' + 1 - 1)), (if k' + 1 = 0 then -1 else t_pn H' (t_yi H' L' (I' 69) (yq_am P' (k' + 1 - 1)))), Int32.ofNat (k' + 1), (K', X')), ?_, hlt', K', rfl, kf', k4''⟩
        have k1z : (k' + 1 = 0) = False := by simp
        by_cases hk0' : k' = 0
        · subst hk0'
          have hm1' : ((-1 : Int32) < t_pn H' (t_yi H' L' (I' 69) 0)) = True := by
            apply eq_true
            rw [x1', Int32.lt_iff_toInt_lt, p_toI _ (by omega), show (-1 : Int32).toInt = -1 from by decide]
            omega
          simp only [↓reduceIte]
          simp (disch := omega) only [↓ce_67 hB', rf_67 hB', ↓ce_63 hB', rf_63 hB', ↓ce_68 hB', rf_68 hB', ↓nn_40, ↓nn_64, ↓nn_65, ↓nn_66, ↓nn_67, ↓nn_69, ↓nn_70, ↓nn_71, ↓nn_72, ↓nn_73, p_bs, p_rq0, p_rq1, p_rz0, p_rz1, p_us, p_un, p_uj, ↓reduceIte, hl', hlt', k1', e6', hm1', p_ar]
          rfl
        · obtain ⟨q', rfl⟩ : ∃ q', k' = q' + 1 := ⟨k' - 1, by omega⟩
          have q0' : (q' + 1 = 0) = False := by simp
          have hPk' : P' (yq_am P' q') (q' + 1) = decide (t_pn H' (t_yi H' L' (I' 69) (yq_am P' q')) < t_pn H' (t_yi H' L' (I' 69) (q' + 1))) := by rw [hP']; rfl
          simp only [q0', k1z, ↓reduceIte, Nat.add_sub_cancel]
          rw [yq_am, hPk']
          by_cases hc' : t_pn H' (t_yi H' L' (I' 69) (yq_am P' q')) < t_pn H' (t_yi H' L' (I' 69) (q' + 1))
          · simp (disch := omega) only [↓ce_67 hB', rf_67 hB', ↓ce_63 hB', rf_63 hB', ↓ce_68 hB', rf_68 hB', ↓nn_40, ↓nn_64, ↓nn_65, ↓nn_66, ↓nn_67, ↓nn_69, ↓nn_70, ↓nn_71, ↓nn_72, ↓nn_73, p_bs, p_rq0, p_rq1, p_rz0, p_rz1, p_us, p_un, p_uj, ↓reduceIte, hl', hlt', k1', e6', hc', decide_true, p_ar]
          · simp (disch := omega) only [↓ce_67 hB', rf_67 hB', ↓ce_63 hB', rf_63 hB', ↓ce_68 hB', rf_68 hB', ↓nn_40, ↓nn_64, ↓nn_65, ↓nn_66, ↓nn_67, ↓nn_69, ↓nn_70, ↓nn_71, ↓nn_72, ↓nn_73, p_bs, p_rq0, p_rq1, p_rz0, p_rz1, p_us, p_un, p_uj, ↓reduceIte, hl', hlt', k1', e6', hc', decide_false, Bool.false_eq_true, p_ar]
      · right
        have hk'' : k' = 20 := by omega
        subst hk''
        refine ⟨(Int32.ofNat (yq_am P' 19), (J', X')), ?_, J', rfl, j1'⟩
        simp (disch := omega) only [p_bs, p_rq0, p_rq1, p_rz0, p_rz1, p_us, p_un, p_uj, ↓reduceIte, hl', Nat.lt_irrefl]) 20 0 q_fu (0, -1, 0, (I', X')) (by omega) (by unfold q_fu; omega) ⟨I', rfl, fun _ _ _ _ _ _ => rfl, rfl⟩
  exact ⟨J', h1', j1'⟩
theorem s_fullM (hB' : p_B X') (hS0' : p_S I') (hM' : t_HM H' I') (hW' : t_HW H') (hS' : t_WF H' s') (hR' : t_RS s' (I' 101)) (h36' : ∃ n', n' ≤ 60 ∧ I' 101 36 = Int32.ofNat n') (hL' : t_LM L' X' I') {D' : Nat} (hD' : s' 0 = Int32.ofNat D') (hD'' : D' ≤ 999) : ∃ J' u', q_lp (fun z' => B_X12_fullest_17 87 z'.1 z'.2.1 z'.2.2.1 z'.2.2.2) q_fu ((0 : Int32), (0 : Int32), (0 : Int32), (I', X')) = some (Int32.ofNat (yq_am (yq_fu H' L' s') 19), (J', p_T X' u')) ∧ (∀ c', c' ≠ 87 → c' ≠ 91 → c' ≠ 102 → c' ≠ 101 → J' c' = I' c') ∧ (∀ j', ¬ t_m87 j' → J' 87 j' = I' 87 j') := by
  obtain ⟨P', hP'⟩ : ∃ P', P' = yq_fu H' L' s' := ⟨_, rfl⟩
  rw [← hP']
  obtain ⟨z', h1', J', u', rfl, j1', j2'⟩ := p_lp (fun z' => B_X12_fullest_17 87 z'.1 z'.2.1 z'.2.2.1 z'.2.2.2) (fun k' z' => ∃ J' u', z' = (Int32.ofNat (yq_am P' (k' - 1)), (if k' = 0 then 0 else t_pn H' (t_yi H' L' s' (yq_am P' (k' - 1)))), Int32.ofNat k', (J', p_T X' u')) ∧ (∀ c', c' ≠ 87 → c' ≠ 91 → c' ≠ 102 → c' ≠ 101 → J' c' = I' c') ∧ (∀ j', ¬ t_m87 j' → J' 87 j' = I' 87 j') ∧ t_RS (t_yi H' L' s' k') (J' 101) ∧ (∃ n', n' ≤ 60 ∧ J' 101 36 = Int32.ofNat n'))
    (fun z' => ∃ J' u', z' = (Int32.ofNat (yq_am P' 19), (J', p_T X' u')) ∧ (∀ c', c' ≠ 87 → c' ≠ 91 → c' ≠ 102 → c' ≠ 101 → J' c' = I' c') ∧ (∀ j', ¬ t_m87 j' → J' 87 j' = I' 87 j')) 20 (by
      rintro k' z' hk' ⟨J', u', rfl, j1', j2', j3', ⟨m', j4', j5'⟩⟩
      have hB0' := hB'
      have hB' := p_BT hB0' u'
      have hl' : (Int32.ofNat k' < 20) = (k' < 20) := p_lt k' 20 (by omega) (by decide)
      unfold B_X12_fullest_17 J_X12_fullest_44_17
      by_cases hlt' : k' < 20
      · left
        have hw' := t_yiW (L' := L') hW' hS' hD' k' (by omega)
        have hMJ' : t_HM H' J' := t_HMk hM' (j1' 92 (by decide) (by decide) (by decide) (by decide)) (j1' 94 (by decide) (by decide) (by decide) (by decide)) (j1' 96 (by decide) (by decide) (by decide) (by decide)) (j2' 26 (by omega)) (j2' 27 (by omega))
        have htb' := s_thereBits (X' := p_T X' u') (c' := 101) hB' hMJ' hW' hw'.1 (.inr rfl) j3'.1
        obtain ⟨K', u'', k1', k2', k3', k4', k5'⟩ := s_goDay (I' := J') (s' := t_yi H' L' s' k') (c' := 101) (L' := L') hB' (fun c' hc' => by rw [j1' c' (by omega) (by omega) (by omega) (by omega)]; exact hS0' c' hc') hMJ' hW' hw'.1 (.inr rfl) j3' (t_LMk (t_LMT hL' u') (j2' 34 (by omega)) (j1' 89 (by decide) (by decide) (by decide) (by decide)) (j1' 90 (by decide) (by decide) (by decide) (by decide))) hw'.2 (by omega) j4' j5'
        rw [p_TT] at k1'
        have kf' : ∀ c', c' ≠ 87 → c' ≠ 91 → c' ≠ 102 → c' ≠ 101 → K' c' = I' c' := fun c' h1' h2' h3' h4' => by rw [k2' c' h1' h2' h3' h4']; exact j1' c' h1' h2' h3' h4'
        have kg' : ∀ j', ¬ t_m87 j' → K' 87 j' = I' 87 j' := fun j' hj' => by rw [k3' j' (by omega) (by omega) (by omega)]; exact j2' j' hj'
        obtain ⟨x', x1', x2'⟩ := t_pnN (H' := H') (t_yi H' L' s' k')
        have hpn' : t_bc (t_B (t_tp H' (t_yi H' L' s' k'))) = t_pn H' (t_yi H' L' s' k') := rfl
        refine ⟨(Int32.ofNat (yq_am P' (k' + 1 - 1)), (if k' + 1 = 0 then 0 else t_pn H' (t_yi H' L' s' (yq_am P' (k' + 1 - 1)))), Int32.ofNat (k' + 1), (K', p_T X' u'')), ?_, hlt', K', u'', rfl, kf', kg', k4', t_LU36 k5'⟩
        have k1z : (k' + 1 = 0) = False := by simp
        by_cases hk0' : k' = 0
        · subst hk0'
          simp only [↓reduceIte, k1z]
          have hmx' : q_mx 0 (t_pn H' (t_yi H' L' s' 0)) = t_pn H' (t_yi H' L' s' 0) := by
            unfold q_mx
            split
            · rfl
            · rename_i h'
              rw [x1'] at h' ⊢
              rw [show (0 : Int32) = Int32.ofNat 0 from rfl, p_lt 0 x' (by omega) (by omega)] at h'
              rw [show x' = 0 by omega]
              rfl
          by_cases hc' : 0 < t_pn H' (t_yi H' L' s' 0)
          · simp (disch := omega) only [↓ce_87 hB', rf_87 hB', ↓nn_31, ↓nn_33, ↓nn_89, ↓nn_90, ↓nn_91, ↓nn_92, ↓nn_93, ↓nn_94, ↓nn_95, ↓nn_96, ↓nn_97, ↓nn_98, ↓nn_99, ↓nn_100, ↓nn_101, ↓nn_102, ↓nn_103, ↓nn_104, ↓nn_105, ↓nn_106, ↓nn_107, ↓nn_108, p_bs, p_rq0, p_rq1, p_rz0, p_rz1, p_us, p_un, p_uj, ↓reduceIte, hl', hlt', htb', t_bcE, hpn', hc', k1', hmx', p_ar]
            rfl
          · simp (disch := omega) only [↓ce_87 hB', rf_87 hB', ↓nn_31, ↓nn_33, ↓nn_89, ↓nn_90, ↓nn_91, ↓nn_92, ↓nn_93, ↓nn_94, ↓nn_95, ↓nn_96, ↓nn_97, ↓nn_98, ↓nn_99, ↓nn_100, ↓nn_101, ↓nn_102, ↓nn_103, ↓nn_104, ↓nn_105, ↓nn_106, ↓nn_107, ↓nn_108, p_bs, p_rq0, p_rq1, p_rz0, p_rz1, p_us, p_un, p_uj, ↓reduceIte, hl', hlt', htb', t_bcE, hpn', hc', k1', hmx', p_ar]
            rfl
        · obtain ⟨q', rfl⟩ : ∃ q', k' = q' + 1 := ⟨k' - 1, by omega⟩
          have q0' : (q' + 1 = 0) = False := by simp
          have hPk' : P' (yq_am P' q') (q' + 1) = decide (t_pn H' (t_yi H' L' s' (yq_am P' q')) < t_pn H' (t_yi H' L' s' (q' + 1))) := by rw [hP']; rfl
          simp only [q0', k1z, ↓reduceIte, Nat.add_sub_cancel]
          rw [yq_am, hPk']
          by_cases hc' : t_pn H' (t_yi H' L' s' (yq_am P' q')) < t_pn H' (t_yi H' L' s' (q' + 1))
          · have hmx' : q_mx (t_pn H' (t_yi H' L' s' (yq_am P' q'))) (t_pn H' (t_yi H' L' s' (q' + 1))) = t_pn H' (t_yi H' L' s' (q' + 1)) := if_pos hc'
            simp (disch := omega) only [↓ce_87 hB', rf_87 hB', ↓nn_31, ↓nn_33, ↓nn_89, ↓nn_90, ↓nn_91, ↓nn_92, ↓nn_93, ↓nn_94, ↓nn_95, ↓nn_96, ↓nn_97, ↓nn_98, ↓nn_99, ↓nn_100, ↓nn_101, ↓nn_102, ↓nn_103, ↓nn_104, ↓nn_105, ↓nn_106, ↓nn_107, ↓nn_108, p_bs, p_rq0, p_rq1, p_rz0, p_rz1, p_us, p_un, p_uj, ↓reduceIte, hl', hlt', htb', t_bcE, hpn', hc', k1', hmx', decide_true, p_ar]
          · have hmx' : q_mx (t_pn H' (t_yi H' L' s' (yq_am P' q'))) (t_pn H' (t_yi H' L' s' (q' + 1))) = t_pn H' (t_yi H' L' s' (yq_am P' q')) := if_neg hc'
            simp (disch := omega) only [↓ce_87 hB', rf_87 hB', ↓nn_31, ↓nn_33, ↓nn_89, ↓nn_90, ↓nn_91, ↓nn_92, ↓nn_93, ↓nn_94, ↓nn_95, ↓nn_96, ↓nn_97, ↓nn_98, ↓nn_99, ↓nn_100, ↓nn_101, ↓nn_102, ↓nn_103, ↓nn_104, ↓nn_105, ↓nn_106, ↓nn_107, ↓nn_108, p_bs, p_rq0, p_rq1, p_rz0, p_rz1, p_us, p_un, p_uj, ↓reduceIte, hl', hlt', htb', t_bcE, hpn', hc', k1', hmx', decide_false, Bool.false_eq_true, p_ar]
      · right
        have hk'' : k' = 20 := by omega
        subst hk''
        refine ⟨(Int32.ofNat (yq_am P' 19), (J', p_T X' u')), ?_, J', u', rfl, j1', j2'⟩
        simp (disch := omega) only [p_bs, p_rq0, p_rq1, p_rz0, p_rz1, p_us, p_un, p_uj, ↓reduceIte, hl', Nat.lt_irrefl]) 20 0 q_fu (0, 0, 0, (I', X')) (by omega) (by unfold q_fu; omega) ⟨I', X'.2.1 87 5, by rw [p_Ts]; rfl, fun _ _ _ _ _ => rfl, fun _ _ => rfl, hR', h36'⟩
  exact ⟨J', u', h1', j1', j2'⟩
end PY'
