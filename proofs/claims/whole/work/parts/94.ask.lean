/-! madeUp -/
noncomputable def t_mu (H' : t_H) (s' : Nat → Int32) (l' : Int32) (h' x' : Nat) : Bool := !decide (t_ds H' (va_up s' 1 (Int32.ofNat (h' - x'))) = -1) && !decide (t_wm H' (va_up s' 1 (Int32.ofNat (h' - x'))) < l')
section PQ'
variable {X' : p_X} {I' : p_I} {H' : t_H} {s' : Nat → Int32}
theorem t_WFh (hS' : t_WF H' s') (h' : Nat) (hh' : h' ≤ 3) : t_WF H' (va_up s' 1 (Int32.ofNat h')) := by
  obtain ⟨w1', w2', w3', w4', w5', w6', w7', w8'⟩ := hS'
  refine ⟨?_, ?_, ?_, ?_, ?_, ?_, ?_, ?_⟩
  · rw [p_vn _ _ _ _ (by omega)]; exact w1'
  · rw [p_vs]; exact ⟨h', rfl, hh'⟩
  · rw [p_vn _ _ _ _ (by omega)]; exact w3'
  · intro j' hj'; simp (disch := omega) only [p_vn]; exact w4' j' hj'
  · intro j' hj'; simp (disch := omega) only [p_vn]; exact w5' j' hj'
  · intro j' hj'; simp (disch := omega) only [p_vn]; exact w6' j' hj'
  · rw [p_vn _ _ _ _ (by omega)]; exact w7'
  · intro x' h1' h2'; simp (disch := omega) only [p_vn]; exact w8' x' h1' h2'
theorem s_madeC (hB' : p_B X') (hH' : t_HI H' I') (hW' : t_HW H') (hS' : t_WF H' s') (hs' : ∀ j', j' ≠ 1 → I' 69 j' = s' j') {h' : Nat} (hh' : h' ≤ 3) (h1' : I' 54 1 = Int32.ofNat h') (l' : Int32) : ∃ J', q_lp (fun z' => B_X2_fewestMadeUp_10 67 53 l' z'.1 z'.2) q_fu ((0 : Int32), (I', X')) = some (t_ex (t_fi (t_mu H' s' l' h') (h' + 1) 0) (J', X')) ∧ (∀ c', c' ≠ 63 → c' ≠ 64 → c' ≠ 69 → J' c' = I' c') := by
  obtain ⟨z', h1', J', rfl, j1'⟩ := p_lp (fun z' => B_X2_fewestMadeUp_10 67 53 l' z'.1 z'.2) (fun i' z' => ∃ J', z' = (Int32.ofNat i', (J', X')) ∧ (∀ c', c' ≠ 63 → c' ≠ 64 → c' ≠ 69 → J' c' = I' c') ∧ (∀ j', j' ≠ 1 → J' 69 j' = s' j') ∧ t_fi (t_mu H' s' l' h') (h' + 1 - i') i' = t_fi (t_mu H' s' l' h') (h' + 1) 0)
    (fun z' => ∃ J', z' = t_ex (t_fi (t_mu H' s' l' h') (h' + 1) 0) (J', X') ∧ (∀ c', c' ≠ 63 → c' ≠ 64 → c' ≠ 69 → J' c' = I' c')) (h' + 1) (by
      rintro i' z' hi' ⟨J', rfl, j1', j2', j3'⟩
      have l1' : J' 54 1 = Int32.ofNat h' := by rw [j1' 54 (by decide) (by decide) (by decide)]; exact h1'
      have hlt'' : (Int32.ofNat h' < Int32.ofNat i') = (h' < i') := p_lt h' i' (by omega) (by omega)
      unfold B_X2_fewestMadeUp_10 J_X2_fewestMadeUp_72_10
      by_cases hlt' : h' < i'
      · right
        have hi'' : i' = h' + 1 := by omega
        subst hi''
        simp (disch := omega) only [↓ce_53 hB', rf_53 hB', ↓ce_54 hB', ↓nn_55, p_bs, p_rq0, p_rq1, p_rz0, p_rz1, p_us, p_un, p_uj, ↓reduceIte, l1', hlt'', hlt']
        refine ⟨_, rfl, J', ?_, j1'⟩
        rw [← j3', Nat.sub_self]
        rfl
      · have esub : Int32.ofNat h' - Int32.ofNat i' = Int32.ofNat (h' - i') := p_osub h' i' (by omega)
        have er' : q_u2 J' 69 1 (Int32.ofNat (h' - i')) 69 = va_up s' 1 (Int32.ofNat (h' - i')) := by
          funext j'
          rw [p_ur]
          by_cases e' : j' = 1
          · subst e'; rw [p_vs, p_vs]
          · rw [p_vn _ _ _ _ e', p_vn _ _ _ _ e']; exact j2' j' e'
        obtain ⟨K', k1', k2', k3'⟩ := s_lay (I' := q_u2 J' 69 1 (Int32.ofNat (h' - i'))) (k' := 68) hB' (t_HIk hH' (fun c' h1' h2' => by rw [p_uc _ _ _ _ _ (by omega)]; exact j1' c' (by omega) (by omega) (by omega))) hW' (by omega) (by show t_WF H' (q_u2 J' 69 1 (Int32.ofNat (h' - i')) 69); rw [er']; exact t_WFh hS' _ (by omega))
        have k3'' : t_EV H' (va_up s' 1 (Int32.ofNat (h' - i'))) K' := by rw [← er']; exact k3'
        have e7' := k3''.2.2.2.1
        have e8' := k3''.2.2.2.2.1
        have kf' : ∀ c', c' ≠ 63 → c' ≠ 64 → c' ≠ 69 → K' c' = I' c' := fun c' z1' z2' z3' => by rw [k2' c' z1' z2', p_uc _ _ _ _ _ z3']; exact j1' c' z1' z2' z3'
        have kg' : ∀ j', j' ≠ 1 → K' 69 j' = s' j' := fun j' hj' => by rw [k2' 69 (by decide) (by decide), p_uj _ _ _ _ _ hj']; exact j2' j' hj'
        have e60' : h' + 1 - i' = (h' + 1 - (i' + 1)) + 1 := by omega
        rw [e60', t_fi] at j3'
        by_cases hd' : t_ds H' (va_up s' 1 (Int32.ofNat (h' - i'))) = -1
        · left
          have hm' : t_mu H' s' l' h' i' = false := by simp [t_mu, hd']
          simp (disch := omega) only [↓ce_53 hB', rf_53 hB', ↓ce_54 hB', ↓ce_67 hB', rf_67 hB', ↓ce_68 hB', rf_68 hB', ↓ce_69 hB', ↓ce_63 hB', rf_63 hB', ↓nn_40, ↓nn_55, ↓nn_64, ↓nn_65, ↓nn_66, ↓nn_67, ↓nn_69, ↓nn_70, ↓nn_71, ↓nn_72, ↓nn_73, p_bs, p_rq0, p_rq1, p_rz0, p_rz1, p_us, p_un, p_uj, ↓reduceIte, l1', hlt'', hlt', esub, k1', e7', hd', p_ar]
          refine ⟨_, rfl, by omega, K', rfl, kf', kg', ?_⟩
          rw [← j3', hm']
          rfl
        · by_cases hwm' : t_wm H' (va_up s' 1 (Int32.ofNat (h' - i'))) < l'
          · left
            have hm' : t_mu H' s' l' h' i' = false := by simp [t_mu, hwm']
            simp (disch := omega) only [↓ce_53 hB', rf_53 hB', ↓ce_54 hB', ↓ce_67 hB', rf_67 hB', ↓ce_68 hB', rf_68 hB', ↓ce_69 hB', ↓ce_63 hB', rf_63 hB', ↓nn_40, ↓nn_55, ↓nn_64, ↓nn_65, ↓nn_66, ↓nn_67, ↓nn_69, ↓nn_70, ↓nn_71, ↓nn_72, ↓nn_73, p_bs, p_rq0, p_rq1, p_rz0, p_rz1, p_us, p_un, p_uj, ↓reduceIte, l1', hlt'', hlt', esub, k1', e7', e8', hd', hwm', p_ar]
            refine ⟨_, rfl, by omega, K', rfl, kf', kg', ?_⟩
            rw [← j3', hm']
            rfl
          · right
            have hm' : t_mu H' s' l' h' i' = true := by simp [t_mu, hd', hwm']
            simp (disch := omega) only [↓ce_53 hB', rf_53 hB', ↓ce_54 hB', ↓ce_67 hB', rf_67 hB', ↓ce_68 hB', rf_68 hB', ↓ce_69 hB', ↓ce_63 hB', rf_63 hB', ↓nn_40, ↓nn_55, ↓nn_64, ↓nn_65, ↓nn_66, ↓nn_67, ↓nn_69, ↓nn_70, ↓nn_71, ↓nn_72, ↓nn_73, p_bs, p_rq0, p_rq1, p_rz0, p_rz1, p_us, p_un, p_uj, ↓reduceIte, l1', hlt'', hlt', esub, k1', e7', e8', hd', hwm', p_ar]
            refine ⟨_, rfl, K', ?_, kf'⟩
            rw [← j3', hm']
            rfl) (h' + 1) 0 q_fu (0, (I', X')) (by omega) (by unfold q_fu; omega) ⟨I', rfl, fun _ _ _ _ => rfl, hs', rfl⟩
  exact ⟨J', h1', j1'⟩
theorem s_madeM (hB' : p_B X') (hM' : t_HM H' I') (hW' : t_HW H') (hS' : t_WF H' s') (hR' : t_RS s' (I' 100)) {D' : Nat} (hD' : s' 0 = Int32.ofNat D') (hD'' : D' ≤ 999) {h' : Nat} (hh' : h' ≤ 3) (h1' : s' 1 = Int32.ofNat h') (l' : Int32) : ∃ J', q_lp (fun z' => B_X12_madeUp_28 87 l' z'.1 z'.2) q_fu ((0 : Int32), (I', X')) = some (t_ex (t_fi (t_mu H' s' l' h') (h' + 1) 0) (J', X')) ∧ (∀ c', c' ≠ 87 → c' ≠ 91 → c' ≠ 102 → c' ≠ 101 → J' c' = I' c') ∧ (∀ j', ¬ t_m87 j' → J' 87 j' = I' 87 j') := by
  have r32' : I' 100 32 = Int32.ofNat h' := by rw [hR'.1.2.1]; exact h1'
  obtain ⟨z', h1', J', rfl, j1', j2'⟩ := p_lp (fun z' => B_X12_madeUp_28 87 l' z'.1 z'.2) (fun i' z' => ∃ J', z' = (Int32.ofNat i', (J', X')) ∧ (∀ c', c' ≠ 87 → c' ≠ 91 → c' ≠ 102 → c' ≠ 101 → J' c' = I' c') ∧ (∀ j', ¬ t_m87 j' → J' 87 j' = I' 87 j') ∧ t_fi (t_mu H' s' l' h') (h' + 1 - i') i' = t_fi (t_mu H' s' l' h') (h' + 1) 0)
    (fun z' => ∃ J', z' = t_ex (t_fi (t_mu H' s' l' h') (h' + 1) 0) (J', X') ∧ (∀ c', c' ≠ 87 → c' ≠ 91 → c' ≠ 102 → c' ≠ 101 → J' c' = I' c') ∧ (∀ j', ¬ t_m87 j' → J' 87 j' = I' 87 j')) (h' + 1) (by
      rintro i' z' hi' ⟨J', rfl, j1', j2', j3'⟩
      have e100 : J' 100 = I' 100 := j1' 100 (by decide) (by decide) (by decide) (by decide)
      have l1' : J' 100 32 = Int32.ofNat h' := by rw [e100]; exact r32'
      have hlt'' : (Int32.ofNat h' < Int32.ofNat i') = (h' < i') := p_lt h' i' (by omega) (by omega)
      unfold B_X12_madeUp_28 J_X12_madeUp_87_28
      by_cases hlt' : h' < i'
      · right
        have hi'' : i' = h' + 1 := by omega
        subst hi''
        simp (disch := omega) only [↓ce_87 hB', rf_87 hB', ↓ce_100 hB', ↓nn_31, ↓nn_33, ↓nn_89, ↓nn_90, ↓nn_91, ↓nn_92, ↓nn_93, ↓nn_94, ↓nn_95, ↓nn_96, ↓nn_97, ↓nn_98, ↓nn_99, ↓nn_100, ↓nn_101, ↓nn_102, ↓nn_103, ↓nn_104, ↓nn_105, ↓nn_106, ↓nn_107, ↓nn_108, p_bs, p_rq0, p_rq1, p_rz0, p_rz1, p_us, p_un, p_uj, ↓reduceIte, l1', hlt'', hlt']
        refine ⟨_, rfl, J', ?_, j1', j2'⟩
        rw [← j3', Nat.sub_self]
        rfl
      · have esub : Int32.ofNat h' - Int32.ofNat i' = Int32.ofNat (h' - i') := p_osub h' i' (by omega)
        obtain ⟨J1', a1', a2', a3', a4'⟩ := s_mcopy (I' := J') hB'
        have l2' : J1' 101 32 = Int32.ofNat h' := by rw [a3' 32 (by decide)]; exact l1'
        have hR1' : t_RS (va_up s' 1 (Int32.ofNat (h' - i'))) (q_u2 J1' 101 32 (Int32.ofNat (h' - i')) 101) := by
          rw [p_ur]
          exact t_RSu1 (t_RSk hR' (fun j' hj' => by rw [a3' j' hj', e100])) _
        have f' : ∀ c', c' ≠ 87 → c' ≠ 91 → c' ≠ 102 → c' ≠ 101 → q_u2 J1' 101 32 (Int32.ofNat (h' - i')) c' = I' c' := fun c' z1' z2' z3' z4' => by rw [p_uc _ _ _ _ _ z4', a2' c' z4']; exact j1' c' z1' z2' z3' z4'
        have g' : ∀ j', ¬ t_m87 j' → q_u2 J1' 101 32 (Int32.ofNat (h' - i')) 87 j' = I' 87 j' := fun j' hj' => by rw [p_uc _ _ _ _ _ (by decide), a2' 87 (by decide)]; exact j2' j' hj'
        obtain ⟨K', k1', k2', k3', k4', k5'⟩ := s_goTable (I' := q_u2 J1' 101 32 (Int32.ofNat (h' - i'))) (c' := 101) (s' := va_up s' 1 (Int32.ofNat (h' - i'))) hB' (t_HMk hM' (f' 92 (by decide) (by decide) (by decide) (by decide)) (f' 94 (by decide) (by decide) (by decide) (by decide)) (f' 96 (by decide) (by decide) (by decide) (by decide)) (g' 26 (by omega)) (g' 27 (by omega))) hW' (t_WFh hS' _ (by omega)) (.inr rfl) hR1' (D' := D') (by rw [p_vn _ _ _ _ (by omega)]; exact hD') (by omega)
        obtain ⟨e7', e8', -⟩ := k4'
        have kf' : ∀ c', c' ≠ 87 → c' ≠ 91 → c' ≠ 102 → c' ≠ 101 → K' c' = I' c' := fun c' z1' z2' z3' z4' => by rw [k2' c' z1' z3' z4']; exact f' c' z1' z2' z3' z4'
        have kg' : ∀ j', ¬ t_m87 j' → K' 87 j' = I' 87 j' := fun j' hj' => by rw [k3' j' (by omega) (by omega) (by omega) (by omega)]; exact g' j' hj'
        have e60' : h' + 1 - i' = (h' + 1 - (i' + 1)) + 1 := by omega
        rw [e60', t_fi] at j3'
        by_cases hd' : t_ds H' (va_up s' 1 (Int32.ofNat (h' - i'))) = -1
        · left
          have hm' : t_mu H' s' l' h' i' = false := by simp [t_mu, hd']
          simp (disch := omega) only [↓ce_87 hB', rf_87 hB', ↓ce_100 hB', ↓ce_101 hB', ↓nn_31, ↓nn_33, ↓nn_89, ↓nn_90, ↓nn_91, ↓nn_92, ↓nn_93, ↓nn_94, ↓nn_95, ↓nn_96, ↓nn_97, ↓nn_98, ↓nn_99, ↓nn_100, ↓nn_101, ↓nn_102, ↓nn_103, ↓nn_104, ↓nn_105, ↓nn_106, ↓nn_107, ↓nn_108, p_bs, p_rq0, p_rq1, p_rz0, p_rz1, p_us, p_un, p_uj, ↓reduceIte, l1', l2', hlt'', hlt', a1', esub, k1', e7', hd', p_ar]
          refine ⟨_, rfl, by omega, K', rfl, kf', kg', ?_⟩
          rw [← j3', hm']
          rfl
        · by_cases hwm' : t_wm H' (va_up s' 1 (Int32.ofNat (h' - i'))) < l'
          · left
            have hm' : t_mu H' s' l' h' i' = false := by simp [t_mu, hwm']
            simp (disch := omega) only [↓ce_87 hB', rf_87 hB', ↓ce_100 hB', ↓ce_101 hB', ↓nn_31, ↓nn_33, ↓nn_89, ↓nn_90, ↓nn_91, ↓nn_92, ↓nn_93, ↓nn_94, ↓nn_95, ↓nn_96, ↓nn_97, ↓nn_98, ↓nn_99, ↓nn_100, ↓nn_101, ↓nn_102, ↓nn_103, ↓nn_104, ↓nn_105, ↓nn_106, ↓nn_107, ↓nn_108, p_bs, p_rq0, p_rq1, p_rz0, p_rz1, p_us, p_un, p_uj, ↓reduceIte, l1', l2', hlt'', hlt', a1', esub, k1', e7', e8', hd', hwm', p_ar]
            refine ⟨_, rfl, by omega, K', rfl, kf', kg', ?_⟩
            rw [← j3', hm']
            rfl
          · right
            have hm' : t_mu H' s' l' h' i' = true := by simp [t_mu, hd', hwm']
            simp (disch := omega) only [↓ce_87 hB', rf_87 hB', ↓ce_100 hB', ↓ce_101 hB', ↓nn_31, ↓nn_33, ↓nn_89, ↓nn_90, ↓nn_91, ↓nn_92, ↓nn_93, ↓nn_94, ↓nn_95, ↓nn_96, ↓nn_97, ↓nn_98, ↓nn_99, ↓nn_100, ↓nn_101, ↓nn_102, ↓nn_103, ↓nn_104, ↓nn_105, ↓nn_106, ↓nn_107, ↓nn_108, p_bs, p_rq0, p_rq1, p_rz0, p_rz1, p_us, p_un, p_uj, ↓reduceIte, l1', l2', hlt'', hlt', a1', esub, k1', e7', e8', hd', hwm', p_ar]
            refine ⟨_, rfl, K', ?_, kf', kg'⟩
            rw [← j3', hm']
            rfl) (h' + 1) 0 q_fu (0, (I', X')) (by omega) (by unfold q_fu; omega) ⟨I', rfl, fun _ _ _ _ _ => rfl, fun _ _ => rfl, rfl⟩
  exact ⟨J', h1', j1', j2'⟩
end PQ'
section PQ'
variable {A' : v_A} {X' : p_X} {I' : p_I}
theorem m_madeUp (h' : v_V A' I' X') (l' : Int32) : ∃ r' I1' J' X1', F_X11_madeUp 36 l' (I', X') = some (r', (I1', X')) ∧ F_X12_madeUp 87 l' (I1', X') = some (r', (J', X1')) ∧ v_V A' J' X1' := by
  have hB' := h'.1
  obtain ⟨L', hLC', hLM'⟩ := v_law h'
  have hsc' := p_scN hLC'
  have hH' := h'.2.2.2.1
  have h18' := hH'.1
  have hin' : ∀ M' : q_Mem, F_X12_isIn l'.toInt64 0 20 M' = some (t_b (t_inr l' 21)) := fun M' => s_isInT l' 20 (by decide) 0 20 rfl rfl M'
  rcases v_t h' with ⟨hz', hR', hHW'⟩ | hz'
  · rw [hz'] at h18'
    cases hr' : t_inr l' 21
    · refine ⟨-1, I', _, X', ?_, ?_, v_thr h'⟩
      · have key' : ∀ o' : Option (Int32 × q_Mem), (if l' < 0 then some ((-1 : Int32), (I', X')) else if 20 < l' then some ((-1 : Int32), (I', X')) else o') = some (-1, (I', X')) := fun o' => by
          rw [t_if20 l' 20 20 (by decide) rfl, hr']; simp
        unfold F_X11_madeUp
        simp (disch := omega) only [↓ce_36 hB', rf_36 hB', ↓nn_38, ↓nn_40, ↓nn_45, ↓nn_50, ↓nn_52, ↓nn_53, ↓nn_54, ↓nn_56, ↓nn_58, ↓nn_64, ↓nn_67, ↓nn_68, ↓nn_84, p_bs, p_rq0, p_rq1, p_rz0, p_rz1, p_us, p_un, p_uj, ↓reduceIte, h18', t_b0, Bool.true_eq_false]
        exact key' _
      · unfold F_X12_madeUp
        simp (disch := omega) only [↓ce_87 hB', rf_87 hB', ↓nn_31, ↓nn_33, ↓nn_89, ↓nn_90, ↓nn_91, ↓nn_92, ↓nn_93, ↓nn_94, ↓nn_95, ↓nn_96, ↓nn_97, ↓nn_98, ↓nn_99, ↓nn_100, ↓nn_101, ↓nn_102, ↓nn_103, ↓nn_104, ↓nn_105, ↓nn_106, ↓nn_107, ↓nn_108, p_bs, p_rq0, p_rq1, p_rz0, p_rz1, p_us, p_un, p_uj, ↓reduceIte, (v_thr h').2.2.2.1.2.2.1.2.2.2.2, v_ng0 hHW', hin', hr', t_b0]
    · obtain ⟨n', hn', rfl⟩ := t_inrE (by decide) hr'
      have hn0' : (Int32.ofNat n' < 0) = False := by
        have := p_lt n' 0 (by omega) (by omega)
        rw [show (0 : Int32) = Int32.ofNat 0 from rfl, this]
        simp
      have hn20' : (20 < Int32.ofNat n') = False := by
        rw [show (20 : Int32) = Int32.ofNat 20 from rfl, p_lt 20 n' (by omega) (by omega)]
        apply eq_false
        omega
      obtain ⟨w1', w2', w3', w4', w5', w6'⟩ := hR'
      obtain ⟨hh', q1', q2'⟩ := id w1'.2.1
      obtain ⟨J1', a1', a2', a3'⟩ := s_copyFrom (I' := I') (k1' := 68) (k2' := 53) hB' (by omega) (by omega)
      have a2'' : ∀ c', c' ≠ 69 → J1' c' = I' c' := a2'
      have a3'' : ∀ j', j' < 31 → J1' 69 j' = I' 54 j' := a3'
      obtain ⟨I1', b1', b2'⟩ := s_madeC (I' := J1') (s' := J1' 69) hB' (t_HIk hH'.2.1 (fun c' h1' h2' => a2'' c' (by omega))) hHW' (t_WFa w1' a3'') (fun _ _ => rfl) q2' (by rw [a2'' 54 (by decide)]; exact q1') (Int32.ofNat n')
      have f' : ∀ c', c' ≠ 63 → c' ≠ 64 → c' ≠ 65 → c' ≠ p_sc X' → c' ≠ 69 → I1' c' = I' c' := fun c' z1' z2' z3' z4' z5' => by rw [b2' c' z1' z2' z5']; exact a2'' c' z5'
      have f1' : ∀ c', 70 ≤ c' → c' < 109 → I1' c' = I' c' := fun c' z1' z2' => f' c' (by omega) (by omega) (by omega) (by omega) (by omega)
      have hM1' : t_HM A'.1 (q_u2 I1' 87 0 0) := v_hm h' (by rw [p_uc _ _ _ _ _ (by decide), f1' 92 (by decide) (by decide)]) (by rw [p_uc _ _ _ _ _ (by decide), f1' 94 (by decide) (by decide)]) (by rw [p_uc _ _ _ _ _ (by decide), f1' 96 (by decide) (by decide)]) (by rw [p_uj _ _ _ _ _ (by decide), f1' 87 (by decide) (by decide)]) (by rw [p_uj _ _ _ _ _ (by decide), f1' 87 (by decide) (by decide)])
      obtain ⟨J', d1', d2', d3'⟩ := s_madeM (I' := q_u2 I1' 87 0 0) (H' := A'.1) (s' := J1' 69) hB' hM1' hHW' (t_WFa w1' a3'') (by rw [p_uc _ _ _ _ _ (by decide), f1' 100 (by decide) (by decide)]; exact t_RSa w2' a3'' (fun _ _ => rfl)) (D' := A'.2.2.1) (by rw [a3'' 0 (by decide)]; exact w3') w4' q2' (by rw [a3'' 1 (by decide)]; exact q1') (Int32.ofNat n')
      have hv' : v_V A' J' (p_T X' (X'.2.1 87 5)) := v_ask h' f' (fun c' z1' z2' z3' z4' => by rw [d2' c' z1' z2' z3' z4', p_uc _ _ _ _ _ z1']) (fun j' z1' z2' => by rw [d3' j' z1', p_uj _ _ _ _ _ z2'])
      rw [p_Ts] at hv'
      refine ⟨t_or (t_fi (t_mu A'.1 (J1' 69) (Int32.ofNat n') hh') (hh' + 1) 0), I1', J', X', ?_, ?_, hv'⟩
      · unfold F_X11_madeUp F_X2_fewestMadeUp
        simp (disch := omega) only [↓ce_36 hB', rf_36 hB', ↓ce_53 hB', rf_53 hB', ↓ce_67 hB', rf_67 hB', ↓ce_68 hB', rf_68 hB', ↓nn_38, ↓nn_40, ↓nn_45, ↓nn_50, ↓nn_52, ↓nn_53, ↓nn_54, ↓nn_55, ↓nn_56, ↓nn_58, ↓nn_64, ↓nn_67, ↓nn_68, ↓nn_69, ↓nn_70, ↓nn_71, ↓nn_72, ↓nn_73, ↓nn_84, p_bs, p_rq0, p_rq1, p_rz0, p_rz1, p_us, p_un, p_uj, ↓reduceIte, h18', t_b0, Bool.true_eq_false, hn0', hn20', a1', b1']
        cases t_fi (t_mu A'.1 (J1' 69) (Int32.ofNat n') hh') (hh' + 1) 0 <;> rfl
      · unfold F_X12_madeUp
        simp (disch := omega) only [↓ce_87 hB', rf_87 hB', ↓nn_31, ↓nn_33, ↓nn_89, ↓nn_90, ↓nn_91, ↓nn_92, ↓nn_93, ↓nn_94, ↓nn_95, ↓nn_96, ↓nn_97, ↓nn_98, ↓nn_99, ↓nn_100, ↓nn_101, ↓nn_102, ↓nn_103, ↓nn_104, ↓nn_105, ↓nn_106, ↓nn_107, ↓nn_108, p_bs, p_rq0, p_rq1, p_rz0, p_rz1, p_us, p_un, p_uj, ↓reduceIte, hM1'.2.2.2.2, v_ng0 hHW', hin', hr', t_b0, Bool.true_eq_false, d1']
        cases t_fi (t_mu A'.1 (J1' 69) (Int32.ofNat n') hh') (hh' + 1) 0 <;> rfl
  · rw [hz'] at h18'
    refine ⟨-1, I', _, X', ?_, ?_, v_thr h'⟩
    · unfold F_X11_madeUp
      simp (disch := omega) only [↓ce_36 hB', rf_36 hB', ↓nn_38, ↓nn_40, ↓nn_45, ↓nn_50, ↓nn_52, ↓nn_53, ↓nn_54, ↓nn_56, ↓nn_58, ↓nn_64, ↓nn_67, ↓nn_68, ↓nn_84, p_bs, p_rq0, p_rq1, p_rz0, p_rz1, p_us, p_un, p_uj, ↓reduceIte, h18', t_b0]
    · have := (v_thr h').2.2.2.1.2.2.1.2.2.2.2
      rw [(v_zf h' hz').2] at this
      unfold F_X12_madeUp
      simp (disch := omega) only [↓ce_87 hB', rf_87 hB', ↓nn_31, ↓nn_33, ↓nn_89, ↓nn_90, ↓nn_91, ↓nn_92, ↓nn_93, ↓nn_94, ↓nn_95, ↓nn_96, ↓nn_97, ↓nn_98, ↓nn_99, ↓nn_100, ↓nn_101, ↓nn_102, ↓nn_103, ↓nn_104, ↓nn_105, ↓nn_106, ↓nn_107, ↓nn_108, p_bs, p_rq0, p_rq1, p_rz0, p_rz1, p_us, p_un, p_uj, ↓reduceIte, this, show Int32.ofNat 0 = 0 from rfl]
end PQ'
