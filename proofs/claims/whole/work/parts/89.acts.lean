/-! the six acts: both sides -/
section PA'
variable {A' : v_A} {X' : p_X} {I' : p_I}
theorem v_hm {I1' : p_I} (h' : v_V A' I' X') (h1' : I1' 92 = I' 92) (h2' : I1' 94 = I' 94) (h3' : I1' 96 = I' 96) (h4' : I1' 87 26 = I' 87 26) (h5' : I1' 87 27 = I' 87 27) : t_HM A'.1 I1' := t_HMk h'.2.2.2.1.2.2.1 h1' h2' h3' h4' h5'
theorem v_acM {L' : t_L} {op' : Nat} {a' b' : Int32} {I1' : p_I} (h' : v_V A' I' X') (hac' : t_AC X' A'.1 L' A'.2.2.1 op' a' b' I' I1') : t_HM A'.1 (q_u2 I1' 87 0 0) ∧ I1' 100 = I' 100 ∧ I1' 87 = I' 87 ∧ p_S (q_u2 I1' 87 0 0) ∧ (∀ c', c' = 89 ∨ c' = 90 → I1' c' = I' c') := by
  obtain ⟨L0', hLC', -⟩ := v_law h'
  have hsc' := p_scN hLC'
  obtain ⟨a1', -⟩ := hac'
  have f' : ∀ c', c' ≠ 54 → c' ≠ 56 → c' ≠ 57 → c' ≠ 58 → c' ≠ 59 → c' ≠ 63 → c' ≠ 64 → c' < 109 → c' ≠ 65 → I1' c' = I' c' := fun c' z1' z2' z3' z4' z5' z6' z7' z8' z9' => a1' c' z1' z2' z3' z4' z5' z6' z7' z9' (by omega)
  have g' : ∀ c', 66 ≤ c' → c' < 109 → I1' c' = I' c' := fun c' h1' h2' => f' c' (by omega) (by omega) (by omega) (by omega) (by omega) (by omega) (by omega) (by omega) (by omega)
  refine ⟨v_hm h' ?_ ?_ ?_ ?_ ?_, g' 100 (by omega) (by omega), g' 87 (by omega) (by omega), fun c' hc' => ?_, fun c' hc' => g' c' (by omega) (by omega)⟩
  · rw [p_uc _ _ _ _ _ (by decide), g' 92 (by omega) (by omega)]
  · rw [p_uc _ _ _ _ _ (by decide), g' 94 (by omega) (by omega)]
  · rw [p_uc _ _ _ _ _ (by decide), g' 96 (by omega) (by omega)]
  · rw [p_uj _ _ _ _ _ (by decide), g' 87 (by omega) (by omega)]
  · rw [p_uj _ _ _ _ _ (by decide), g' 87 (by omega) (by omega)]
  · rw [p_uc _ _ _ _ _ (by omega), f' c' (by omega) (by omega) (by omega) (by omega) (by omega) (by omega) (by omega) (by omega) (by omega)]
    exact h'.2.1 c' hc'
theorem v_zf (h' : v_V A' I' X') (hz' : A'.2.1 = false) : t_nd A'.1 = 0 ∧ t_ng A'.1 = 0 := h'.2.2.2.1.2.2.2.2 hz'
theorem v_t (h' : v_V A' I' X') : (A'.2.1 = true ∧ v_R A'.1 (I' 54) (I' 100) (I' 59) A'.2.2.1 ∧ t_HW A'.1) ∨ A'.2.1 = false := by
  cases hz' : A'.2.1
  · exact .inr rfl
  · exact .inl ⟨rfl, h'.2.2.2.2.1.1 hz', h'.2.2.2.1.2.2.2.1 hz'⟩
theorem v_SCM {J' : p_I} (h' : v_V A' I' X') (hs' : t_SC X' I' J') : t_HM A'.1 (q_u2 J' 87 0 0) ∧ J' 100 = I' 100 ∧ J' 54 = I' 54 ∧ v_V A' (q_u2 J' 87 0 0) X' := by
  obtain ⟨s1', s2', s3', s4', s5', s6'⟩ := id hs'
  refine ⟨v_hm h' ?_ ?_ ?_ ?_ ?_, s1' 100 (by omega) (by omega), s1' 54 (by omega) (by omega), v_thr (v_keep0 h' hs')⟩
  · rw [p_uc _ _ _ _ _ (by decide), s1' 92 (by omega) (by omega)]
  · rw [p_uc _ _ _ _ _ (by decide), s1' 94 (by omega) (by omega)]
  · rw [p_uc _ _ _ _ _ (by decide), s1' 96 (by omega) (by omega)]
  · rw [p_uj _ _ _ _ _ (by decide), s3' 26 (by omega) (by omega) (by omega) (by omega) (by omega) (by omega) (by omega)]
  · rw [p_uj _ _ _ _ _ (by decide), s3' 27 (by omega) (by omega) (by omega) (by omega) (by omega) (by omega) (by omega)]
theorem v_ng0 (hW' : t_HW A'.1) : (Int32.ofNat (t_ng A'.1) = 0) = False := by
  have h3' := hW'.2.2.1
  have h4' := hW'.2.2.2.1
  apply eq_false
  intro h'
  have := p_inj (show Int32.ofNat (t_ng A'.1) = Int32.ofNat 0 from h') (by omega) (by omega)
  omega
theorem m_ill (h' : v_V A' I' X') : ∃ r' I1' J' X1', F_X11_ill 36 (I', X') = some (r', (I1', X1')) ∧ F_X12_ill 87 (I1', X1') = some (r', (J', X1')) ∧ v_V A' J' X1' := by
  have hB' := h'.1
  rcases v_t h' with ⟨hz', hR', hHW'⟩ | hz'
  · obtain ⟨L', J', hLM', a1', a2', a3'⟩ := s_act h' hz' 2 (by decide) (-1) (-1)
    have a1'' : F_X11_act 36 2 (-1) (-1) (I', X') = some (t_b (t_can A'.1 (I' 54) 2 (-1) (-1)), (J', X')) := a1'
    cases hcan : t_can A'.1 (I' 54) 2 (-1) (-1)
    · obtain ⟨g1', g2', g3', g4'⟩ := v_SCM h' (a2' hcan)
      have hc' := s_canBeIll (H' := A'.1) (I' := q_u2 J' 87 0 0) hB' (.inl rfl) (by rw [p_uc _ _ _ _ _ (by decide), g2']; exact hR'.2.1) (-1) (-1)
      refine ⟨-1, J', _, X', ?_, ?_, g4'⟩
      · unfold F_X11_ill
        simp (disch := omega) only [↓ce_36 hB', rf_36 hB', ↓nn_38, ↓nn_40, ↓nn_45, ↓nn_50, ↓nn_52, ↓nn_53, ↓nn_54, ↓nn_56, ↓nn_58, ↓nn_64, ↓nn_67, ↓nn_68, ↓nn_84, p_bs, p_rq0, p_rq1, p_rz0, p_rz1, p_us, p_un, p_uj, ↓reduceIte, a1'', hcan, t_b0]
      · unfold F_X12_ill
        simp (disch := omega) only [↓ce_87 hB', rf_87 hB', ↓nn_31, ↓nn_33, ↓nn_89, ↓nn_90, ↓nn_91, ↓nn_92, ↓nn_93, ↓nn_94, ↓nn_95, ↓nn_96, ↓nn_97, ↓nn_98, ↓nn_99, ↓nn_100, ↓nn_101, ↓nn_102, ↓nn_103, ↓nn_104, ↓nn_105, ↓nn_106, ↓nn_107, ↓nn_108, p_bs, p_rq0, p_rq1, p_rz0, p_rz1, p_us, p_un, p_uj, ↓reduceIte, g1'.2.2.2.2, v_ng0 hHW', hc', hcan, t_b0]
    · have hac' := a3' hcan
      obtain ⟨g1', g2', g3', g4', g5'⟩ := v_acM h' hac'
      have hc' := s_canBeIll (H' := A'.1) (I' := q_u2 J' 87 0 0) hB' (.inl rfl) (by rw [p_uc _ _ _ _ _ (by decide), g2']; exact hR'.2.1) (-1) (-1)
      obtain ⟨I2', b1', b2'⟩ := s_rem (I1' := q_u2 J' 87 0 0) h' (by rw [p_uj _ _ _ _ _ (by decide), g3'])
      have e100 : I2' 100 = I' 100 := by rw [b2'.1 100 (by decide) (by decide), p_uc _ _ _ _ _ (by decide), g2']
      have e1' : I' 100 32 = I' 54 1 := hR'.2.1.1.2.1
      have e2' : J' 54 1 = I' 54 1 + 1 := by rw [hac'.2.1]; rfl
      refine ⟨I' 54 1 + 1, J', q_u2 I2' 100 32 (I' 54 1 + 1), X', ?_, ?_, v_done h' hz' 2 (by decide) (by decide) (-1) (-1) hcan hac' b2' (fun c' hc' => p_uc _ _ _ _ _ hc') ?_⟩
      · unfold F_X11_ill
        simp (disch := omega) only [↓ce_36 hB', rf_36 hB', ↓ce_53 hB', rf_53 hB', ↓ce_54 hB', ↓nn_38, ↓nn_40, ↓nn_45, ↓nn_50, ↓nn_52, ↓nn_53, ↓nn_54, ↓nn_55, ↓nn_56, ↓nn_58, ↓nn_64, ↓nn_67, ↓nn_68, ↓nn_84, p_bs, p_rq0, p_rq1, p_rz0, p_rz1, p_us, p_un, p_uj, ↓reduceIte, a1'', hcan, t_b0, Bool.true_eq_false, e2']
      · unfold F_X12_ill
        simp (disch := omega) only [↓ce_87 hB', rf_87 hB', ↓ce_100 hB', ↓nn_31, ↓nn_33, ↓nn_89, ↓nn_90, ↓nn_91, ↓nn_92, ↓nn_93, ↓nn_94, ↓nn_95, ↓nn_96, ↓nn_97, ↓nn_98, ↓nn_99, ↓nn_100, ↓nn_101, ↓nn_102, ↓nn_103, ↓nn_104, ↓nn_105, ↓nn_106, ↓nn_107, ↓nn_108, p_bs, p_rq0, p_rq1, p_rz0, p_rz1, p_us, p_un, p_uj, ↓reduceIte, g1'.2.2.2.2, v_ng0 hHW', hc', hcan, t_b0, Bool.true_eq_false, b1', e100, e1']
      · rw [p_ur, e100]
        unfold t_dw
        rw [e1']
        rfl
  · refine ⟨-1, I', _, X', ?_, ?_, v_thr h'⟩
    · unfold F_X11_ill
      simp (disch := omega) only [↓ce_36 hB', rf_36 hB', ↓nn_38, ↓nn_40, ↓nn_45, ↓nn_50, ↓nn_52, ↓nn_53, ↓nn_54, ↓nn_56, ↓nn_58, ↓nn_64, ↓nn_67, ↓nn_68, ↓nn_84, p_bs, p_rq0, p_rq1, p_rz0, p_rz1, p_us, p_un, p_uj, ↓reduceIte, s_act0 h' hz']
    · have := (v_thr h').2.2.2.1.2.2.1.2.2.2.2
      rw [(v_zf h' hz').2] at this
      unfold F_X12_ill
      simp (disch := omega) only [↓ce_87 hB', rf_87 hB', ↓nn_31, ↓nn_33, ↓nn_89, ↓nn_90, ↓nn_91, ↓nn_92, ↓nn_93, ↓nn_94, ↓nn_95, ↓nn_96, ↓nn_97, ↓nn_98, ↓nn_99, ↓nn_100, ↓nn_101, ↓nn_102, ↓nn_103, ↓nn_104, ↓nn_105, ↓nn_106, ↓nn_107, ↓nn_108, p_bs, p_rq0, p_rq1, p_rz0, p_rz1, p_us, p_un, p_uj, ↓reduceIte, this, show Int32.ofNat 0 = 0 from rfl]
theorem m_makeUp (h' : v_V A' I' X') : ∃ r' I1' J' X1', F_X11_makeUp 36 (I', X') = some (r', (I1', X1')) ∧ F_X12_makeUp 87 (I1', X1') = some (r', (J', X1')) ∧ v_V A' J' X1' := by
  have hB' := h'.1
  rcases v_t h' with ⟨hz', hR', hHW'⟩ | hz'
  · obtain ⟨L', J', hLM', a1', a2', a3'⟩ := s_act h' hz' 3 (by decide) (-1) (-1)
    have a1'' : F_X11_act 36 3 (-1) (-1) (I', X') = some (t_b (t_can A'.1 (I' 54) 3 (-1) (-1)), (J', X')) := a1'
    cases hcan : t_can A'.1 (I' 54) 3 (-1) (-1)
    · obtain ⟨g1', g2', g3', g4'⟩ := v_SCM h' (a2' hcan)
      have hc' := s_canMakeUp (H' := A'.1) (I' := q_u2 J' 87 0 0) hB' (.inl rfl) (by rw [p_uc _ _ _ _ _ (by decide), g2']; exact hR'.2.1) (-1) (-1)
      refine ⟨-1, J', _, X', ?_, ?_, g4'⟩
      · unfold F_X11_makeUp
        simp (disch := omega) only [↓ce_36 hB', rf_36 hB', ↓nn_38, ↓nn_40, ↓nn_45, ↓nn_50, ↓nn_52, ↓nn_53, ↓nn_54, ↓nn_56, ↓nn_58, ↓nn_64, ↓nn_67, ↓nn_68, ↓nn_84, p_bs, p_rq0, p_rq1, p_rz0, p_rz1, p_us, p_un, p_uj, ↓reduceIte, a1'', hcan, t_b0]
      · unfold F_X12_makeUp
        simp (disch := omega) only [↓ce_87 hB', rf_87 hB', ↓nn_31, ↓nn_33, ↓nn_89, ↓nn_90, ↓nn_91, ↓nn_92, ↓nn_93, ↓nn_94, ↓nn_95, ↓nn_96, ↓nn_97, ↓nn_98, ↓nn_99, ↓nn_100, ↓nn_101, ↓nn_102, ↓nn_103, ↓nn_104, ↓nn_105, ↓nn_106, ↓nn_107, ↓nn_108, p_bs, p_rq0, p_rq1, p_rz0, p_rz1, p_us, p_un, p_uj, ↓reduceIte, g1'.2.2.2.2, v_ng0 hHW', hc', hcan, t_b0]
    · have hac' := a3' hcan
      obtain ⟨g1', g2', g3', g4', g5'⟩ := v_acM h' hac'
      have hc' := s_canMakeUp (H' := A'.1) (I' := q_u2 J' 87 0 0) hB' (.inl rfl) (by rw [p_uc _ _ _ _ _ (by decide), g2']; exact hR'.2.1) (-1) (-1)
      obtain ⟨I2', b1', b2'⟩ := s_rem (I1' := q_u2 J' 87 0 0) h' (by rw [p_uj _ _ _ _ _ (by decide), g3'])
      have e100 : I2' 100 = I' 100 := by rw [b2'.1 100 (by decide) (by decide), p_uc _ _ _ _ _ (by decide), g2']
      have e1' : I' 100 32 = I' 54 1 := hR'.2.1.1.2.1
      have e2' : J' 54 1 = I' 54 1 - 1 := by rw [hac'.2.1]; rfl
      refine ⟨I' 54 1 - 1, J', q_u2 (q_u2 I2' 100 32 (I' 54 1 - 1)) 100 33 (I' 100 33 - 5), X', ?_, ?_, v_done h' hz' 3 (by decide) (by decide) (-1) (-1) hcan hac' b2' (fun c' hc' => by rw [p_uc _ _ _ _ _ hc', p_uc _ _ _ _ _ hc']) ?_⟩
      · unfold F_X11_makeUp
        simp (disch := omega) only [↓ce_36 hB', rf_36 hB', ↓ce_53 hB', rf_53 hB', ↓ce_54 hB', ↓nn_38, ↓nn_40, ↓nn_45, ↓nn_50, ↓nn_52, ↓nn_53, ↓nn_54, ↓nn_55, ↓nn_56, ↓nn_58, ↓nn_64, ↓nn_67, ↓nn_68, ↓nn_84, p_bs, p_rq0, p_rq1, p_rz0, p_rz1, p_us, p_un, p_uj, ↓reduceIte, a1'', hcan, t_b0, Bool.true_eq_false, e2']
      · unfold F_X12_makeUp F_X12_makesUp
        simp (disch := omega) only [↓ce_87 hB', rf_87 hB', ↓ce_100 hB', ↓nn_31, ↓nn_33, ↓nn_89, ↓nn_90, ↓nn_91, ↓nn_92, ↓nn_93, ↓nn_94, ↓nn_95, ↓nn_96, ↓nn_97, ↓nn_98, ↓nn_99, ↓nn_100, ↓nn_101, ↓nn_102, ↓nn_103, ↓nn_104, ↓nn_105, ↓nn_106, ↓nn_107, ↓nn_108, p_bs, p_rq0, p_rq1, p_rz0, p_rz1, p_us, p_un, p_uj, ↓reduceIte, g1'.2.2.2.2, v_ng0 hHW', hc', hcan, t_b0, Bool.true_eq_false, b1', e100, e1']
      · rw [p_ur, p_ur, e100]
        unfold t_dw
        rw [e1']
        rfl
  · refine ⟨-1, I', _, X', ?_, ?_, v_thr h'⟩
    · unfold F_X11_makeUp
      simp (disch := omega) only [↓ce_36 hB', rf_36 hB', ↓nn_38, ↓nn_40, ↓nn_45, ↓nn_50, ↓nn_52, ↓nn_53, ↓nn_54, ↓nn_56, ↓nn_58, ↓nn_64, ↓nn_67, ↓nn_68, ↓nn_84, p_bs, p_rq0, p_rq1, p_rz0, p_rz1, p_us, p_un, p_uj, ↓reduceIte, s_act0 h' hz']
    · have := (v_thr h').2.2.2.1.2.2.1.2.2.2.2
      rw [(v_zf h' hz').2] at this
      unfold F_X12_makeUp
      simp (disch := omega) only [↓ce_87 hB', rf_87 hB', ↓nn_31, ↓nn_33, ↓nn_89, ↓nn_90, ↓nn_91, ↓nn_92, ↓nn_93, ↓nn_94, ↓nn_95, ↓nn_96, ↓nn_97, ↓nn_98, ↓nn_99, ↓nn_100, ↓nn_101, ↓nn_102, ↓nn_103, ↓nn_104, ↓nn_105, ↓nn_106, ↓nn_107, ↓nn_108, p_bs, p_rq0, p_rq1, p_rz0, p_rz1, p_us, p_un, p_uj, ↓reduceIte, this, show Int32.ofNat 0 = 0 from rfl]
theorem m_choose (h' : v_V A' I' X') (a' : Int32) : ∃ r' I1' J' X1', F_X11_choose 36 a' (I', X') = some (r', (I1', X1')) ∧ F_X12_choose 87 a' (I1', X1') = some (r', (J', X1')) ∧ v_V A' J' X1' := by
  have hB' := h'.1
  rcases v_t h' with ⟨hz', hR', hHW'⟩ | hz'
  · obtain ⟨L', J', hLM', a1', a2', a3'⟩ := s_act h' hz' 1 (by decide) a' (-1)
    have a1'' : F_X11_act 36 1 a' (-1) (I', X') = some (t_b (t_can A'.1 (I' 54) 1 a' (-1)), (J', X')) := a1'
    cases hcan : t_can A'.1 (I' 54) 1 a' (-1)
    · obtain ⟨g1', g2', g3', g4'⟩ := v_SCM h' (a2' hcan)
      have hc' := s_canChoose (I' := q_u2 J' 87 0 0) hB' g1' (.inl rfl) (by rw [p_uc _ _ _ _ _ (by decide), g2']; exact hR'.2.1) a' (-1)
      refine ⟨-2, J', _, X', ?_, ?_, g4'⟩
      · unfold F_X11_choose
        simp (disch := omega) only [↓ce_36 hB', rf_36 hB', ↓ce_53 hB', rf_53 hB', ↓ce_54 hB', ↓nn_38, ↓nn_40, ↓nn_45, ↓nn_50, ↓nn_52, ↓nn_53, ↓nn_54, ↓nn_55, ↓nn_56, ↓nn_58, ↓nn_64, ↓nn_67, ↓nn_68, ↓nn_84, p_bs, p_rq0, p_rq1, p_rz0, p_rz1, p_us, p_un, p_uj, ↓reduceIte, a1'', hcan, t_b0]
      · unfold F_X12_choose
        simp (disch := omega) only [↓ce_87 hB', rf_87 hB', ↓nn_31, ↓nn_33, ↓nn_89, ↓nn_90, ↓nn_91, ↓nn_92, ↓nn_93, ↓nn_94, ↓nn_95, ↓nn_96, ↓nn_97, ↓nn_98, ↓nn_99, ↓nn_100, ↓nn_101, ↓nn_102, ↓nn_103, ↓nn_104, ↓nn_105, ↓nn_106, ↓nn_107, ↓nn_108, p_bs, p_rq0, p_rq1, p_rz0, p_rz1, p_us, p_un, p_uj, ↓reduceIte, hc', hcan, t_b0]
    · have hac' := a3' hcan
      obtain ⟨g1', g2', g3', g4', g5'⟩ := v_acM h' hac'
      have hc' := s_canChoose (I' := q_u2 J' 87 0 0) hB' g1' (.inl rfl) (by rw [p_uc _ _ _ _ _ (by decide), g2']; exact hR'.2.1) a' (-1)
      obtain ⟨I2', b1', b2'⟩ := s_rem (I1' := q_u2 J' 87 0 0) h' (by rw [p_uj _ _ _ _ _ (by decide), g3'])
      have e100 : I2' 100 = I' 100 := by rw [b2'.1 100 (by decide) (by decide), p_uc _ _ _ _ _ (by decide), g2']
      have e1' : I' 100 34 = I' 54 3 + 1 := hR'.2.1.1.2.2.1
      refine ⟨I' 54 3, J', q_u2 I2' 100 34 (a' + 1), X', ?_, ?_, v_done h' hz' 1 (by decide) (by decide) a' (-1) hcan hac' b2' (fun c' hc' => p_uc _ _ _ _ _ hc') ?_⟩
      · unfold F_X11_choose
        simp (disch := omega) only [↓ce_36 hB', rf_36 hB', ↓ce_53 hB', rf_53 hB', ↓ce_54 hB', ↓nn_38, ↓nn_40, ↓nn_45, ↓nn_50, ↓nn_52, ↓nn_53, ↓nn_54, ↓nn_55, ↓nn_56, ↓nn_58, ↓nn_64, ↓nn_67, ↓nn_68, ↓nn_84, p_bs, p_rq0, p_rq1, p_rz0, p_rz1, p_us, p_un, p_uj, ↓reduceIte, a1'', hcan, t_b0, Bool.true_eq_false]
      · unfold F_X12_choose
        simp (disch := omega) only [↓ce_87 hB', rf_87 hB', ↓ce_100 hB', ↓nn_31, ↓nn_33, ↓nn_89, ↓nn_90, ↓nn_91, ↓nn_92, ↓nn_93, ↓nn_94, ↓nn_95, ↓nn_96, ↓nn_97, ↓nn_98, ↓nn_99, ↓nn_100, ↓nn_101, ↓nn_102, ↓nn_103, ↓nn_104, ↓nn_105, ↓nn_106, ↓nn_107, ↓nn_108, p_bs, p_rq0, p_rq1, p_rz0, p_rz1, p_us, p_un, p_uj, ↓reduceIte, hc', hcan, t_b0, Bool.true_eq_false, b1', e100, e1', Int32.add_sub_cancel]
      · rw [p_ur]
        rfl
  · refine ⟨-2, I', _, X', ?_, ?_, v_thr h'⟩
    · unfold F_X11_choose
      simp (disch := omega) only [↓ce_36 hB', rf_36 hB', ↓ce_53 hB', rf_53 hB', ↓ce_54 hB', ↓nn_38, ↓nn_40, ↓nn_45, ↓nn_50, ↓nn_52, ↓nn_53, ↓nn_54, ↓nn_55, ↓nn_56, ↓nn_58, ↓nn_64, ↓nn_67, ↓nn_68, ↓nn_84, p_bs, p_rq0, p_rq1, p_rz0, p_rz1, p_us, p_un, p_uj, ↓reduceIte, s_act0 h' hz']
    · have hd' := s_isDish hB' (v_thr h').2.2.2.1.2.2.1 a'
      rw [(v_zf h' hz').1, t_inr0] at hd'
      unfold F_X12_choose F_X12_canChoose
      simp (disch := omega) only [↓ce_87 hB', rf_87 hB', ↓nn_31, ↓nn_33, ↓nn_89, ↓nn_90, ↓nn_91, ↓nn_92, ↓nn_93, ↓nn_94, ↓nn_95, ↓nn_96, ↓nn_97, ↓nn_98, ↓nn_99, ↓nn_100, ↓nn_101, ↓nn_102, ↓nn_103, ↓nn_104, ↓nn_105, ↓nn_106, ↓nn_107, ↓nn_108, p_bs, p_rq0, p_rq1, p_rz0, p_rz1, p_us, p_un, p_uj, ↓reduceIte, hd', t_b0]
theorem m_stay (h' : v_V A' I' X') (a' b' : Int32) : ∃ r' I1' J' X1', F_X11_stay 36 a' b' (I', X') = some (r', (I1', X1')) ∧ F_X12_stay 87 a' b' (I1', X1') = some (r', (J', X1')) ∧ v_V A' J' X1' := by
  have hB' := h'.1
  rcases v_t h' with ⟨hz', hR', hHW'⟩ | hz'
  · have hng' := hHW'.2.2.2.1
    obtain ⟨L', J', hLM', a1', a2', a3'⟩ := s_act h' hz' 4 (by decide) a' b'
    have a1'' : F_X11_act 36 4 a' b' (I', X') = some (t_b (t_can A'.1 (I' 54) 4 a' b'), (J', X')) := a1'
    cases hcan : t_can A'.1 (I' 54) 4 a' b'
    · obtain ⟨g1', g2', g3', g4'⟩ := v_SCM h' (a2' hcan)
      have hc' := s_canStay (I' := q_u2 J' 87 0 0) hB' g1' hng' (.inl rfl) (by rw [p_uc _ _ _ _ _ (by decide), g2']; exact hR'.2.1) a' b'
      refine ⟨-1, J', _, X', ?_, ?_, g4'⟩
      · unfold F_X11_stay
        simp (disch := omega) only [↓ce_36 hB', rf_36 hB', ↓nn_38, ↓nn_40, ↓nn_45, ↓nn_50, ↓nn_52, ↓nn_53, ↓nn_54, ↓nn_56, ↓nn_58, ↓nn_64, ↓nn_67, ↓nn_68, ↓nn_84, p_bs, p_rq0, p_rq1, p_rz0, p_rz1, p_us, p_un, p_uj, ↓reduceIte, a1'', hcan, t_b0]
      · unfold F_X12_stay
        simp (disch := omega) only [↓ce_87 hB', rf_87 hB', ↓nn_31, ↓nn_33, ↓nn_89, ↓nn_90, ↓nn_91, ↓nn_92, ↓nn_93, ↓nn_94, ↓nn_95, ↓nn_96, ↓nn_97, ↓nn_98, ↓nn_99, ↓nn_100, ↓nn_101, ↓nn_102, ↓nn_103, ↓nn_104, ↓nn_105, ↓nn_106, ↓nn_107, ↓nn_108, p_bs, p_rq0, p_rq1, p_rz0, p_rz1, p_us, p_un, p_uj, ↓reduceIte, hc', hcan, t_b0]
    · have hac' := a3' hcan
      obtain ⟨g1', g2', g3', g4', g5'⟩ := v_acM h' hac'
      have hc' := s_canStay (I' := q_u2 J' 87 0 0) hB' g1' hng' (.inl rfl) (by rw [p_uc _ _ _ _ _ (by decide), g2']; exact hR'.2.1) a' b'
      obtain ⟨I2', b1', b2'⟩ := s_rem (I1' := q_u2 J' 87 0 0) h' (by rw [p_uj _ _ _ _ _ (by decide), g3'])
      have e100 : I2' 100 = I' 100 := by rw [b2'.1 100 (by decide) (by decide), p_uc _ _ _ _ _ (by decide), g2']
      obtain ⟨g', m', c1', rfl, c3', c4', c5', c6', c7', c8'⟩ := t_can4 hcan hng'
      have e1' : I' 100 (4 * g') = I' 54 (13 + g') := (hR'.2.1.1.1 g' (by omega)).1
      have e2' : J' 54 (13 + g') = I' 54 (13 + g') + b' := by
        rw [hac'.2.1]
        unfold t_do
        rw [c3']
        exact p_vs _ _ _
      refine ⟨I' 54 (13 + g') + b', J', q_u2 I2' 100 (4 * g') (I' 54 (13 + g') + b'), X', ?_, ?_, v_done h' hz' 4 (by decide) (by decide) _ b' hcan hac' b2' (fun c' hc' => p_uc _ _ _ _ _ hc') ?_⟩
      · unfold F_X11_stay
        simp (disch := omega) only [↓ce_36 hB', rf_36 hB', ↓ce_53 hB', rf_53 hB', ↓ce_54 hB', ↓nn_38, ↓nn_40, ↓nn_45, ↓nn_50, ↓nn_52, ↓nn_53, ↓nn_54, ↓nn_55, ↓nn_56, ↓nn_58, ↓nn_64, ↓nn_67, ↓nn_68, ↓nn_84, p_bs, p_rq0, p_rq1, p_rz0, p_rz1, p_us, p_un, p_uj, ↓reduceIte, a1'', hcan, t_b0, Bool.true_eq_false, p_ar, e2']
      · unfold F_X12_stay
        simp (disch := omega) only [↓ce_87 hB', rf_87 hB', ↓ce_100 hB', ↓nn_31, ↓nn_33, ↓nn_89, ↓nn_90, ↓nn_91, ↓nn_92, ↓nn_93, ↓nn_94, ↓nn_95, ↓nn_96, ↓nn_97, ↓nn_98, ↓nn_99, ↓nn_100, ↓nn_101, ↓nn_102, ↓nn_103, ↓nn_104, ↓nn_105, ↓nn_106, ↓nn_107, ↓nn_108, p_bs, p_rq0, p_rq1, p_rz0, p_rz1, p_us, p_un, p_uj, ↓reduceIte, hc', hcan, t_b0, Bool.true_eq_false, b1', e100, p_ar, Nat.add_zero, e1']
      · rw [p_ur, e100]
        unfold t_dw
        rw [c3', ← e1']
        rfl
  · refine ⟨-1, I', _, X', ?_, ?_, v_thr h'⟩
    · unfold F_X11_stay
      simp (disch := omega) only [↓ce_36 hB', rf_36 hB', ↓nn_38, ↓nn_40, ↓nn_45, ↓nn_50, ↓nn_52, ↓nn_53, ↓nn_54, ↓nn_56, ↓nn_58, ↓nn_64, ↓nn_67, ↓nn_68, ↓nn_84, p_bs, p_rq0, p_rq1, p_rz0, p_rz1, p_us, p_un, p_uj, ↓reduceIte, s_act0 h' hz']
    · have hd' := s_isGuest hB' (v_thr h').2.2.2.1.2.2.1 a'
      rw [(v_zf h' hz').2, t_inr0] at hd'
      unfold F_X12_stay F_X12_canStay
      simp (disch := omega) only [↓ce_87 hB', rf_87 hB', ↓nn_31, ↓nn_33, ↓nn_89, ↓nn_90, ↓nn_91, ↓nn_92, ↓nn_93, ↓nn_94, ↓nn_95, ↓nn_96, ↓nn_97, ↓nn_98, ↓nn_99, ↓nn_100, ↓nn_101, ↓nn_102, ↓nn_103, ↓nn_104, ↓nn_105, ↓nn_106, ↓nn_107, ↓nn_108, p_bs, p_rq0, p_rq1, p_rz0, p_rz1, p_us, p_un, p_uj, ↓reduceIte, hd', t_b0]
theorem m_sign (h' : v_V A' I' X') (a' b' : Int32) : ∃ r' I1' J' X1', F_X11_sign 36 a' b' (I', X') = some (r', (I1', X1')) ∧ F_X12_sign 87 a' b' (I1', X1') = some (r', (J', X1')) ∧ v_V A' J' X1' := by
  have hB' := h'.1
  have h4' : ∀ M' : q_Mem, F_X12_isIn b'.toInt64 0 3 M' = some (t_b (t_inr b' 4)) := fun M' => s_isInT b' 3 (by decide) 0 3 rfl rfl M'
  rcases v_t h' with ⟨hz', hR', hHW'⟩ | hz'
  · have hng' := hHW'.2.2.2.1
    obtain ⟨L', J', hLM', a1', a2', a3'⟩ := s_act h' hz' 5 (by decide) a' b'
    have a1'' : F_X11_act 36 5 a' b' (I', X') = some (t_b (t_can A'.1 (I' 54) 5 a' b'), (J', X')) := a1'
    cases hcan : t_can A'.1 (I' 54) 5 a' b'
    · obtain ⟨g1', g2', g3', g4'⟩ := v_SCM h' (a2' hcan)
      have hg' := s_isGuest (I' := q_u2 J' 87 0 0) hB' g1' a'
      refine ⟨-1, J', _, X', ?_, ?_, g4'⟩
      · unfold F_X11_sign
        simp (disch := omega) only [↓ce_36 hB', rf_36 hB', ↓nn_38, ↓nn_40, ↓nn_45, ↓nn_50, ↓nn_52, ↓nn_53, ↓nn_54, ↓nn_56, ↓nn_58, ↓nn_64, ↓nn_67, ↓nn_68, ↓nn_84, p_bs, p_rq0, p_rq1, p_rz0, p_rz1, p_us, p_un, p_uj, ↓reduceIte, a1'', hcan, t_b0]
      · unfold F_X12_sign
        cases hr' : t_inr a' (t_ng A'.1)
        · simp (disch := omega) only [↓ce_87 hB', rf_87 hB', ↓nn_31, ↓nn_33, ↓nn_89, ↓nn_90, ↓nn_91, ↓nn_92, ↓nn_93, ↓nn_94, ↓nn_95, ↓nn_96, ↓nn_97, ↓nn_98, ↓nn_99, ↓nn_100, ↓nn_101, ↓nn_102, ↓nn_103, ↓nn_104, ↓nn_105, ↓nn_106, ↓nn_107, ↓nn_108, p_bs, p_rq0, p_rq1, p_rz0, p_rz1, p_us, p_un, p_uj, ↓reduceIte, hg', hr', t_b0]
        · cases hb' : t_inr b' 4
          · simp (disch := omega) only [↓ce_87 hB', rf_87 hB', ↓nn_31, ↓nn_33, ↓nn_89, ↓nn_90, ↓nn_91, ↓nn_92, ↓nn_93, ↓nn_94, ↓nn_95, ↓nn_96, ↓nn_97, ↓nn_98, ↓nn_99, ↓nn_100, ↓nn_101, ↓nn_102, ↓nn_103, ↓nn_104, ↓nn_105, ↓nn_106, ↓nn_107, ↓nn_108, p_bs, p_rq0, p_rq1, p_rz0, p_rz1, p_us, p_un, p_uj, ↓reduceIte, hg', hr', t_b0, h4', hb', Bool.true_eq_false]
          · obtain ⟨g', hgl', rfl⟩ := t_inrE (by omega) hr'
            have e1' : I' 100 (4 * g' + 1) = I' 54 (19 + g') := (hR'.2.1.1.1 g' (by omega)).2.1
            have e2' : I' 54 (19 + g') = b' := by
              simp only [t_can, hr', hb', Bool.true_and, p_nat g' (by omega), Bool.not_eq_false', decide_eq_true_eq] at hcan
              exact hcan
            simp (disch := omega) only [↓ce_87 hB', rf_87 hB', ↓ce_100 hB', ↓nn_31, ↓nn_33, ↓nn_89, ↓nn_90, ↓nn_91, ↓nn_92, ↓nn_93, ↓nn_94, ↓nn_95, ↓nn_96, ↓nn_97, ↓nn_98, ↓nn_99, ↓nn_100, ↓nn_101, ↓nn_102, ↓nn_103, ↓nn_104, ↓nn_105, ↓nn_106, ↓nn_107, ↓nn_108, p_bs, p_rq0, p_rq1, p_rz0, p_rz1, p_us, p_un, p_uj, ↓reduceIte, hg', hr', t_b0, h4', hb', Bool.true_eq_false, p_ar, g2', e1', e2']
    · have hac' := a3' hcan
      obtain ⟨g1', g2', g3', g4', g5'⟩ := v_acM h' hac'
      have hg' := s_isGuest (I' := q_u2 J' 87 0 0) hB' g1' a'
      obtain ⟨I2', b1', b2'⟩ := s_rem (I1' := q_u2 J' 87 0 0) h' (by rw [p_uj _ _ _ _ _ (by decide), g3'])
      have e100 : I2' 100 = I' 100 := by rw [b2'.1 100 (by decide) (by decide), p_uc _ _ _ _ _ (by decide), g2']
      obtain ⟨g', c1', rfl, c3', c4', c5'⟩ := t_can5 hcan hng'
      have hr' : t_inr (Int32.ofNat g') (t_ng A'.1) = true := by
        simp only [t_can, Bool.and_eq_true] at hcan
        exact hcan.1.1
      have e1' : I' 100 (4 * g' + 1) = I' 54 (19 + g') := (hR'.2.1.1.1 g' (by omega)).2.1
      have e2' : J' 56 (19 + g') = I' 54 (19 + g') := hac'.2.2.1 _ (by omega)
      refine ⟨I' 54 (19 + g'), J', q_u2 I2' 100 (4 * g' + 1) b', X', ?_, ?_, v_done h' hz' 5 (by decide) (by decide) _ b' hcan hac' b2' (fun c' hc' => p_uc _ _ _ _ _ hc') ?_⟩
      · unfold F_X11_sign
        simp (disch := omega) only [↓ce_36 hB', rf_36 hB', ↓ce_55 hB', rf_55 hB', ↓ce_56 hB', ↓nn_38, ↓nn_40, ↓nn_45, ↓nn_50, ↓nn_52, ↓nn_53, ↓nn_54, ↓nn_56, ↓nn_57, ↓nn_58, ↓nn_64, ↓nn_67, ↓nn_68, ↓nn_84, p_bs, p_rq0, p_rq1, p_rz0, p_rz1, p_us, p_un, p_uj, ↓reduceIte, a1'', hcan, t_b0, Bool.true_eq_false, p_ar, e2']
      · unfold F_X12_sign
        simp (disch := omega) only [↓ce_87 hB', rf_87 hB', ↓ce_100 hB', ↓nn_31, ↓nn_33, ↓nn_89, ↓nn_90, ↓nn_91, ↓nn_92, ↓nn_93, ↓nn_94, ↓nn_95, ↓nn_96, ↓nn_97, ↓nn_98, ↓nn_99, ↓nn_100, ↓nn_101, ↓nn_102, ↓nn_103, ↓nn_104, ↓nn_105, ↓nn_106, ↓nn_107, ↓nn_108, p_bs, p_rq0, p_rq1, p_rz0, p_rz1, p_us, p_un, p_uj, ↓reduceIte, hg', hr', h4', c4', t_b0, Bool.true_eq_false, g2', e100, b1', p_ar, e1', c5']
      · rw [p_ur]
        unfold t_dw
        rw [c3']
        rfl
  · refine ⟨-1, I', _, X', ?_, ?_, v_thr h'⟩
    · unfold F_X11_sign
      simp (disch := omega) only [↓ce_36 hB', rf_36 hB', ↓nn_38, ↓nn_40, ↓nn_45, ↓nn_50, ↓nn_52, ↓nn_53, ↓nn_54, ↓nn_56, ↓nn_58, ↓nn_64, ↓nn_67, ↓nn_68, ↓nn_84, p_bs, p_rq0, p_rq1, p_rz0, p_rz1, p_us, p_un, p_uj, ↓reduceIte, s_act0 h' hz']
    · have hd' := s_isGuest hB' (v_thr h').2.2.2.1.2.2.1 a'
      rw [(v_zf h' hz').2, t_inr0] at hd'
      unfold F_X12_sign
      simp (disch := omega) only [↓ce_87 hB', rf_87 hB', ↓nn_31, ↓nn_33, ↓nn_89, ↓nn_90, ↓nn_91, ↓nn_92, ↓nn_93, ↓nn_94, ↓nn_95, ↓nn_96, ↓nn_97, ↓nn_98, ↓nn_99, ↓nn_100, ↓nn_101, ↓nn_102, ↓nn_103, ↓nn_104, ↓nn_105, ↓nn_106, ↓nn_107, ↓nn_108, p_bs, p_rq0, p_rq1, p_rz0, p_rz1, p_us, p_un, p_uj, ↓reduceIte, hd', t_b0]
theorem m_day (h' : v_V A' I' X') : ∃ r' I1' J' X0' X1' D', F_X11_day 36 (I', X') = some (r', (I1', X0')) ∧ F_X12_day 87 (I1', X0') = some (r', (J', X1')) ∧ v_V (A'.1, A'.2.1, D', A'.2.2.2) J' X1' := by
  have hB' := h'.1
  rcases v_t h' with ⟨hz', hR', hHW'⟩ | hz'
  · obtain ⟨L', J', hLM', a1', a2', a3'⟩ := s_act h' hz' 0 (by decide) (-1) (-1)
    have a1'' : F_X11_act 36 0 (-1) (-1) (I', X') = some (t_b (t_can A'.1 (I' 54) 0 (-1) (-1)), (J', X')) := a1'
    obtain ⟨w1', w2', w3', w4', w5', w6'⟩ := id hR'
    have e35' : I' 100 35 = Int32.ofNat A'.2.2.1 := by rw [w2'.1.2.2.2, w3']
    cases hcan : t_can A'.1 (I' 54) 0 (-1) (-1)
    · obtain ⟨g1', g2', g3', g4'⟩ := v_SCM h' (a2' hcan)
      have hD' : A'.2.2.1 = 999 := by
        simp only [t_can, decide_eq_false_iff_not, w3'] at hcan
        rw [show (999 : Int32) = Int32.ofNat 999 from rfl, p_lt _ 999 (by omega) (by omega)] at hcan
        omega
      refine ⟨-1, J', _, X', X', A'.2.2.1, ?_, ?_, g4'⟩
      · unfold F_X11_day
        simp (disch := omega) only [↓ce_36 hB', rf_36 hB', ↓nn_38, ↓nn_40, ↓nn_45, ↓nn_50, ↓nn_52, ↓nn_53, ↓nn_54, ↓nn_56, ↓nn_58, ↓nn_64, ↓nn_67, ↓nn_68, ↓nn_84, p_bs, p_rq0, p_rq1, p_rz0, p_rz1, p_us, p_un, p_uj, ↓reduceIte, a1'', hcan, t_b0]
      · unfold F_X12_day
        simp (disch := omega) only [↓ce_87 hB', rf_87 hB', ↓ce_100 hB', ↓nn_31, ↓nn_33, ↓nn_89, ↓nn_90, ↓nn_91, ↓nn_92, ↓nn_93, ↓nn_94, ↓nn_95, ↓nn_96, ↓nn_97, ↓nn_98, ↓nn_99, ↓nn_100, ↓nn_101, ↓nn_102, ↓nn_103, ↓nn_104, ↓nn_105, ↓nn_106, ↓nn_107, ↓nn_108, p_bs, p_rq0, p_rq1, p_rz0, p_rz1, p_us, p_un, p_uj, ↓reduceIte, g1'.2.2.2.2, v_ng0 hHW', g2', e35', hD', show Int32.ofNat 999 = 999 from rfl]
    · have hac' := a3' hcan
      obtain ⟨g1', g2', g3', g4', g5'⟩ := v_acM h' hac'
      have hD' : A'.2.2.1 < 999 := by
        simp only [t_can, decide_eq_true_eq, w3'] at hcan
        rw [show (999 : Int32) = Int32.ofNat 999 from rfl, p_lt _ 999 (by omega) (by omega)] at hcan
        exact hcan
      have hne' : (Int32.ofNat A'.2.2.1 = 999) = False := by
        apply eq_false
        intro h'
        have := p_inj (show Int32.ofNat A'.2.2.1 = Int32.ofNat 999 from h') (by omega) (by omega)
        omega
      obtain ⟨I2', b1', b2'⟩ := s_rem (I1' := q_u2 J' 87 0 0) h' (by rw [p_uj _ _ _ _ _ (by decide), g3'])
      have e100 : I2' 100 = I' 100 := by rw [b2'.1 100 (by decide) (by decide), p_uc _ _ _ _ _ (by decide), g2']
      have f' : ∀ c', c' ≠ 87 → c' ≠ 103 → I2' c' = J' c' := fun c' z1' z2' => by rw [b2'.1 c' z1' z2', p_uc _ _ _ _ _ z1']
      have hLM2' : t_LM L' X' I2' := t_LMk hLM' (by rw [b2'.2.1 34 (by decide), p_uj _ _ _ _ _ (by decide), g3']) (by rw [f' 89 (by decide) (by decide), g5' 89 (by omega)]) (by rw [f' 90 (by decide) (by decide), g5' 90 (by omega)])
      have hM2' : t_HM A'.1 I2' := t_HMk g1' (b2'.1 92 (by decide) (by decide)) (b2'.1 94 (by decide) (by decide)) (b2'.1 96 (by decide) (by decide)) (b2'.2.1 26 (by decide)) (b2'.2.1 27 (by decide))
      obtain ⟨K', u', k1', k2', k3', k4', k5'⟩ := s_goDay (I' := I2') (s' := I' 54) (c' := 100) (L' := L') (H' := A'.1) hB' (fun c' hc' => by rw [b2'.1 c' (by omega) (by omega)]; exact g4' c' hc') hM2' hHW' w1' (.inl rfl) (by rw [e100]; exact w2') hLM2' w3' (by omega) (n' := min A'.2.2.1 60) (by omega) (by rw [e100]; exact w6'.1)
      refine ⟨t_bc (t_B (t_fd A'.1 (I' 54))), J', K', X', p_T X' u', A'.2.2.1 + 1, ?_, ?_, v_doneD h' hz' (-1) (-1) hcan hac' b2' k2' k3' k4' k5'⟩
      · have := (hac'.2.2.2.2.2.2 rfl).1
        unfold F_X11_day
        simp (disch := omega) only [↓ce_36 hB', rf_36 hB', ↓ce_63 hB', rf_63 hB', ↓nn_38, ↓nn_40, ↓nn_45, ↓nn_50, ↓nn_52, ↓nn_53, ↓nn_54, ↓nn_56, ↓nn_58, ↓nn_64, ↓nn_65, ↓nn_66, ↓nn_67, ↓nn_68, ↓nn_84, p_bs, p_rq0, p_rq1, p_rz0, p_rz1, p_us, p_un, p_uj, ↓reduceIte, a1'', hcan, t_b0, Bool.true_eq_false, this, t_bcE]
      · unfold F_X12_day
        simp (disch := omega) only [↓ce_87 hB', rf_87 hB', ↓ce_100 hB', ↓nn_31, ↓nn_33, ↓nn_89, ↓nn_90, ↓nn_91, ↓nn_92, ↓nn_93, ↓nn_94, ↓nn_95, ↓nn_96, ↓nn_97, ↓nn_98, ↓nn_99, ↓nn_100, ↓nn_101, ↓nn_102, ↓nn_103, ↓nn_104, ↓nn_105, ↓nn_106, ↓nn_107, ↓nn_108, p_bs, p_rq0, p_rq1, p_rz0, p_rz1, p_us, p_un, p_uj, ↓reduceIte, g1'.2.2.2.2, v_ng0 hHW', g2', e35', hne', b1', k1', t_bcE]
  · refine ⟨-1, I', _, X', X', A'.2.2.1, ?_, ?_, v_thr h'⟩
    · unfold F_X11_day
      simp (disch := omega) only [↓ce_36 hB', rf_36 hB', ↓nn_38, ↓nn_40, ↓nn_45, ↓nn_50, ↓nn_52, ↓nn_53, ↓nn_54, ↓nn_56, ↓nn_58, ↓nn_64, ↓nn_67, ↓nn_68, ↓nn_84, p_bs, p_rq0, p_rq1, p_rz0, p_rz1, p_us, p_un, p_uj, ↓reduceIte, s_act0 h' hz']
    · have := (v_thr h').2.2.2.1.2.2.1.2.2.2.2
      rw [(v_zf h' hz').2] at this
      unfold F_X12_day
      simp (disch := omega) only [↓ce_87 hB', rf_87 hB', ↓nn_31, ↓nn_33, ↓nn_89, ↓nn_90, ↓nn_91, ↓nn_92, ↓nn_93, ↓nn_94, ↓nn_95, ↓nn_96, ↓nn_97, ↓nn_98, ↓nn_99, ↓nn_100, ↓nn_101, ↓nn_102, ↓nn_103, ↓nn_104, ↓nn_105, ↓nn_106, ↓nn_107, ↓nn_108, p_bs, p_rq0, p_rq1, p_rz0, p_rz1, p_us, p_un, p_uj, ↓reduceIte, this, show Int32.ofNat 0 = 0 from rfl]
end PA'
