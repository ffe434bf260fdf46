/-! run: both sides -/
section PN'
variable {A' : v_A} {X' : p_X} {I' : p_I}
theorem v_wne (h' : v_V A' I' X') {i' : Nat} (hi' : i' ≤ A'.2.2.2.2.2.1) : (A'.2.2.2.2.2.2 i' ≠ p_sc X' ∧ A'.2.2.2.2.2.2 i' + 1 ≠ p_sc X') ∧ (A'.2.2.2.2.2.2 i' = 85 ∨ 109 ≤ A'.2.2.2.2.2.2 i') := by
  have hsc' := v_scN h'
  obtain ⟨-, -, -, -, -, -, -, -, hL', -, hW', hD', -⟩ := h'
  have h9' := (hW'.2.2.2.1 i' hi').2.2.2.2
  refine ⟨?_, h9'⟩
  rcases hsc' with h' | ⟨i'', hi'', h'⟩
  · omega
  · have := hD'.2.2 i'' i' hi'' hi'; omega
theorem v_gs (h' : v_V A' I' X') (hz' : A'.2.1 = true) : t_GS A'.1 (I' 54) := by
  obtain ⟨w1', w2', w3', w4', w5', w6'⟩ := h'.2.2.2.2.1.1 hz'
  exact ⟨w1', w5', _, w3', w4'⟩
theorem t_GSa {H' : t_H} {s' s'' : Nat → Int32} (h' : t_GS H' s') (k' : ∀ j', j' < 31 → s'' j' = s' j') : t_GS H' s'' := by
  obtain ⟨h1', h2', D', h3', h4'⟩ := h'
  exact ⟨t_WFa h1' k', fun g' hg' => by rw [k' _ (by omega)]; exact h2' g' hg', D', by rw [k' 0 (by omega)]; exact h3', h4'⟩
theorem t_smC {s' s'' : Nat → Int32} (k' : ∀ j', j' < 31 → s'' j' = s' j') : t_sm s'' 6 = t_sm s' 6 := by
  simp only [t_sm]
  rw [k' 25 (by omega), k' (25 + 1) (by omega), k' (25 + 2) (by omega), k' (25 + 3) (by omega), k' (25 + 4) (by omega), k' (25 + 5) (by omega)]
theorem m_run (h' : v_V A' I' X') (l' l2' : Int32) : ∃ r' I1' J' X1', F_X11_run 36 l' l2' (I', X') = some (r', (I1', X')) ∧ F_X12_run 87 l' l2' (I1', X') = some (r', (J', X1')) ∧ v_V A' J' X1' := by
  obtain ⟨L', hLC', hLM'⟩ := v_law h'
  have hsc' := p_scN hLC'
  obtain ⟨hB', hS', hT', hH', hN', hP', hG', hC', hL', hLH', hW', hD', hF'⟩ := id h'
  obtain ⟨a1', a2', a3', a4', a5', a6'⟩ := hW'
  have h18' := hH'.1
  have hwk' := s_weekAt hB' a1' a2' l'
  have a3'' : q_u2 I' 87 0 0 87 30 = Int32.ofNat A'.2.2.2.2.2.1 := by rw [p_uj _ _ _ _ _ (by decide)]; exact a3'
  have hiw' := s_isWeek hB' a3'' l'
  have hin' : ∀ M' : q_Mem, F_X12_isIn l2'.toInt64 0 1 M' = some (t_b (t_inr l2' 2)) := fun M' => s_isInT l2' 1 (by decide) 0 1 rfl rfl M'
  cases hr' : t_inr l' A'.2.2.2.2.2.1
  · rw [hr', if_neg (by decide)] at hwk'
    refine ⟨-1000000, I', _, X', ?_, ?_, v_thr h'⟩
    · unfold F_X11_run
      simp (disch := omega) only [↓ce_36 hB', rf_36 hB', ↓nn_38, ↓nn_40, ↓nn_45, ↓nn_50, ↓nn_52, ↓nn_53, ↓nn_54, ↓nn_56, ↓nn_58, ↓nn_64, ↓nn_67, ↓nn_68, ↓nn_84, p_bs, p_rq0, p_rq1, p_rz0, p_rz1, p_us, p_un, p_uj, ↓reduceIte, hwk']
    · unfold F_X12_run
      simp (disch := omega) only [↓ce_87 hB', rf_87 hB', ↓nn_31, ↓nn_33, ↓nn_89, ↓nn_90, ↓nn_91, ↓nn_92, ↓nn_93, ↓nn_94, ↓nn_95, ↓nn_96, ↓nn_97, ↓nn_98, ↓nn_99, ↓nn_100, ↓nn_101, ↓nn_102, ↓nn_103, ↓nn_104, ↓nn_105, ↓nn_106, ↓nn_107, ↓nn_108, p_bs, p_rq0, p_rq1, p_rz0, p_rz1, p_us, p_un, p_uj, ↓reduceIte, hiw', hr', t_b0]
  · obtain ⟨i', hi', rfl⟩ := t_inrE (by omega) hr'
    rw [hr', if_pos rfl, p_nat i' (by omega), (a6' i' hi').1] at hwk'
    rcases v_t h' with ⟨hz', hR', hHW'⟩ | hz'
    · rw [hz'] at h18'
      cases hr2' : t_inr l2' 2
      · have key' : ∀ o' : Option (Int32 × q_Mem), (if l2' < 0 then some ((-1000000 : Int32), (I', X')) else if 1 < l2' then some ((-1000000 : Int32), (I', X')) else o') = some (-1000000, (I', X')) := fun o' => by
          rw [t_if20 l2' 1 1 (by decide) rfl, hr2']; simp
        refine ⟨-1000000, I', _, X', ?_, ?_, v_thr h'⟩
        · unfold F_X11_run
          simp (disch := omega) only [↓ce_36 hB', rf_36 hB', ↓nn_38, ↓nn_40, ↓nn_45, ↓nn_50, ↓nn_52, ↓nn_53, ↓nn_54, ↓nn_56, ↓nn_58, ↓nn_64, ↓nn_67, ↓nn_68, ↓nn_84, p_bs, p_rq0, p_rq1, p_rz0, p_rz1, p_us, p_un, p_uj, ↓reduceIte, hwk', h18', t_b0, Bool.true_eq_false]
          exact key' _
        · unfold F_X12_run
          simp (disch := omega) only [↓ce_87 hB', rf_87 hB', ↓nn_31, ↓nn_33, ↓nn_89, ↓nn_90, ↓nn_91, ↓nn_92, ↓nn_93, ↓nn_94, ↓nn_95, ↓nn_96, ↓nn_97, ↓nn_98, ↓nn_99, ↓nn_100, ↓nn_101, ↓nn_102, ↓nn_103, ↓nn_104, ↓nn_105, ↓nn_106, ↓nn_107, ↓nn_108, p_bs, p_rq0, p_rq1, p_rz0, p_rz1, p_us, p_un, p_uj, ↓reduceIte, hiw', hr', (v_thr h').2.2.2.1.2.2.1.2.2.2.2, v_ng0 hHW', hin', hr2', t_b0, Bool.true_eq_false]
      · obtain ⟨q', hq', rfl⟩ := t_inrE (by decide) hr2'
        obtain ⟨w1', w2', w3', w4', w5', w6'⟩ := id hR'
        obtain ⟨b1', sz', b2', b3', b4', b5', b6'⟩ := a6' i' hi'
        obtain ⟨hne', h9'⟩ := v_wne h' (i' := i') (by omega)
        have hws' := a4' i' (by omega)
        obtain ⟨x1', x2', x3', x4', x5'⟩ := id hws'
        obtain ⟨J1', c1', c2', c3'⟩ := s_copyFrom (I' := I') (k1' := 68) (k2' := 53) hB' (by omega) (by omega)
        have c2'' : ∀ c', c' ≠ 69 → J1' c' = I' c' := c2'
        have c3'' : ∀ j', j' < 31 → J1' 69 j' = I' 54 j' := c3'
        have ew1' : J1' (A'.2.2.2.2.2.2 i' + 1) = I' (A'.2.2.2.2.2.2 i' + 1) := c2'' _ (by omega)
        obtain ⟨I2', z', d1', d2', d3', d4', d5'⟩ := s_runC (I' := J1') (L' := L') hB' (t_HIk hH'.2.1 (fun c' h1' h2' => c2'' c' (by omega))) hHW' (t_LCk hLC' (fun c' h1' h2' => c2'' c' (by omega))) (t_GSa (v_gs h' hz') c3'') hws' hne' b2' (by rw [c2'' _ (by omega)]; exact b3') (by rw [ew1']; exact b6') 53
        rw [ew1'] at d2' d4' d5'
        generalize hs' : J1' 69 = s' at d2' d4' d5'
        have hsI' : ∀ j', j' < 31 → s' j' = I' 54 j' := fun j' hj' => by rw [← hs']; exact c3'' j' hj'
        generalize he' : I' (A'.2.2.2.2.2.2 i' + 1) = e' at d2' d4' d5' b5' b6'
        generalize hm' : yq_ff (yq_wc A'.1 L' e' s') sz' 0 = m' at d2' d4' d5'
        have hms' : m' ≤ sz' := by rw [← hm']; have := yq_ffL (yq_wc A'.1 L' e' s') sz' 0; omega
        have f2' : ∀ c', c' ≠ 63 → c' ≠ 64 → c' ≠ 65 → c' ≠ p_sc X' → c' ≠ 69 → I2' c' = I' c' := fun c' z1' z2' z3' z4' z5' => by rw [d3' c' z1' z2' z3' z4' z5']; exact c2'' c' z5'
        have e54' : I2' 54 = I' 54 := f2' 54 (by decide) (by decide) (by decide) (by omega) (by decide)
        have hj1' : F_X8_joyOfAll 68 (I2', X') = some (t_sm (yq_ws A'.1 L' e' s' m') 6) := by
          have := s_joyOfAll (I' := I2') hB' (k' := 68) (by omega)
          rw [show (68 + 1 : Nat) = 69 from rfl, d4'] at this
          exact this
        have hj2' : F_X8_joyOfAll 53 (I2', X') = some (t_sm (I' 54) 6) := by
          have := s_joyOfAll (I' := I2') hB' (k' := 53) (by omega)
          rw [show (53 + 1 : Nat) = 54 from rfl, e54'] at this
          exact this
        have hst' : F_X2_stepsDone 67 53 (A'.2.2.2.2.2.2 i') (I', X') = some (Int32.ofNat m', (q_u2 I2' 67 7 (t_sm (yq_ws A'.1 L' e' s' m') 6 - t_sm (I' 54) 6), X')) := by
          unfold F_X2_stepsDone J_X2_stepsDone_69
          rcases d2' with rfl | rfl
          · simp (disch := omega) only [↓ce_67 hB', rf_67 hB', ↓ce_68 hB', rf_68 hB', ↓ce_53 hB', rf_53 hB', ↓nn_40, ↓nn_55, ↓nn_64, ↓nn_67, ↓nn_69, ↓nn_70, ↓nn_71, ↓nn_72, ↓nn_73, p_bs, p_rq0, p_rq1, p_rz0, p_rz1, p_us, p_un, p_uj, ↓reduceIte, c1', d1', hj1', hj2']
          · simp (disch := omega) only [↓ce_67 hB', rf_67 hB', ↓ce_68 hB', rf_68 hB', ↓ce_53 hB', rf_53 hB', ↓nn_40, ↓nn_55, ↓nn_64, ↓nn_67, ↓nn_69, ↓nn_70, ↓nn_71, ↓nn_72, ↓nn_73, p_bs, p_rq0, p_rq1, p_rz0, p_rz1, p_us, p_un, p_uj, ↓reduceIte, c1', d1', hj1', hj2']
        generalize hI1' : q_u2 I2' 67 7 (t_sm (yq_ws A'.1 L' e' s' m') 6 - t_sm (I' 54) 6) = I1' at hst'
        have i67' : I1' 67 7 = t_sm (yq_ws A'.1 L' e' s' m') 6 - t_sm (I' 54) 6 := by rw [← hI1']; exact p_us _ _ _ _
        have f' : ∀ c', c' ≠ 63 → c' ≠ 64 → c' ≠ 65 → c' ≠ p_sc X' → c' ≠ 67 → c' ≠ 69 → I1' c' = I' c' := fun c' z1' z2' z3' z4' z5' z6' => by rw [← hI1', p_uc _ _ _ _ _ z5']; exact f2' c' z1' z2' z3' z4' z6'
        have f1' : ∀ c', 70 ≤ c' → c' < 109 → I1' c' = I' c' := fun c' z1' z2' => f' c' (by omega) (by omega) (by omega) (by omega) (by omega) (by omega)
        have isz' : I1' (A'.2.2.2.2.2.2 i') 1 = Int32.ofNat sz' := by rw [f' _ (by omega) (by omega) (by omega) hne'.1 (by omega) (by omega)]; exact b3'
        obtain ⟨J2', g1', g2', g3', g4'⟩ := s_mcopy (I' := q_u2 I1' 87 0 0) hB'
        have k1' : ∀ c', 70 ≤ c' → c' < 109 → c' ≠ 87 → c' ≠ 101 → J2' c' = I' c' := fun c' z1' z2' z3' z4' => by rw [g2' c' z4', p_uc _ _ _ _ _ z3']; exact f1' c' z1' z2'
        have k87' : ∀ j', j' ≠ 0 → J2' 87 j' = I' 87 j' := fun j' hj' => by rw [g2' 87 (by decide), p_uj _ _ _ _ _ hj', f1' 87 (by decide) (by decide)]
        have hM1' : t_HM A'.1 (q_u2 I1' 87 0 0) := v_hm h' (by rw [p_uc _ _ _ _ _ (by decide), f1' 92 (by decide) (by decide)]) (by rw [p_uc _ _ _ _ _ (by decide), f1' 94 (by decide) (by decide)]) (by rw [p_uc _ _ _ _ _ (by decide), f1' 96 (by decide) (by decide)]) (by rw [p_uj _ _ _ _ _ (by decide), f1' 87 (by decide) (by decide)]) (by rw [p_uj _ _ _ _ _ (by decide), f1' 87 (by decide) (by decide)])
        have hM2' : t_HM A'.1 J2' := v_hm h' (k1' 92 (by decide) (by decide) (by decide) (by decide)) (k1' 94 (by decide) (by decide) (by decide) (by decide)) (k1' 96 (by decide) (by decide) (by decide) (by decide)) (k87' 26 (by decide)) (k87' 27 (by decide))
        have e101 : ∀ j', j' < 36 → J2' 101 j' = I' 100 j' := fun j' hj' => by rw [g3' j' hj', p_uc _ _ _ _ _ (by decide), f1' 100 (by decide) (by decide)]
        obtain ⟨J', u', n1', n2', n3', n4'⟩ := s_runM (I' := J2') (H' := A'.1) (L' := L') (s' := s') hB' (fun c' hc' => by rw [g2' c' (by omega), p_uc _ _ _ _ _ (by omega), f' c' (by omega) (by omega) (by omega) (by omega) (by omega) (by omega)]; exact hS' c' hc') hM2' hHW' (t_LMk hLM' (k87' 34 (by decide)) (k1' 89 (by decide) (by decide) (by decide) (by decide)) (k1' 90 (by decide) (by decide) (by decide) (by decide))) (t_GSa (v_gs h' hz') hsI') (t_RSa w2' hsI' e101) ⟨0, by omega, g4'⟩ (k' := i') (sz' := sz') (by omega) b2' (by rw [k1' 99 (by decide) (by decide) (by decide) (by decide)]; exact b4') e' (by rw [k1' 98 (by decide) (by decide) (by decide) (by decide)]; exact b5') b6' (Int32.ofNat q')
        rw [hm'] at n1' n4'
        have hB'' := p_BT hB' u'
        have hMJ' : t_HM A'.1 J' := t_HMk hM2' (n2' 92 (by decide) (by decide) (by decide) (by decide)) (n2' 94 (by decide) (by decide) (by decide) (by decide)) (n2' 96 (by decide) (by decide) (by decide) (by decide)) (n3' 26 (by omega)) (n3' 27 (by omega))
        have y1' : F_X12_joys 87 101 (J', p_T X' u') = some (t_sm (yq_ws A'.1 L' e' s' m') 6) := by
          have := s_joys (s' := yq_ws A'.1 L' e' s' m') (c' := 101) hB'' hMJ' hHW' (.inr rfl) (fun g' hg' => (n4'.1.1 g' hg').2.2.1)
          rw [t_sm6 hHW'.2.2.2.1 d5'.1] at this
          exact this
        have y2' : F_X12_joys 87 100 (J', p_T X' u') = some (t_sm (I' 54) 6) := by
          have := s_joys (s' := I' 54) (c' := 100) hB'' hMJ' hHW' (.inl rfl) (fun g' hg' => by rw [n2' 100 (by decide) (by decide) (by decide) (by decide), k1' 100 (by decide) (by decide) (by decide) (by decide)]; exact (w2'.1.1 g' hg').2.2.1)
          rw [t_sm6 hHW'.2.2.2.1 w1'] at this
          exact this
        have j99' : J' 99 i' = Int32.ofNat sz' := by rw [n2' 99 (by decide) (by decide) (by decide) (by decide), k1' 99 (by decide) (by decide) (by decide) (by decide)]; exact b4'
        have hq0' : (Int32.ofNat q' < 0) = False := by
          rw [show (0 : Int32) = Int32.ofNat 0 from rfl, p_lt q' 0 (by omega) (by omega)]
          simp
        have hq1' : (1 < Int32.ofNat q') = False := by
          rw [show (1 : Int32) = Int32.ofNat 1 from rfl, p_lt 1 q' (by omega) (by omega)]
          apply eq_false
          omega
        have hms'' : (Int32.ofNat m' = Int32.ofNat sz') = (m' = sz') := by
          apply propext
          exact ⟨fun e' => p_inj e' (by omega) (by omega), fun e' => by rw [e']⟩
        have h30' : q_u2 I1' 87 0 0 87 30 = Int32.ofNat A'.2.2.2.2.2.1 := by rw [p_uj _ _ _ _ _ (by decide), f1' 87 (by decide) (by decide)]; exact a3'
        have hiw1' := s_isWeek hB' h30' (Int32.ofNat i')
        refine ⟨if q' = 1 then t_sm (yq_ws A'.1 L' e' s' m') 6 - t_sm (I' 54) 6 else if m' = sz' then -1 else Int32.ofNat m', I1', J', p_T X' u', ?_, ?_, v_ask2 h' (fun c' z1' z2' z3' z4' z5' z6' z7' z8' => f' c' z1' z2' z3' z4' z5' z6') (fun c' z1' z2' z3' z4' z5' => by rw [n2' c' z1' z2' z3' z4', g2' c' z4', p_uc _ _ _ _ _ z1']) (fun j' z1' z2' => by rw [n3' j' z1', g2' 87 (by decide), p_uj _ _ _ _ _ z2'])⟩
        · unfold F_X11_run
          simp (disch := omega) only [↓ce_36 hB', rf_36 hB', ↓ce_53 hB', rf_53 hB', ↓ce_67 hB', rf_67 hB', ↓nn_38, ↓nn_40, ↓nn_45, ↓nn_50, ↓nn_52, ↓nn_53, ↓nn_54, ↓nn_55, ↓nn_56, ↓nn_58, ↓nn_64, ↓nn_67, ↓nn_68, ↓nn_69, ↓nn_71, ↓nn_72, ↓nn_73, ↓nn_84, p_bs, p_rq0, p_rq1, p_rz0, p_rz1, p_us, p_un, p_uj, ↓reduceIte, hwk', h18', t_b0, Bool.true_eq_false, hq0', hq1', hst']
          by_cases hq1'' : q' = 1
          · subst hq1''
            simp (disch := omega) only [↓ce_36 hB', rf_36 hB', ↓ce_67 hB', rf_67 hB', ↓nn_38, ↓nn_40, ↓nn_45, ↓nn_50, ↓nn_52, ↓nn_53, ↓nn_54, ↓nn_56, ↓nn_58, ↓nn_64, ↓nn_67, ↓nn_68, ↓nn_69, ↓nn_71, ↓nn_72, ↓nn_73, ↓nn_84, p_bs, p_rq0, p_rq1, p_rz0, p_rz1, p_us, p_un, p_uj, ↓reduceIte, show (Int32.ofNat 1 = 1) = True from by decide, i67']
          · have : q' = 0 := by omega
            subst this
            simp only [show (Int32.ofNat 0 = 1) = False from by decide, ↓reduceIte, p_gI x1', isz', hms'', show ((0 : Nat) = 1) = False from by decide]
            split <;> rfl
        · unfold F_X12_run
          simp (disch := omega) only [↓ce_87 hB', rf_87 hB', ↓nn_31, ↓nn_33, ↓nn_89, ↓nn_90, ↓nn_91, ↓nn_92, ↓nn_93, ↓nn_94, ↓nn_95, ↓nn_96, ↓nn_97, ↓nn_98, ↓nn_99, ↓nn_100, ↓nn_101, ↓nn_102, ↓nn_103, ↓nn_104, ↓nn_105, ↓nn_106, ↓nn_107, ↓nn_108, p_bs, p_rq0, p_rq1, p_rz0, p_rz1, p_us, p_un, p_uj, ↓reduceIte, hiw1', hr', hM1'.2.2.2.2, v_ng0 hHW', hin', hr2', t_b0, Bool.true_eq_false, g1', n1']
          have hB' := hB''
          by_cases hq1'' : q' = 1
          · subst hq1''
            simp (disch := omega) only [↓ce_87 hB', rf_87 hB', ↓nn_31, ↓nn_33, ↓nn_89, ↓nn_90, ↓nn_91, ↓nn_92, ↓nn_93, ↓nn_94, ↓nn_95, ↓nn_96, ↓nn_97, ↓nn_98, ↓nn_99, ↓nn_100, ↓nn_101, ↓nn_102, ↓nn_103, ↓nn_104, ↓nn_105, ↓nn_106, ↓nn_107, ↓nn_108, p_bs, p_rq0, p_rq1, p_rz0, p_rz1, p_us, p_un, p_uj, ↓reduceIte, show (Int32.ofNat 1 = 1) = True from by decide, y1', y2']
          · have : q' = 0 := by omega
            subst this
            simp (disch := omega) only [↓ce_87 hB', rf_87 hB', ↓ce_99 hB', ↓nn_31, ↓nn_33, ↓nn_89, ↓nn_90, ↓nn_91, ↓nn_92, ↓nn_93, ↓nn_94, ↓nn_95, ↓nn_96, ↓nn_97, ↓nn_98, ↓nn_99, ↓nn_100, ↓nn_101, ↓nn_102, ↓nn_103, ↓nn_104, ↓nn_105, ↓nn_106, ↓nn_107, ↓nn_108, p_bs, p_rq0, p_rq1, p_rz0, p_rz1, p_us, p_un, p_uj, ↓reduceIte, show (Int32.ofNat 0 = 1) = False from by decide, j99', hms'', show ((0 : Nat) = 1) = False from by decide]
            split <;> rfl
    · rw [hz'] at h18'
      refine ⟨-1000000, I', _, X', ?_, ?_, v_thr h'⟩
      · unfold F_X11_run
        simp (disch := omega) only [↓ce_36 hB', rf_36 hB', ↓nn_38, ↓nn_40, ↓nn_45, ↓nn_50, ↓nn_52, ↓nn_53, ↓nn_54, ↓nn_56, ↓nn_58, ↓nn_64, ↓nn_67, ↓nn_68, ↓nn_84, p_bs, p_rq0, p_rq1, p_rz0, p_rz1, p_us, p_un, p_uj, ↓reduceIte, hwk', h18', t_b0]
      · have := (v_thr h').2.2.2.1.2.2.1.2.2.2.2
        rw [(v_zf h' hz').2] at this
        unfold F_X12_run
        simp (disch := omega) only [↓ce_87 hB', rf_87 hB', ↓nn_31, ↓nn_33, ↓nn_89, ↓nn_90, ↓nn_91, ↓nn_92, ↓nn_93, ↓nn_94, ↓nn_95, ↓nn_96, ↓nn_97, ↓nn_98, ↓nn_99, ↓nn_100, ↓nn_101, ↓nn_102, ↓nn_103, ↓nn_104, ↓nn_105, ↓nn_106, ↓nn_107, ↓nn_108, p_bs, p_rq0, p_rq1, p_rz0, p_rz1, p_us, p_un, p_uj, ↓reduceIte, hiw', hr', this, show Int32.ofNat 0 = 0 from rfl, t_b0, Bool.true_eq_false]
end PN'
