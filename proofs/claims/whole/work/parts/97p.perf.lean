/-! perform: the reference's side, both -/
section PA'
variable {A' : v_A} {X' : p_X} {I' : p_I}
theorem t_SCmx {C' R' : p_I} (h1' : ∀ c', 87 ≤ c' → c' < 109 → c' ≠ 87 → R' c' = C' c') (h2' : ∀ j', j' ≠ 0 → R' 87 j' = C' 87 j') : t_SC X' C' (t_mx C' R') := by
  have e' : ∀ c', c' ≠ 87 → t_mx C' R' c' = C' c' := fun c' hc' => by
    by_cases hr' : 87 ≤ c' ∧ c' < 109
    · rw [t_mxR _ _ hr']; exact h1' c' hr'.1 hr'.2 hc'
    · exact t_mxC _ _ hr'
  exact ⟨fun c' z1' z2' => e' c' (by omega), by rw [e' 37 (by decide)], fun j' z1' z2' z3' z4' z5' z6' z7' => by rw [t_mxR _ _ (by decide)]; exact h2' j' z4', fun j' _ => by rw [e' 98 (by decide)], fun j' _ => by rw [e' 99 (by decide)], fun c' z1' z2' z3' z4' => e' c' (by omega)⟩
theorem s_perfM (h' : v_V A' I' X') (hz' : A'.2.1 = true) (hHW' : t_HW A'.1) {L' : t_L} (hLM' : t_LM L' X' I') {e' : Nat → Int32} {C' : Nat → p_I} {m' sz' k' : Nat} (hSQ' : t_SQ X' A'.1 L' e' I' C' m') (hm' : m' ≤ sz') (hsz' : sz' ≤ 16) (hk' : k' < 4) (h99' : I' 99 k' = Int32.ofNat sz') (h98' : ∀ j', j' < 3 * sz' → I' 98 (48 * k' + j') = e' j') (hq' : ∀ j', j' < sz' → ∃ q', q' < 5 ∧ e' (3 * j') = Int32.ofNat q') (hend : m' < sz' → t_can A'.1 (C' m' 54) (yq_op e' m') (e' (3 * m' + 1)) (e' (3 * m' + 2)) = false) {R0' : p_I} (r1' : ∀ c', 87 ≤ c' → c' < 109 → c' ≠ 87 → R0' c' = I' c') (r2' : ∀ j', j' ≠ 0 → R0' 87 j' = I' 87 j') (r3' : R0' 87 0 = 0) (r4' : p_S R0') : ∃ R' u' D', q_lp (fun z' => B_X12_perform_24 87 (Int32.ofNat k') z'.1 z'.2) q_fu ((0 : Int32), (R0', X')) = some (Int32.ofNat m', (R', p_T X' u')) ∧ (∀ c', ¬ (87 ≤ c' ∧ c' < 109) → R' c' = R0' c') ∧ v_V (A'.1, A'.2.1, D', A'.2.2.2) (t_mx (C' m') R') (p_T X' u') := by
  have hB' := h'.1
  have hng' := hHW'.2.2.2.1
  obtain ⟨s0', s1', s2'⟩ := hSQ'
  have hM0' : t_HM A'.1 R0' := t_HMk h'.2.2.2.1.2.2.1 (r1' 92 (by decide) (by decide) (by decide)) (r1' 94 (by decide) (by decide) (by decide)) (r1' 96 (by decide) (by decide) (by decide)) (r2' 26 (by decide)) (r2' 27 (by decide))
  have hL0' : t_LM L' X' R0' := t_LMk hLM' (r2' 34 (by decide)) (r1' 89 (by decide) (by decide) (by decide)) (r1' 90 (by decide) (by decide) (by decide))
  obtain ⟨z', h1', R', u', D', rfl, j1', j2'⟩ := p_lp (fun z' => B_X12_perform_24 87 (Int32.ofNat k') z'.1 z'.2) (fun i' z' => ∃ R' u' D', z' = (Int32.ofNat i', (R', p_T X' u')) ∧ (∀ c', c' ≠ 87 → c' ≠ 91 → c' ≠ 100 → c' ≠ 102 → c' ≠ 103 → R' c' = R0' c') ∧ (∀ j', ¬ t_m87 j' → j' ≠ 42 → R' 87 j' = R0' 87 j') ∧ v_V (A'.1, A'.2.1, D', A'.2.2.2) (t_mx (C' i') R') (p_T X' u'))
    (fun z' => ∃ R' u' D', z' = (Int32.ofNat m', (R', p_T X' u')) ∧ (∀ c', c' ≠ 87 → c' ≠ 91 → c' ≠ 100 → c' ≠ 102 → c' ≠ 103 → R' c' = R0' c') ∧ v_V (A'.1, A'.2.1, D', A'.2.2.2) (t_mx (C' m') R') (p_T X' u')) m' (by
      rintro i' z' hi' ⟨R', u', D', rfl, j1', j2', hv'⟩
      have hB0' := hB'
      have hB' := p_BT hB0' u'
      have l99' : R' 99 k' = Int32.ofNat sz' := by rw [j1' 99 (by decide) (by decide) (by decide) (by decide) (by decide), r1' 99 (by decide) (by decide) (by decide)]; exact h99'
      have hlt8' : (Int32.ofNat i' < Int32.ofNat sz') = (i' < sz') := p_lt i' sz' (by omega) (by omega)
      have hvR' := hv'.2.2.2.2.1.1 hz'
      simp only at hvR'
      rw [t_mxC (C' i') R' (show ¬ (87 ≤ 54 ∧ 54 < 109) by decide), t_mxR (C' i') R' (show 87 ≤ 100 ∧ 100 < 109 by decide)] at hvR'
      obtain ⟨w1', w2', w3', w4', w5', w6'⟩ := hvR'
      unfold B_X12_perform_24
      by_cases hlt' : i' < sz'
      · obtain ⟨q', q1', q2'⟩ := hq' i' hlt'
        have e98' : ∀ j', j' < 3 → R' 98 (3 * (16 * k' + i') + j') = e' (3 * i' + j') := fun j' hj' => by
          rw [j1' 98 (by decide) (by decide) (by decide) (by decide) (by decide), r1' 98 (by decide) (by decide) (by decide), show 3 * (16 * k' + i') + j' = 48 * k' + (3 * i' + j') by omega]
          exact h98' _ (by omega)
        have e0' : R' 98 (3 * (16 * k' + i')) = Int32.ofNat q' := by rw [← q2']; exact e98' 0 (by omega)
        have hop' : yq_op e' i' = q' := by unfold yq_op; rw [q2']; exact p_nat q' (by omega)
        have hMR' : t_HM A'.1 R' := t_HMk hM0' (j1' 92 (by decide) (by decide) (by decide) (by decide) (by decide)) (j1' 94 (by decide) (by decide) (by decide) (by decide) (by decide)) (j1' 96 (by decide) (by decide) (by decide) (by decide) (by decide)) (j2' 26 (by omega) (by decide)) (j2' 27 (by omega) (by decide))
        have hcs' := s_canStep (X' := p_T X' u') (c' := 100) hB' hMR' hng' (.inl rfl) w2' (r' := 3 * (16 * k' + i')) (by omega) q1' e0' (e98' 1 (by omega)) (e98' 2 (by omega))
        by_cases him' : i' = m'
        · right
          subst him'
          have hb' := hend hlt'
          rw [hop'] at hb'
          rw [hb'] at hcs'
          simp (disch := omega) only [↓ce_87 hB', rf_87 hB', ↓ce_99 hB', ↓nn_31, ↓nn_33, ↓nn_89, ↓nn_90, ↓nn_91, ↓nn_92, ↓nn_93, ↓nn_94, ↓nn_95, ↓nn_96, ↓nn_97, ↓nn_98, ↓nn_99, ↓nn_100, ↓nn_101, ↓nn_102, ↓nn_103, ↓nn_104, ↓nn_105, ↓nn_106, ↓nn_107, ↓nn_108, p_bs, p_rq0, p_rq1, p_rz0, p_rz1, p_us, p_un, p_uj, ↓reduceIte, l99', hlt8', hlt', p_ar, hcs', t_b0]
          exact ⟨_, rfl, R', u', D', rfl, j1', hv'⟩
        · left
          obtain ⟨hb', hac'⟩ := s2' i' (by omega)
          rw [hop'] at hb' hac'
          rw [w3', p_nat D' (by omega)] at hac'
          have hcs'' := hcs'
          rw [hb'] at hcs''
          obtain ⟨J', g1', g2'⟩ := s_rem (I1' := R') hv' (by rw [t_mxR (C' i') R' (show 87 ≤ 87 ∧ 87 < 109 by decide)])
          have fJ' : ∀ c', c' ≠ 87 → c' ≠ 103 → J' c' = R' c' := g2'.1
          have fJ7' : ∀ j', j' ≠ 42 → J' 87 j' = R' 87 j' := g2'.2.1
          have hMJ' : t_HM A'.1 J' := t_HMk hMR' (fJ' 92 (by decide) (by decide)) (fJ' 94 (by decide) (by decide)) (fJ' 96 (by decide) (by decide)) (fJ7' 26 (by decide)) (fJ7' 27 (by decide))
          have hLR' : t_LM L' (p_T X' u') R' := t_LMk (t_LMT hL0' u') (j2' 34 (by omega) (by decide)) (j1' 89 (by decide) (by decide) (by decide) (by decide) (by decide)) (j1' 90 (by decide) (by decide) (by decide) (by decide) (by decide))
          have hLJ' : t_LM L' (p_T X' u') J' := t_LMk hLR' (fJ7' 34 (by decide)) (fJ' 89 (by decide) (by decide)) (fJ' 90 (by decide) (by decide))
          have e100 : J' 100 = R' 100 := fJ' 100 (by decide) (by decide)
          have e98J : J' 98 = R' 98 := fJ' 98 (by decide) (by decide)
          obtain ⟨K', u'', k1', k2', k3', k4', k5'⟩ := s_goStep (X' := p_T X' u') (I' := J') (c' := 100) (s' := C' i' 54) (L' := L') hB' (fun c' hc' => by rw [fJ' c' (by omega) (by omega), j1' c' (by omega) (by omega) (by omega) (by omega) (by omega)]; exact r4' c' hc') hMJ' hHW' w1' (.inl rfl) (by rw [e100]; exact w2') hLJ' w3' (by omega) ⟨min D' 60, by omega, by rw [e100]; exact w6'.1⟩ (r' := 3 * (16 * k' + i')) (by omega) q1' (by rw [e98J]; exact e0') (by rw [e98J]; exact e98' 1 (by omega)) (by rw [e98J]; exact e98' 2 (by omega)) hb'
          rw [p_TT] at k1'
          have fK' : ∀ c', c' ≠ 87 → c' ≠ 91 → c' ≠ 100 → c' ≠ 102 → c' ≠ 103 → K' c' = R0' c' := fun c' z1' z2' z3' z4' z5' => by rw [k2' c' z1' z2' z4' z3', fJ' c' z1' z5']; exact j1' c' z1' z2' z3' z4' z5'
          have fK7' : ∀ j', ¬ t_m87 j' → j' ≠ 42 → K' 87 j' = R0' 87 j' := fun j' z1' z2' => by rw [k3' j' z1', fJ7' j' z2']; exact j2' j' z1' z2'
          refine ⟨(Int32.ofNat (i' + 1), (K', p_T X' u'')), ?_, by omega, K', u'', ?_⟩
          · simp (disch := omega) only [↓ce_87 hB', rf_87 hB', ↓ce_99 hB', ↓nn_31, ↓nn_33, ↓nn_89, ↓nn_90, ↓nn_91, ↓nn_92, ↓nn_93, ↓nn_94, ↓nn_95, ↓nn_96, ↓nn_97, ↓nn_98, ↓nn_99, ↓nn_100, ↓nn_101, ↓nn_102, ↓nn_103, ↓nn_104, ↓nn_105, ↓nn_106, ↓nn_107, ↓nn_108, p_bs, p_rq0, p_rq1, p_rz0, p_rz1, p_us, p_un, p_uj, ↓reduceIte, l99', hlt8', hlt', p_ar, hcs'', g1', k1', t_b0, Bool.true_eq_false]
          · have hac'' := t_ACmx (X'' := p_T X' u') (R' := R') (p_Tsc X' u') hac'
            have R0'' : R' 87 0 = 0 := by rw [j2' 0 (by omega) (by decide)]; exact r3'
            have hrm'' := t_RMmx (C' := C' (i' + 1)) R0'' g2'
            have hcan' : t_can A'.1 (t_mx (C' i') R' 54) q' (e' (3 * i' + 1)) (e' (3 * i' + 2)) = true := by rw [t_mxC _ _ (by decide)]; exact hb'
            have mR' : ∀ (R' : p_I) c', 87 ≤ c' ∧ c' < 109 → t_mx (C' (i' + 1)) R' c' = R' c' := fun R' c' h' => t_mxR _ R' h'
            by_cases eq0' : q' = 0
            · subst eq0'
              obtain ⟨x1', x2'⟩ := k4' rfl
              have hd' := v_doneD (K' := t_mx (C' (i' + 1)) K') (u' := u'') hv' hz' _ _ hcan' hac'' hrm'' (fun c' z1' z2' z3' z4' => by
                by_cases hr' : 87 ≤ c' ∧ c' < 109
                · rw [mR' _ _ hr', mR' _ _ hr']; exact k2' c' z1' z2' z3' z4'
                · rw [t_mxC _ _ hr', t_mxC _ _ hr']) (fun j' z1' z2' z3' => by
                rw [mR' _ 87 (by decide), mR' _ 87 (by decide)]
                exact k3' j' (by omega)) (by
                rw [mR' _ 100 (by decide), t_mxC _ _ (by decide)]; exact x1') (by
                rw [mR' _ 100 (by decide), mR' _ 100 (by decide), t_mxC _ _ (by decide)]; exact x2')
              rw [p_TT] at hd'
              exact ⟨D' + 1, rfl, fK', fK7', hd'⟩
            · obtain ⟨x1', x2', x3'⟩ := k5' eq0'
              have eT' : p_T X' u'' = p_T X' u' := by rw [← p_TT X' u' u'', x3', p_Ts]
              have hd' := v_done (K' := t_mx (C' (i' + 1)) K') hv' hz' q' (by omega) (by omega) _ _ hcan' hac'' hrm'' (fun c' z1' => by
                by_cases hr' : 87 ≤ c' ∧ c' < 109
                · rw [mR' _ _ hr', mR' _ _ hr']; exact x1' c' z1'
                · rw [t_mxC _ _ hr', t_mxC _ _ hr']) (by
                rw [mR' _ 100 (by decide), mR' _ 100 (by decide)]; exact x2')
              exact ⟨D', rfl, fK', fK7', by rw [eT']; exact hd'⟩
      · right
        have hi'' : i' = sz' := by omega
        have him' : i' = m' := by omega
        subst him'
        subst hi''
        simp (disch := omega) only [↓ce_87 hB', rf_87 hB', ↓ce_99 hB', ↓nn_31, ↓nn_33, ↓nn_89, ↓nn_90, ↓nn_91, ↓nn_92, ↓nn_93, ↓nn_94, ↓nn_95, ↓nn_96, ↓nn_97, ↓nn_98, ↓nn_99, ↓nn_100, ↓nn_101, ↓nn_102, ↓nn_103, ↓nn_104, ↓nn_105, ↓nn_106, ↓nn_107, ↓nn_108, p_bs, p_rq0, p_rq1, p_rz0, p_rz1, p_us, p_un, p_uj, ↓reduceIte, l99', hlt8', Nat.lt_irrefl]
        exact ⟨_, rfl, R', u', D', rfl, j1', hv'⟩) m' 0 q_fu (0, (R0', X')) (by omega) (by unfold q_fu; omega) ⟨R0', X'.2.1 87 5, A'.2.2.1, by rw [p_Ts]; rfl, fun _ _ _ _ _ _ => rfl, fun _ _ _ => rfl, by
          rw [p_Ts, s0']
          exact v_keep0 h' (t_SCmx r1' r2')⟩
  exact ⟨R', u', D', h1', fun c' hc' => j1' c' (by omega) (by omega) (by omega) (by omega) (by omega), j2'⟩
theorem m_perform (h' : v_V A' I' X') (l' : Int32) : ∃ r' I1' J' X1' D', F_X11_perform 36 l' (I', X') = some (r', (I1', X')) ∧ F_X12_perform 87 l' (I1', X') = some (r', (J', X1')) ∧ v_V (A'.1, A'.2.1, D', A'.2.2.2) J' X1' := by
  obtain ⟨L', hLC', hLM'⟩ := v_law h'
  have hsc' := p_scN hLC'
  obtain ⟨hB', hS', hT', hH', hN', hP', hG', hC', hL', hLH', hW', hD', hF'⟩ := id h'
  obtain ⟨a1', a2', a3', a4', a5', a6'⟩ := hW'
  have h18' := hH'.1
  have hwk' := s_weekAt hB' a1' a2' l'
  have a3'' : q_u2 I' 87 0 0 87 30 = Int32.ofNat A'.2.2.2.2.2.1 := by rw [p_uj _ _ _ _ _ (by decide)]; exact a3'
  have hiw' := s_isWeek hB' a3'' l'
  cases hr' : t_inr l' A'.2.2.2.2.2.1
  · rw [hr', if_neg (by decide)] at hwk'
    refine ⟨-1, I', _, X', A'.2.2.1, ?_, ?_, v_thr h'⟩
    · unfold F_X11_perform
      simp (disch := omega) only [↓ce_36 hB', rf_36 hB', ↓nn_38, ↓nn_40, ↓nn_45, ↓nn_50, ↓nn_52, ↓nn_53, ↓nn_54, ↓nn_56, ↓nn_58, ↓nn_64, ↓nn_67, ↓nn_68, ↓nn_84, p_bs, p_rq0, p_rq1, p_rz0, p_rz1, p_us, p_un, p_uj, ↓reduceIte, hwk']
    · unfold F_X12_perform
      simp (disch := omega) only [↓ce_87 hB', rf_87 hB', ↓nn_31, ↓nn_33, ↓nn_89, ↓nn_90, ↓nn_91, ↓nn_92, ↓nn_93, ↓nn_94, ↓nn_95, ↓nn_96, ↓nn_97, ↓nn_98, ↓nn_99, ↓nn_100, ↓nn_101, ↓nn_102, ↓nn_103, ↓nn_104, ↓nn_105, ↓nn_106, ↓nn_107, ↓nn_108, p_bs, p_rq0, p_rq1, p_rz0, p_rz1, p_us, p_un, p_uj, ↓reduceIte, hiw', hr', t_b0]
  · obtain ⟨i', hi', rfl⟩ := t_inrE (by omega) hr'
    rw [hr', if_pos rfl, p_nat i' (by omega), (a6' i' hi').1] at hwk'
    rcases v_t h' with ⟨hz', hR', hHW'⟩ | hz'
    · rw [hz'] at h18'
      obtain ⟨w1', w2', w3', w4', w5', w6'⟩ := id hR'
      obtain ⟨b1', sz', b2', b3', b4', b5', b6'⟩ := a6' i' hi'
      obtain ⟨hne', h9'⟩ := v_wne h' (i' := i') (by omega)
      have hws' := a4' i' (by omega)
      obtain ⟨x1', x2', x3', x4', x5'⟩ := id hws'
      obtain ⟨k', m'', dd', p1', p2', p3', p4', -⟩ := id hP'
      obtain ⟨z', C', m', J', d1', d2', d3', d4', d5'⟩ := s_perfC (I' := I') (L' := L') hB' hHW' ⟨h18', hH'.2.1, hLC', v_gs h' hz', k', m'', p1', p2', p3', p4'⟩ hws' hne' b2' b3' rfl b6'
      have fJ' : ∀ c', c' ≠ 54 → c' ≠ 56 → c' ≠ 57 → c' ≠ 58 → c' ≠ 59 → c' ≠ 63 → c' ≠ 64 → c' ≠ 65 → c' ≠ p_sc X' → J' c' = I' c' := fun c' z1' z2' z3' z4' z5' z6' z7' z8' z9' => by rw [d4' c' z2']; exact (d3'.2.1 m' (Nat.le_refl _)).1 c' z1' z2' z3' z4' z5' z6' z7' z8' z9'
      have jsz' : J' (A'.2.2.2.2.2.2 i') 1 = Int32.ofNat sz' := by rw [fJ' _ (by omega) (by omega) (by omega) (by omega) (by omega) (by omega) (by omega) (by omega) hne'.1]; exact b3'
      have f1' : ∀ c', 87 ≤ c' → c' < 109 → J' c' = I' c' := fun c' z1' z2' => fJ' c' (by omega) (by omega) (by omega) (by omega) (by omega) (by omega) (by omega) (by omega) (by omega)
      obtain ⟨R', u', D', n1', n2', n3'⟩ := s_perfM h' hz' hHW' hLM' d3' d2' b2' (k' := i') (by omega) b4' b5' b6' (fun hlt' => by
        rcases d5' with ⟨-, -, y'⟩ | ⟨-, y'⟩
        · exact y'
        · omega) (R0' := q_u2 J' 87 0 0) (fun c' z1' z2' z3' => by rw [p_uc _ _ _ _ _ z3']; exact f1' c' z1' z2') (fun j' hj' => by rw [p_uj _ _ _ _ _ hj', f1' 87 (by decide) (by decide)]) (p_us _ _ _ _) (fun c' hc' => by rw [p_uc _ _ _ _ _ (by omega), fJ' c' (by omega) (by omega) (by omega) (by omega) (by omega) (by omega) (by omega) (by omega) (by omega)]; exact hS' c' hc')
      have h30' : q_u2 J' 87 0 0 87 30 = Int32.ofNat A'.2.2.2.2.2.1 := by rw [p_uj _ _ _ _ _ (by decide), f1' 87 (by decide) (by decide)]; exact a3'
      have hiw1' := s_isWeek hB' h30' (Int32.ofNat i')
      have h27' : q_u2 J' 87 0 0 87 27 = Int32.ofNat (t_ng A'.1) := by rw [p_uj _ _ _ _ _ (by decide), f1' 87 (by decide) (by decide)]; exact hH'.2.2.1.2.2.2.2
      refine ⟨Int32.ofNat m', J', R', p_T X' u', D', ?_, ?_, ?_⟩
      · unfold F_X11_perform
        rcases d5' with ⟨rfl, -, -⟩ | ⟨rfl, y'⟩
        · simp (disch := omega) only [↓ce_36 hB', rf_36 hB', ↓nn_38, ↓nn_40, ↓nn_45, ↓nn_50, ↓nn_52, ↓nn_53, ↓nn_54, ↓nn_56, ↓nn_58, ↓nn_64, ↓nn_67, ↓nn_68, ↓nn_84, p_bs, p_rq0, p_rq1, p_rz0, p_rz1, p_us, p_un, p_uj, ↓reduceIte, hwk', h18', t_b0, Bool.true_eq_false, d1']
        · simp (disch := omega) only [↓ce_36 hB', rf_36 hB', ↓nn_38, ↓nn_40, ↓nn_45, ↓nn_50, ↓nn_52, ↓nn_53, ↓nn_54, ↓nn_56, ↓nn_58, ↓nn_64, ↓nn_67, ↓nn_68, ↓nn_84, p_bs, p_rq0, p_rq1, p_rz0, p_rz1, p_us, p_un, p_uj, ↓reduceIte, hwk', h18', t_b0, Bool.true_eq_false, d1']
          simp only [p_gI x1', jsz', y']
      · unfold F_X12_perform
        simp (disch := omega) only [↓ce_87 hB', rf_87 hB', ↓nn_31, ↓nn_33, ↓nn_89, ↓nn_90, ↓nn_91, ↓nn_92, ↓nn_93, ↓nn_94, ↓nn_95, ↓nn_96, ↓nn_97, ↓nn_98, ↓nn_99, ↓nn_100, ↓nn_101, ↓nn_102, ↓nn_103, ↓nn_104, ↓nn_105, ↓nn_106, ↓nn_107, ↓nn_108, p_bs, p_rq0, p_rq1, p_rz0, p_rz1, p_us, p_un, p_uj, ↓reduceIte, hiw1', hr', h27', v_ng0 hHW', t_b0, Bool.true_eq_false, n1']
      · refine v_keep0 n3' ⟨fun c' z1' z2' => ?_, ?_, fun j' z1' z2' z3' z4' z5' z6' z7' => ?_, fun j' _ => ?_, fun j' _ => ?_, fun c' z1' z2' z3' z4' => ?_⟩
        · by_cases hc' : 87 ≤ c' ∧ c' < 109
          · rw [t_mxR _ _ hc']
          · rw [t_mxC _ _ hc', n2' c' hc', p_uc _ _ _ _ _ (by omega)]; exact d4' c' (by omega)
        · rw [t_mxC _ _ (by decide), n2' 37 (by decide), p_uc _ _ _ _ _ (by omega), d4' 37 (by decide)]
        · rw [t_mxR _ _ (by decide)]
        · rw [t_mxR _ _ (by decide)]
        · rw [t_mxR _ _ (by decide)]
        · rw [t_mxC _ _ (by omega), n2' c' (by omega), p_uc _ _ _ _ _ (by omega)]; exact d4' c' (by omega)
    · rw [hz'] at h18'
      refine ⟨-1, I', _, X', A'.2.2.1, ?_, ?_, v_thr h'⟩
      · unfold F_X11_perform
        simp (disch := omega) only [↓ce_36 hB', rf_36 hB', ↓nn_38, ↓nn_40, ↓nn_45, ↓nn_50, ↓nn_52, ↓nn_53, ↓nn_54, ↓nn_56, ↓nn_58, ↓nn_64, ↓nn_67, ↓nn_68, ↓nn_84, p_bs, p_rq0, p_rq1, p_rz0, p_rz1, p_us, p_un, p_uj, ↓reduceIte, hwk', h18', t_b0]
      · have := (v_thr h').2.2.2.1.2.2.1.2.2.2.2
        rw [(v_zf h' hz').2] at this
        unfold F_X12_perform
        simp (disch := omega) only [↓ce_87 hB', rf_87 hB', ↓nn_31, ↓nn_33, ↓nn_89, ↓nn_90, ↓nn_91, ↓nn_92, ↓nn_93, ↓nn_94, ↓nn_95, ↓nn_96, ↓nn_97, ↓nn_98, ↓nn_99, ↓nn_100, ↓nn_101, ↓nn_102, ↓nn_103, ↓nn_104, ↓nn_105, ↓nn_106, ↓nn_107, ↓nn_108, p_bs, p_rq0, p_rq1, p_rz0, p_rz1, p_us, p_un, p_uj, ↓reduceIte, hiw', hr', this, show Int32.ofNat 0 = 0 from rfl, t_b0, Bool.true_eq_false]
end PA'
