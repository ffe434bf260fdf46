/-! days ahead, on a row put aside -/
noncomputable def t_yi (H' : t_H) (L' : t_L) (s' : Nat → Int32) : Nat → (Nat → Int32)
  | 0 => s'
  | i' + 1 => t_ps H' L' (t_yi H' L' s' i')
section PQ'
variable {X' : p_X} {I' : p_I} {H' : t_H} {L' : t_L} {s' : Nat → Int32}
theorem t_yiW (hW' : t_HW H') (hS' : t_WF H' s') {D' : Nat} (hD' : s' 0 = Int32.ofNat D') (n' : Nat) (hn' : D' + n' ≤ 2000) : t_WF H' (t_yi H' L' s' n') ∧ t_yi H' L' s' n' 0 = Int32.ofNat (D' + n') := by
  induction n' with
  | zero => exact ⟨hS', hD'⟩
  | succ n' ih' =>
    obtain ⟨h1', h2'⟩ := ih' (by omega)
    exact t_psW (D' := D' + n') hW' h1' h2' (by omega)
theorem s_aheadLp (hB' : p_B X') (hH' : t_HI H' I') (hW' : t_HW H') (hL' : t_LC L' X' I') (hS' : t_WF H' (I' 69)) {D' : Nat} (hD' : I' 69 0 = Int32.ofNat D') (n' : Nat) (hn' : D' + n' ≤ 2000) : ∃ J', q_lp (fun z' => B_X2_layAhead_10 67 (Int32.ofNat n') z'.1 z'.2) q_fu ((0 : Int32), (I', X')) = some (J', X') ∧ (∀ c', c' ≠ 63 → c' ≠ 64 → c' ≠ 65 → c' ≠ p_sc X' → c' ≠ 69 → J' c' = I' c') ∧ J' 69 = t_yi H' L' (I' 69) n' := by
  have hsc' := p_scN hL'
  obtain ⟨z', h1', J', rfl, j1', j2'⟩ := p_lp (fun z' => B_X2_layAhead_10 67 (Int32.ofNat n') z'.1 z'.2) (fun i' z' => ∃ J', z' = (Int32.ofNat i', (J', X')) ∧ (∀ c', c' ≠ 63 → c' ≠ 64 → c' ≠ 65 → c' ≠ p_sc X' → c' ≠ 69 → J' c' = I' c') ∧ J' 69 = t_yi H' L' (I' 69) i')
    (fun z' => ∃ J', z' = (J', X') ∧ (∀ c', c' ≠ 63 → c' ≠ 64 → c' ≠ 65 → c' ≠ p_sc X' → c' ≠ 69 → J' c' = I' c') ∧ J' 69 = t_yi H' L' (I' 69) n') n' (by
      rintro i' z' hi' ⟨J', rfl, j1', j2'⟩
      unfold B_X2_layAhead_10
      by_cases hlt' : i' < n'
      · left
        have hw' := t_yiW (L' := L') hW' hS' hD' i' (by omega)
        obtain ⟨K', k1', k2', k3', k4'⟩ := s_pass (I' := J') (k' := 68) (L' := L') hB' (t_HIk hH' (fun c' h1' h2' => j1' c' (by omega) (by omega) (by omega) (by omega) (by omega))) hW' (by omega) (by rw [j2']; exact hw'.1) (t_LCk hL' (fun c' h1' h2' => j1' c' (by omega) (by omega) (by omega) h2' (by omega)))
        simp (disch := omega) only [↓ce_67 hB', rf_67 hB', ↓ce_63 hB', rf_63 hB', ↓ce_68 hB', rf_68 hB', ↓nn_40, ↓nn_64, ↓nn_65, ↓nn_66, ↓nn_67, ↓nn_69, ↓nn_70, ↓nn_71, ↓nn_72, ↓nn_73, p_bs, p_rq0, p_rq1, p_rz0, p_rz1, p_us, p_un, p_uj, ↓reduceIte, p_lt, hlt', k1', p_ar]
        refine ⟨_, rfl, True.intro, K', rfl, fun c' h1' h2' h3' h4' h5' => by rw [k2' c' h1' h2' h3' h4' h5']; exact j1' c' h1' h2' h3' h4' h5', ?_⟩
        have k4'' : K' 69 = t_ps H' L' (J' 69) := k4'
        rw [k4'', j2']
        rfl
      · right
        have hi'' : i' = n' := by omega
        subst hi''
        simp (disch := omega) only [p_bs, p_rq0, p_rq1, p_rz0, p_rz1, p_us, p_un, p_uj, ↓reduceIte, p_lt, Nat.lt_irrefl]
        exact ⟨_, rfl, J', rfl, j1', j2'⟩) n' 0 q_fu (0, (I', X')) (by omega) (by unfold q_fu; omega) ⟨I', rfl, fun _ _ _ _ _ _ => rfl, rfl⟩
  exact ⟨J', h1', j1', j2'⟩
theorem s_ahead (hB' : p_B X') (hH' : t_HI H' I') (hW' : t_HW H') (hL' : t_LC L' X' I') (hS' : t_WF H' (I' 54)) {D' : Nat} (hD' : I' 54 0 = Int32.ofNat D') (n' : Nat) (hn' : D' + n' ≤ 2000) : ∃ J' s', F_X2_layAhead 67 53 (Int32.ofNat n') (I', X') = some ((), (J', X')) ∧ (∀ j', j' < 31 → s' j' = I' 54 j') ∧ (∀ c', c' ≠ 63 → c' ≠ 64 → c' ≠ 65 → c' ≠ p_sc X' → c' ≠ 69 → J' c' = I' c') ∧ t_EV H' (t_yi H' L' s' n') J' := by
  have hsc' := p_scN hL'
  obtain ⟨J1', a1', a2', a3'⟩ := s_copyFrom (I' := I') (k1' := 68) (k2' := 53) hB' (by omega) (by omega)
  have a2'' : ∀ c', c' ≠ 69 → J1' c' = I' c' := a2'
  have a3'' : ∀ j', j' < 31 → J1' 69 j' = I' 54 j' := a3'
  obtain ⟨J2', b1', b2', b3'⟩ := s_aheadLp (I' := J1') (L' := L') hB' (t_HIk hH' (fun c' h1' h2' => a2'' c' (by omega))) hW' (t_LCk hL' (fun c' h1' h2' => a2'' c' (by omega))) (t_WFa hS' a3'') (D' := D') (by rw [a3'' 0 (by decide)]; exact hD') n' hn'
  have hw' := t_yiW (L' := L') hW' (t_WFa hS' a3'') (D' := D') (by rw [a3'' 0 (by decide)]; exact hD') n' hn'
  obtain ⟨J3', c1', c2', c3'⟩ := s_lay (I' := J2') (k' := 68) hB' (t_HIk hH' (fun c' h1' h2' => by rw [b2' c' (by omega) (by omega) (by omega) (by omega) (by omega)]; exact a2'' c' (by omega))) hW' (by omega) (by show t_WF H' (J2' 69); rw [b3']; exact hw'.1)
  refine ⟨J3', J1' 69, ?_, a3'', fun c' h1' h2' h3' h4' h5' => by rw [c2' c' h1' h2', b2' c' h1' h2' h3' h4' h5']; exact a2'' c' h5', ?_⟩
  · unfold F_X2_layAhead
    simp (disch := omega) only [↓ce_67 hB', rf_67 hB', ↓ce_68 hB', rf_68 hB', ↓ce_63 hB', rf_63 hB', ↓nn_40, ↓nn_64, ↓nn_65, ↓nn_66, ↓nn_67, ↓nn_69, ↓nn_70, ↓nn_71, ↓nn_72, ↓nn_73, p_bs, p_rq0, p_rq1, p_rz0, p_rz1, p_us, p_un, p_uj, ↓reduceIte, a1', b1', c1']
  · have c3'' : t_EV H' (J2' 69) J3' := c3'
    rw [b3'] at c3''
    exact c3''
theorem s_mcopy (hB' : p_B X') : ∃ J', F_X12_copy 100 101 (I', X') = some ((), (J', X')) ∧ (∀ c', c' ≠ 101 → J' c' = I' c') ∧ (∀ j', j' < 36 → J' 101 j' = I' 100 j') ∧ J' 101 36 = 0 := by
  obtain ⟨z', h1', J', rfl, j1', j2'⟩ := p_lp (fun z' => B_X12_copy_2 100 101 z'.1 z'.2) (fun i' z' => ∃ J', z' = (Int32.ofNat i', (J', X')) ∧ (∀ c', c' ≠ 101 → J' c' = I' c') ∧ (∀ x', x' < i' → J' 101 x' = I' 100 x'))
    (fun z' => ∃ J', z' = (J', X') ∧ (∀ c', c' ≠ 101 → J' c' = I' c') ∧ (∀ x', x' < 36 → J' 101 x' = I' 100 x')) 36 (by
      rintro i' z' hi' ⟨J', rfl, j1', j2'⟩
      have hl8' : (Int32.ofNat i' < 36) = (i' < 36) := p_lt i' 36 (by omega) (by decide)
      unfold B_X12_copy_2
      by_cases hlt' : i' < 36
      · left
        simp (disch := omega) only [↓ce_100 hB', ↓ce_101 hB', p_bs, p_rq0, p_rq1, p_rz0, p_rz1, p_us, p_un, p_uj, ↓reduceIte, hl8', hlt', p_ar]
        refine ⟨_, rfl, True.intro, _, rfl, fun c' hc' => by rw [p_uc _ _ _ _ _ hc']; exact j1' c' hc', fun x' hx' => ?_⟩
        by_cases e' : x' = i'
        · subst e'; rw [p_us, j1' 100 (by decide)]
        · rw [p_uj _ _ _ _ _ (by omega)]; exact j2' x' (by omega)
      · right
        have hi'' : i' = 36 := by omega
        subst hi''
        simp (disch := omega) only [p_bs, p_rq0, p_rq1, p_rz0, p_rz1, p_us, p_un, p_uj, ↓reduceIte, hl8', Nat.lt_irrefl]
        exact ⟨_, rfl, J', rfl, j1', j2'⟩) 36 0 q_fu (0, (I', X')) (by omega) (by unfold q_fu; omega) ⟨I', rfl, fun _ _ => rfl, fun x' hx' => absurd hx' (by omega)⟩
  have ht' : ∀ f' : q_Mem → Option (Unit × q_Mem), q_tI (J', X') 101 36 0 f' = f' (q_u2 J' 101 36 0, X') := fun f' => p_tI (sh_101 hB') (by decide) (by decide) J' 36 0 f' (by decide)
  unfold F_X12_copy
  rw [h1']
  refine ⟨q_u2 J' 101 36 0, ?_, fun c' hc' => by rw [p_uc _ _ _ _ _ hc']; exact j1' c' hc', fun j' hj' => by rw [p_uj _ _ _ _ _ (by omega)]; exact j2' j' hj', p_us _ _ _ _⟩
  simp only [Option.bind_some]
  rw [ht']
theorem t_LU36 {w' w'' e' : Nat → Int32} (h' : t_LU w' w'' e') : ∃ n', n' ≤ 60 ∧ w'' 36 = Int32.ofNat n' := by
  obtain ⟨n', h1', h2', ⟨a1', a2', -⟩ | ⟨a1', a2', -⟩⟩ := h'
  · exact ⟨n' + 1, by omega, a2'⟩
  · exact ⟨60, by omega, a2'⟩
abbrev t_m87 (j' : Nat) : Prop := (8 ≤ j' ∧ j' ≤ 14) ∨ j' = 17 ∨ (37 ≤ j' ∧ j' ≤ 40)
theorem s_goOnLp (hB' : p_B X') (hS0' : p_S I') (hM' : t_HM H' I') (hW' : t_HW H') (hS' : t_WF H' s') (hR' : t_RS s' (I' 101)) (h36' : ∃ n', n' ≤ 60 ∧ I' 101 36 = Int32.ofNat n') (hL' : t_LM L' X' I') {D' : Nat} (hD' : s' 0 = Int32.ofNat D') (n' : Nat) (hn' : D' + n' ≤ 2000) : ∃ J' u', q_lp (fun z' => B_X12_goOn_13 87 (Int32.ofNat n') z'.1 z'.2) q_fu ((0 : Int32), (I', X')) = some (J', p_T X' u') ∧ (∀ c', c' ≠ 87 → c' ≠ 91 → c' ≠ 102 → c' ≠ 101 → J' c' = I' c') ∧ (∀ j', ¬ t_m87 j' → J' 87 j' = I' 87 j') ∧ t_RS (t_yi H' L' s' n') (J' 101) := by
  obtain ⟨z', h1', J', u', rfl, j1', j2', j3', j4'⟩ := p_lp (fun z' => B_X12_goOn_13 87 (Int32.ofNat n') z'.1 z'.2) (fun i' z' => ∃ J' u', z' = (Int32.ofNat i', (J', p_T X' u')) ∧ (∀ c', c' ≠ 87 → c' ≠ 91 → c' ≠ 102 → c' ≠ 101 → J' c' = I' c') ∧ (∀ j', ¬ t_m87 j' → J' 87 j' = I' 87 j') ∧ t_RS (t_yi H' L' s' i') (J' 101) ∧ ∃ n', n' ≤ 60 ∧ J' 101 36 = Int32.ofNat n')
    (fun z' => ∃ J' u', z' = (J', p_T X' u') ∧ (∀ c', c' ≠ 87 → c' ≠ 91 → c' ≠ 102 → c' ≠ 101 → J' c' = I' c') ∧ (∀ j', ¬ t_m87 j' → J' 87 j' = I' 87 j') ∧ t_RS (t_yi H' L' s' n') (J' 101) ∧ True) n' (by
      rintro i' z' hi' ⟨J', u', rfl, j1', j2', j3', m', j4', j5'⟩
      have hB0' := hB'
      have hB' := p_BT hB0' u'
      unfold B_X12_goOn_13
      by_cases hlt' : i' < n'
      · left
        have hw' := t_yiW (L' := L') hW' hS' hD' i' (by omega)
        obtain ⟨K', u'', k1', k2', k3', k4', k5'⟩ := s_goDay (I' := J') (s' := t_yi H' L' s' i') (c' := 101) (L' := L') hB' (fun c' hc' => by rw [j1' c' (by omega) (by omega) (by omega) (by omega)]; exact hS0' c' hc') (t_HMk hM' (j1' 92 (by decide) (by decide) (by decide) (by decide)) (j1' 94 (by decide) (by decide) (by decide) (by decide)) (j1' 96 (by decide) (by decide) (by decide) (by decide)) (j2' 26 (by omega)) (j2' 27 (by omega))) hW' hw'.1 (.inr rfl) j3' (t_LMk (t_LMT hL' u') (j2' 34 (by omega)) (j1' 89 (by decide) (by decide) (by decide) (by decide)) (j1' 90 (by decide) (by decide) (by decide) (by decide))) hw'.2 (by omega) j4' j5'
        rw [p_TT] at k1'
        simp (disch := omega) only [↓ce_87 hB', rf_87 hB', ↓nn_31, ↓nn_33, ↓nn_89, ↓nn_90, ↓nn_91, ↓nn_92, ↓nn_93, ↓nn_94, ↓nn_95, ↓nn_96, ↓nn_97, ↓nn_98, ↓nn_99, ↓nn_100, ↓nn_101, ↓nn_102, ↓nn_103, ↓nn_104, ↓nn_105, ↓nn_106, ↓nn_107, ↓nn_108, p_bs, p_rq0, p_rq1, p_rz0, p_rz1, p_us, p_un, p_uj, ↓reduceIte, p_lt, hlt', k1', p_ar]
        refine ⟨_, rfl, True.intro, K', u'', rfl, fun c' h1' h2' h3' h4' => by rw [k2' c' h1' h2' h3' h4']; exact j1' c' h1' h2' h3' h4', fun j' hj' => by rw [k3' j' (by omega) (by omega) (by omega)]; exact j2' j' hj', k4', t_LU36 k5'⟩
      · right
        have hi'' : i' = n' := by omega
        subst hi''
        simp (disch := omega) only [p_bs, p_rq0, p_rq1, p_rz0, p_rz1, p_us, p_un, p_uj, ↓reduceIte, p_lt, Nat.lt_irrefl]
        exact ⟨_, rfl, J', u', rfl, j1', j2', j3', True.intro⟩) n' 0 q_fu (0, (I', X')) (by omega) (by unfold q_fu; omega) ⟨I', X'.2.1 87 5, by rw [p_Ts]; rfl, fun _ _ _ _ _ => rfl, fun _ _ => rfl, hR', h36'⟩
  exact ⟨J', u', h1', j1', j2', j3'⟩
theorem s_goOn (hB' : p_B X') (hS0' : p_S I') (hM' : t_HM H' I') (hW' : t_HW H') (hS' : t_WF H' s') (hR' : t_RS s' (I' 100)) (hL' : t_LM L' X' I') {D' : Nat} (hD' : s' 0 = Int32.ofNat D') (n' : Nat) (hn' : D' + n' ≤ 2000) : ∃ J' u', F_X12_goOn 87 (Int32.ofNat n') (I', X') = some ((), (J', p_T X' u')) ∧ (∀ c', c' ≠ 87 → c' ≠ 91 → c' ≠ 102 → c' ≠ 101 → J' c' = I' c') ∧ (∀ j', ¬ t_m87 j' → J' 87 j' = I' 87 j') ∧ t_RS (t_yi H' L' s' n') (J' 101) := by
  obtain ⟨J1', a1', a2', a3', a4'⟩ := s_mcopy (I' := I') hB'
  obtain ⟨J', u', b1', b2', b3', b4'⟩ := s_goOnLp (I' := J1') (L' := L') hB' (fun c' hc' => by rw [a2' c' (by omega)]; exact hS0' c' hc') (t_HMk hM' (a2' _ (by decide)) (a2' _ (by decide)) (a2' _ (by decide)) (by rw [a2' 87 (by decide)]) (by rw [a2' 87 (by decide)])) hW' hS' (t_RSk hR' a3') ⟨0, by omega, a4'⟩ (t_LMk hL' (by rw [a2' 87 (by decide)]) (a2' _ (by decide)) (a2' _ (by decide))) hD' n' hn'
  refine ⟨J', u', ?_, fun c' h1' h2' h3' h4' => by rw [b2' c' h1' h2' h3' h4']; exact a2' c' h4', fun j' hj' => by rw [b3' j' hj', a2' 87 (by decide)], b4'⟩
  unfold F_X12_goOn
  simp (disch := omega) only [↓ce_87 hB', rf_87 hB', ↓nn_31, ↓nn_33, ↓nn_89, ↓nn_90, ↓nn_91, ↓nn_92, ↓nn_93, ↓nn_94, ↓nn_95, ↓nn_96, ↓nn_97, ↓nn_98, ↓nn_99, ↓nn_100, ↓nn_101, ↓nn_102, ↓nn_103, ↓nn_104, ↓nn_105, ↓nn_106, ↓nn_107, ↓nn_108, p_bs, p_rq0, p_rq1, p_rz0, p_rz1, p_us, p_un, p_uj, ↓reduceIte, a1', b1']
end PQ'
