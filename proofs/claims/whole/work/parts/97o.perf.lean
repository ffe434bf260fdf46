/-! perform: acts one behind the other, first the class's, then the reference's -/
def t_KI (H' : t_H) (L' : t_L) (X' : p_X) (I' : p_I) : Prop := I' 36 18 = t_b true ∧ t_HI H' I' ∧ t_LC L' X' I' ∧ t_GS H' (I' 54) ∧ ∃ k' m', k' ≤ 40 ∧ m' < 40 ∧ I' 57 6 = Int32.ofNat k' ∧ I' 57 5 = Int32.ofNat m'
/-- the class's cells of one memory, the reference's of another -/
def t_mx (C' R' : p_I) (c' : Nat) : Nat → Int32 := if 87 ≤ c' ∧ c' < 109 then R' c' else C' c'
theorem t_mxC (C' R' : p_I) {c' : Nat} (h' : ¬ (87 ≤ c' ∧ c' < 109)) : t_mx C' R' c' = C' c' := if_neg h'
theorem t_mxR (C' R' : p_I) {c' : Nat} (h' : 87 ≤ c' ∧ c' < 109) : t_mx C' R' c' = R' c' := if_pos h'
section PA'
variable {X' : p_X} {I' : p_I} {H' : t_H} {L' : t_L}
theorem s_actC (hB' : p_B X') (hHW' : t_HW H') (hK' : t_KI H' L' X' I') {D' : Nat} (w3' : I' 54 0 = Int32.ofNat D') (w4' : D' ≤ 999) (op' : Nat) (hop' : op' < 6) (a' b' : Int32) : ∃ J', F_X11_act 36 (Int32.ofNat op') a' b' (I', X') = some (t_b (t_can H' (I' 54) op' a' b'), (J', X')) ∧ (t_can H' (I' 54) op' a' b' = false → ∀ c', c' ≠ 56 → J' c' = I' c') ∧ (t_can H' (I' 54) op' a' b' = true → t_AC X' H' L' D' op' a' b' I' J') := by
  obtain ⟨h18', hHI', hLC', ⟨w1', w5', -⟩, k', m', q1', q2', q3', q4'⟩ := hK'
  have hscN : p_sc X' = 65 ∨ 111 ≤ p_sc X' := p_scN hLC'
  obtain ⟨J1', a1', a2', a3'⟩ := s_copyFrom (I' := I') (k1' := 55) (k2' := 53) hB' (by omega) (by omega)
  have e54' : J1' 54 = I' 54 := a2' 54 (by decide)
  obtain ⟨J2', b1', b2', b3', b4', b5'⟩ := s_carry (I' := J1') (k' := 53) (L' := L') hB' (t_HIk hHI' (fun c' h1' h2' => a2' c' (by omega))) hHW' (by omega) (by rw [e54']; exact w1') (t_LCk hLC' (fun c' h1' h2' => a2' c' (by omega))) op' hop' a' b'
  simp only [e54', Nat.reduceAdd] at b1' b2' b3' b4' b5'
  cases hcan : t_can H' (I' 54) op' a' b'
  · have e2' := b4' hcan
    subst e2'
    refine ⟨J2', ?_, fun _ => a2', (fun h' => by cases h')⟩
    unfold F_X11_act
    simp (disch := omega) only [↓ce_36 hB', rf_36 hB', ↓ce_53 hB', rf_53 hB', ↓ce_55 hB', rf_55 hB', ↓ce_66 hB', rf_66 hB', ↓nn_38, ↓nn_40, ↓nn_45, ↓nn_50, ↓nn_52, ↓nn_53, ↓nn_54, ↓nn_55, ↓nn_56, ↓nn_57, ↓nn_58, ↓nn_64, ↓nn_67, ↓nn_68, ↓nn_84, p_bs, p_rq0, p_rq1, p_rz0, p_rz1, p_us, p_un, p_uj, ↓reduceIte, h18', t_b0, a1', b1', hcan, Bool.true_eq_false]
    rfl
  · have b3'' := b3' hcan
    have k2' : ∀ c', c' ≠ 54 → c' ≠ 56 → c' ≠ 63 → c' ≠ 64 → c' ≠ 65 → c' ≠ p_sc X' → J2' c' = I' c' := fun c' h1' h2' h3' h4' h5' h6' => by rw [b2' c' h3' h4' h5' h6' h1']; exact a2' c' h2'
    have e57' : J2' 57 = I' 57 := k2' 57 (by decide) (by decide) (by decide) (by decide) (by decide) (by omega)
    have e56' : J2' 56 = J1' 56 := b2' 56 (by decide) (by decide) (by decide) (by omega) (by decide)
    have e58' : J2' 58 = I' 58 := k2' 58 (by decide) (by decide) (by decide) (by decide) (by decide) (by omega)
    have e59' : J2' 59 = I' 59 := k2' 59 (by decide) (by decide) (by decide) (by decide) (by decide) (by omega)
    obtain ⟨J3', c1', c2', c3', c4', c5', c6', c7'⟩ := s_keepAct (I' := J2') (k' := k') (m' := m') hB' q1' q2' (by rw [e57']; exact q3') (by rw [e57']; exact q4')
    have hkm' : ∀ k'' m'', k'' ≤ 40 → m'' < 40 → I' 57 6 = Int32.ofNat k'' → I' 57 5 = Int32.ofNat m'' → k'' = k' ∧ m'' = m' := fun k'' m'' h1' h2' h3' h4' => by
      rw [q3'] at h3'
      rw [q4'] at h4'
      have := p_inj h3' (by omega) (by omega)
      have := p_inj h4' (by omega) (by omega)
      omega
    have base : ∀ J', (∀ c', c' ≠ 59 → J' c' = J3' c') → (∀ x', (op' = 0 → ¬ (D' % 128 * 3 ≤ x' ∧ x' < D' % 128 * 3 + 3)) → J' 59 x' = J3' 59 x') → (op' = 0 → J' 63 10 = t_B (t_fd H' (I' 54)) ∧ ∀ q', q' < 3 → J' 59 (D' % 128 * 3 + q') = t_e3 (t_ds H' (I' 54)) (t_B (t_fd H' (I' 54))) (t_sm (J' 54) 6) q') → t_AC X' H' L' D' op' a' b' I' J' := by
      intro J' j1' j2' j3'
      refine ⟨fun c' h1' h2' h3' h4' h5' h6' h7' h8' h9' => by rw [j1' c' h5', c2' c' h3' h4']; exact k2' c' h1' h2' h6' h7' h8' h9', by rw [j1' 54 (by decide), c2' 54 (by decide) (by decide)]; exact b3'', fun j' hj' => by rw [j1' 56 (by decide), c2' 56 (by decide) (by decide), e56']; exact a3' j' hj', fun j' h1' h2' => by rw [j1' 57 (by decide), c3' j' h1' h2', e57'], fun k'' m'' h1' h2' h3' h4' => ?_, fun x' hx' => by rw [j2' x' hx', c2' 59 (by decide) (by decide), e59'], j3'⟩
      obtain ⟨rfl, rfl⟩ := hkm' k'' m'' h1' h2' h3' h4'
      exact ⟨by rw [j1' 57 (by decide)]; exact c4', by rw [j1' 57 (by decide)]; exact c5', fun x' hx' => by rw [j1' 58 (by decide), c6' x' hx', e58'], fun i' hi' => by rw [j1' 58 (by decide), c7' i' hi', e56']; exact a3' i' hi'⟩
    by_cases e' : op' = 0
    · subst e'
      have hev' := b5' rfl hcan
      obtain ⟨v1', v2', v3', v4', v5', v6', v7', v8', v9'⟩ := hev'
      have hps' := t_psW (L' := L') hHW' w1' w3' (by omega)
      have hJ54' : J3' 54 = t_ps H' L' (I' 54) := by rw [c2' 54 (by decide) (by decide)]; exact b3''
      obtain ⟨J4', d1', d2', d3', d4'⟩ := s_writeLog (I' := J3') (D' := D') hB' (by omega) (by rw [hJ54']; exact hps'.2)
      have e63' : J3' 63 = J2' 63 := c2' 63 (by decide) (by decide)
      refine ⟨J4', ?_, (fun h' => by cases h'), fun _ => base J4' d2' (fun x' hx' => d3' x' (hx' rfl)) (fun _ => ⟨by rw [d2' 63 (by decide), e63']; exact v7', fun q' hq' => by rw [d4' q' hq', d2' 54 (by decide), e63', v4', v7']⟩)⟩
      unfold F_X11_act
      have b1'' : F_X0_carryOut 66 53 0 a' b' (J1', X') = some (t_b (t_can H' (I' 54) 0 a' b'), (J2', X')) := b1'
      simp (disch := omega) only [↓ce_36 hB', rf_36 hB', ↓ce_53 hB', rf_53 hB', ↓ce_55 hB', rf_55 hB', ↓ce_57 hB', rf_57 hB', ↓ce_63 hB', rf_63 hB', ↓ce_66 hB', rf_66 hB', ↓nn_38, ↓nn_40, ↓nn_45, ↓nn_50, ↓nn_52, ↓nn_53, ↓nn_54, ↓nn_55, ↓nn_56, ↓nn_57, ↓nn_58, ↓nn_59, ↓nn_60, ↓nn_61, ↓nn_62, ↓nn_64, ↓nn_65, ↓nn_66, ↓nn_67, ↓nn_68, ↓nn_84, p_bs, p_rq0, p_rq1, p_rz0, p_rz1, p_us, p_un, p_uj, ↓reduceIte, h18', t_b0, a1', b1'', hcan, Bool.true_eq_false, c1', d1', show Int32.ofNat 0 = 0 from rfl]
      rfl
    · have ho' : (Int32.ofNat op' = 0) = False := by
        apply eq_false
        intro h'
        exact e' (p_inj (show Int32.ofNat op' = Int32.ofNat 0 from h') (by omega) (by omega))
      refine ⟨J3', ?_, (fun h' => by cases h'), fun _ => base J3' (fun _ _ => rfl) (fun _ _ => rfl) (fun h' => absurd h' e')⟩
      unfold F_X11_act
      simp (disch := omega) only [↓ce_36 hB', rf_36 hB', ↓ce_53 hB', rf_53 hB', ↓ce_55 hB', rf_55 hB', ↓ce_57 hB', rf_57 hB', ↓ce_63 hB', rf_63 hB', ↓ce_66 hB', rf_66 hB', ↓nn_38, ↓nn_40, ↓nn_45, ↓nn_50, ↓nn_52, ↓nn_53, ↓nn_54, ↓nn_55, ↓nn_56, ↓nn_57, ↓nn_58, ↓nn_59, ↓nn_60, ↓nn_61, ↓nn_62, ↓nn_64, ↓nn_65, ↓nn_66, ↓nn_67, ↓nn_68, ↓nn_84, p_bs, p_rq0, p_rq1, p_rz0, p_rz1, p_us, p_un, p_uj, ↓reduceIte, h18', t_b0, a1', b1', hcan, Bool.true_eq_false, c1', ho']
      rfl
theorem t_KIa (hHW' : t_HW H') (hK' : t_KI H' L' X' I') {D' op' : Nat} {a' b' : Int32} {J' : p_I} (hop' : op' < 6) (hcan : t_can H' (I' 54) op' a' b' = true) (hac' : t_AC X' H' L' D' op' a' b' I' J') : t_KI H' L' X' J' := by
  obtain ⟨h18', hHI', hLC', hG', k', m', q1', q2', q3', q4'⟩ := hK'
  have hsc' := p_scN hLC'
  obtain ⟨a1', a2', a3', a4', a5', a6', a7'⟩ := hac'
  obtain ⟨d1', d2', d3', d4'⟩ := a5' k' m' q1' q2' q3' q4'
  refine ⟨by rw [a1' 36 (by decide) (by decide) (by decide) (by decide) (by decide) (by decide) (by decide) (by decide) (by omega)]; exact h18', t_HIk hHI' (fun c' h1' h2' => a1' c' (by omega) (by omega) (by omega) (by omega) (by omega) (by omega) (by omega) (by omega) (by omega)), t_LCk hLC' (fun c' h1' h2' => a1' c' (by omega) (by omega) (by omega) (by omega) (by omega) (by omega) (by omega) (by omega) h2'), ?_, min (k' + 1) 40, (if m' + 1 < 40 then m' + 1 else 0), by omega, by split <;> omega, d2', d1'⟩
  rw [a2']
  exact t_GSd hHW' hG' hop' hcan
theorem t_ACmx {X'' : p_X} (hX' : p_sc X'' = p_sc X') {D' op' : Nat} {a' b' : Int32} {C' C'' R' : p_I} (hac' : t_AC X' H' L' D' op' a' b' C' C'') : t_AC X'' H' L' D' op' a' b' (t_mx C' R') (t_mx C'' R') := by
  obtain ⟨a1', a2', a3', a4', a5', a6', a7'⟩ := hac'
  have n' : ∀ (C' : p_I) c', c' < 87 → t_mx C' R' c' = C' c' := fun C' c' h' => t_mxC C' R' (by omega)
  refine ⟨fun c' h1' h2' h3' h4' h5' h6' h7' h8' h9' => ?_, ?_, ?_, ?_, ?_, ?_, ?_⟩
  · by_cases e' : 87 ≤ c' ∧ c' < 109
    · rw [t_mxR _ _ e', t_mxR _ _ e']
    · rw [t_mxC _ _ e', t_mxC _ _ e']
      exact a1' c' h1' h2' h3' h4' h5' h6' h7' h8' (by rw [← hX']; exact h9')
  · rw [n' C'' 54 (by decide), n' C' 54 (by decide)]; exact a2'
  · rw [n' C'' 56 (by decide), n' C' 54 (by decide)]; exact a3'
  · rw [n' C'' 57 (by decide), n' C' 57 (by decide)]; exact a4'
  · rw [n' C'' 57 (by decide), n' C' 57 (by decide), n' C'' 58 (by decide), n' C' 58 (by decide), n' C' 54 (by decide)]; exact a5'
  · rw [n' C'' 59 (by decide), n' C' 59 (by decide)]; exact a6'
  · rw [n' C'' 63 (by decide), n' C'' 59 (by decide), n' C'' 54 (by decide), n' C' 54 (by decide)]; exact a7'
theorem t_RMmx {C' R' R'' : p_I} (h0' : R' 87 0 = 0) (h' : t_RM R' R'') : t_RM (q_u2 (t_mx C' R') 87 0 0) (t_mx C' R'') := by
  have e' : q_u2 (t_mx C' R') 87 0 0 = t_mx C' R' := by
    funext c' j'
    by_cases e1' : c' = 87
    · subst e1'
      by_cases e2' : j' = 0
      · subst e2'
        rw [p_us, t_mxR _ _ (by decide), h0']
      · rw [p_uj _ _ _ _ _ e2']
    · rw [p_uc _ _ _ _ _ e1']
  rw [e']
  obtain ⟨b1', b2', b3'⟩ := h'
  have n' : ∀ (R' : p_I) c', 87 ≤ c' ∧ c' < 109 → t_mx C' R' c' = R' c' := fun R' c' h' => t_mxR C' R' h'
  refine ⟨fun c' h1' h2' => ?_, ?_, ?_⟩
  · by_cases e' : 87 ≤ c' ∧ c' < 109
    · rw [t_mxR _ _ e', t_mxR _ _ e']; exact b1' c' h1' h2'
    · rw [t_mxC _ _ e', t_mxC _ _ e']
  · rw [n' R'' 87 (by decide), n' R' 87 (by decide)]; exact b2'
  · rw [n' R'' 87 (by decide), n' R' 87 (by decide), n' R'' 103 (by decide), n' R' 103 (by decide), n' R' 100 (by decide)]; exact b3'
/-- a row of acts of the class -/
def t_SQ (X' : p_X) (H' : t_H) (L' : t_L) (e' : Nat → Int32) (I' : p_I) (C' : Nat → p_I) (m' : Nat) : Prop := C' 0 = I' ∧ (∀ j', j' ≤ m' → (∀ c', c' ≠ 54 → c' ≠ 56 → c' ≠ 57 → c' ≠ 58 → c' ≠ 59 → c' ≠ 63 → c' ≠ 64 → c' ≠ 65 → c' ≠ p_sc X' → C' j' c' = I' c') ∧ t_KI H' L' X' (C' j')) ∧ ∀ j', j' < m' → t_can H' (C' j' 54) (yq_op e' j') (e' (3 * j' + 1)) (e' (3 * j' + 2)) = true ∧ t_AC X' H' L' (C' j' 54 0).toNatClampNeg (yq_op e' j') (e' (3 * j' + 1)) (e' (3 * j' + 2)) (C' j') (C' (j' + 1))
theorem s_perfC (hB' : p_B X') (hW' : t_HW H') (hK' : t_KI H' L' X' I') {wd' sz' : Nat} (hws' : t_WS wd' X') (hne' : wd' ≠ p_sc X' ∧ wd' + 1 ≠ p_sc X') (hsz' : sz' ≤ 16) (hs1' : I' wd' 1 = Int32.ofNat sz') {e' : Nat → Int32} (he' : I' (wd' + 1) = e') (hq' : ∀ j', j' < sz' → ∃ q', q' < 5 ∧ e' (3 * j') = Int32.ofNat q') : ∃ z' C' m' J', q_lp (fun z' => B_X11_perform_21 36 wd' z'.1 z'.2) q_fu ((0 : Int32), (I', X')) = some z' ∧ m' ≤ sz' ∧ t_SQ X' H' L' e' I' C' m' ∧ (∀ c', c' ≠ 56 → J' c' = C' m' c') ∧ ((z' = .inl (Int32.ofNat m', (J', X')) ∧ m' < sz' ∧ t_can H' (C' m' 54) (yq_op e' m') (e' (3 * m' + 1)) (e' (3 * m' + 2)) = false) ∨ (z' = .inr (J', X') ∧ m' = sz')) := by
  have hsc' := p_scN hK'.2.2.1
  obtain ⟨w1', w2', w3', w4', w5'⟩ := id hws'
  obtain ⟨z', h1', C', m', J', h2'⟩ := p_lp (fun z' => B_X11_perform_21 36 wd' z'.1 z'.2) (fun i' z' => ∃ C', z' = (Int32.ofNat i', (C' i', X')) ∧ t_SQ X' H' L' e' I' C' i')
    (fun z' => ∃ C' m' J', m' ≤ sz' ∧ t_SQ X' H' L' e' I' C' m' ∧ (∀ c', c' ≠ 56 → J' c' = C' m' c') ∧ ((z' = .inl (Int32.ofNat m', (J', X')) ∧ m' < sz' ∧ t_can H' (C' m' 54) (yq_op e' m') (e' (3 * m' + 1)) (e' (3 * m' + 2)) = false) ∨ (z' = .inr (J', X') ∧ m' = sz'))) sz' (by
      rintro i' z' hi' ⟨C', rfl, j0', j1', j2'⟩
      obtain ⟨f', hKi'⟩ := j1' i' (Nat.le_refl _)
      have ew' : C' i' wd' = I' wd' := f' wd' (by omega) (by omega) (by omega) (by omega) (by omega) (by omega) (by omega) (by omega) hne'.1
      have ew1' : C' i' (wd' + 1) = e' := by rw [← he']; exact f' (wd' + 1) (by omega) (by omega) (by omega) (by omega) (by omega) (by omega) (by omega) (by omega) hne'.2
      have l1'' : C' i' wd' 1 = Int32.ofNat sz' := by rw [ew']; exact hs1'
      have hlt8' : (Int32.ofNat i' < Int32.ofNat sz') = (i' < sz') := p_lt i' sz' (by omega) (by omega)
      unfold B_X11_perform_21
      by_cases hlt' : i' < sz'
      · obtain ⟨q', q1', q2'⟩ := hq' i' hlt'
        have o0' : F_X10_ofStep wd' (Int32.ofNat i') 0 (C' i', X') = some (Int32.ofNat q') := by
          have := s_ofStep (I' := C' i') hws' i' 0 (by omega)
          rw [ew1', show 3 * i' + 0 = 3 * i' from rfl, q2'] at this
          exact this
        have o1' : F_X10_ofStep wd' (Int32.ofNat i') 1 (C' i', X') = some (e' (3 * i' + 1)) := by
          have := s_ofStep (I' := C' i') hws' i' 1 (by omega)
          rw [ew1'] at this
          exact this
        have o2' : F_X10_ofStep wd' (Int32.ofNat i') 2 (C' i', X') = some (e' (3 * i' + 2)) := by
          have := s_ofStep (I' := C' i') hws' i' 2 (by omega)
          rw [ew1'] at this
          exact this
        have hop' : yq_op e' i' = q' := by unfold yq_op; rw [q2']; exact p_nat q' (by omega)
        obtain ⟨D', hD', hD''⟩ := hKi'.2.2.2.1.2.2
        obtain ⟨K', k1', k2', k3'⟩ := s_actC (I' := C' i') (L' := L') hB' hW' hKi' hD' hD'' q' (by omega) (e' (3 * i' + 1)) (e' (3 * i' + 2))
        cases hb' : t_can H' (C' i' 54) q' (e' (3 * i' + 1)) (e' (3 * i' + 2))
        · right
          rw [hb'] at k1'
          simp (disch := omega) only [p_gI w1', p_ob w1', l1'', hlt8', hlt', ↓reduceIte]
          simp (disch := omega) only [↓ce_36 hB', rf_36 hB', ↓nn_38, ↓nn_40, ↓nn_45, ↓nn_50, ↓nn_52, ↓nn_53, ↓nn_54, ↓nn_56, ↓nn_58, ↓nn_64, ↓nn_67, ↓nn_68, ↓nn_84, p_bs, p_rq0, p_rq1, p_rz0, p_rz1, p_us, p_un, p_uj, ↓reduceIte, o0', o1', o2', k1', t_b0]
          exact ⟨_, rfl, C', i', K', hi', ⟨j0', j1', j2'⟩, k2' hb', .inl ⟨rfl, hlt', by rw [hop']; exact hb'⟩⟩
        · left
          rw [hb'] at k1'
          simp (disch := omega) only [p_gI w1', p_ob w1', l1'', hlt8', hlt', ↓reduceIte]
          simp (disch := omega) only [↓ce_36 hB', rf_36 hB', ↓nn_38, ↓nn_40, ↓nn_45, ↓nn_50, ↓nn_52, ↓nn_53, ↓nn_54, ↓nn_56, ↓nn_58, ↓nn_64, ↓nn_67, ↓nn_68, ↓nn_84, p_bs, p_rq0, p_rq1, p_rz0, p_rz1, p_us, p_un, p_uj, ↓reduceIte, o0', o1', o2', k1', t_b0, Bool.true_eq_false, p_ar]
          have hac' := k3' hb'
          have hsx' : ∀ j', j' ≤ i' → (fun j' => if j' ≤ i' then C' j' else K') j' = C' j' := fun j' hj' => if_pos hj'
          have hsn' : (fun j' => if j' ≤ i' then C' j' else K') (i' + 1) = K' := if_neg (by omega)
          generalize hC' : (fun j' => if j' ≤ i' then C' j' else K') = C'' at hsx' hsn'
          refine ⟨_, rfl, True.intro, C'', by rw [hsn'], by rw [hsx' 0 (by omega)]; exact j0', fun j' hj' => ?_, fun j' hj' => ?_⟩
          · by_cases ej' : j' ≤ i'
            · rw [hsx' j' ej']; exact j1' j' ej'
            · have : j' = i' + 1 := by omega
              subst this
              rw [hsn']
              exact ⟨fun c' z1' z2' z3' z4' z5' z6' z7' z8' z9' => by rw [hac'.1 c' z1' z2' z3' z4' z5' z6' z7' z8' z9']; exact f' c' z1' z2' z3' z4' z5' z6' z7' z8' z9', t_KIa hW' hKi' (by omega) hb' hac'⟩
          · by_cases ej' : j' < i'
            · rw [hsx' j' (by omega), hsx' (j' + 1) (by omega)]; exact j2' j' ej'
            · have : j' = i' := by omega
              subst this
              rw [hsx' j' (by omega), hsn', hop', hD', p_nat D' (by omega)]
              exact ⟨hb', hac'⟩
      · right
        have hi'' : i' = sz' := by omega
        subst hi''
        simp (disch := omega) only [p_gI w1', l1'', hlt8', Nat.lt_irrefl, ↓reduceIte]
        exact ⟨_, rfl, C', i', C' i', Nat.le_refl _, ⟨j0', j1', j2'⟩, fun _ _ => rfl, .inr ⟨rfl, rfl⟩⟩) sz' 0 q_fu (0, (I', X')) (by omega) (by unfold q_fu; omega) ⟨fun _ => I', rfl, rfl, fun j' hj' => ⟨fun _ _ _ _ _ _ _ _ _ _ => rfl, hK'⟩, fun j' hj' => absurd hj' (by omega)⟩
  exact ⟨z', C', m', J', h1', h2'⟩
end PA'
