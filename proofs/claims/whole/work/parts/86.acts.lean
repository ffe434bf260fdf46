/-! an act of the class -/
def t_AC (X' : p_X) (H' : t_H) (L' : t_L) (D' op' : Nat) (a' b' : Int32) (I' J' : p_I) : Prop := (∀ c', c' ≠ 54 → c' ≠ 56 → c' ≠ 57 → c' ≠ 58 → c' ≠ 59 → c' ≠ 63 → c' ≠ 64 → c' ≠ 65 → c' ≠ p_sc X' → J' c' = I' c') ∧ J' 54 = t_do H' L' (I' 54) op' a' b' ∧ (∀ j', j' < 31 → J' 56 j' = I' 54 j') ∧ (∀ j', j' ≠ 5 → j' ≠ 6 → J' 57 j' = I' 57 j') ∧ (∀ k' m', k' ≤ 40 → m' < 40 → I' 57 6 = Int32.ofNat k' → I' 57 5 = Int32.ofNat m' → J' 57 5 = Int32.ofNat (if m' + 1 < 40 then m' + 1 else 0) ∧ J' 57 6 = Int32.ofNat (min (k' + 1) 40) ∧ (∀ x', ¬ (m' * 31 ≤ x' ∧ x' < m' * 31 + 31) → J' 58 x' = I' 58 x') ∧ (∀ i', i' < 31 → J' 58 (m' * 31 + i') = I' 54 i')) ∧ (∀ x', (op' = 0 → ¬ (D' % 128 * 3 ≤ x' ∧ x' < D' % 128 * 3 + 3)) → J' 59 x' = I' 59 x') ∧ (op' = 0 → J' 63 10 = t_B (t_fd H' (I' 54)) ∧ ∀ q', q' < 3 → J' 59 (D' % 128 * 3 + q') = t_e3 (t_ds H' (I' 54)) (t_B (t_fd H' (I' 54))) (t_sm (J' 54) 6) q')
theorem p_inj {a' b' : Nat} (h' : Int32.ofNat a' = Int32.ofNat b') (h1' : a' < 2147483648) (h2' : b' < 2147483648) : a' = b' := by
  have := p_toI a' h1'
  rw [h', p_toI b' h2'] at this
  omega
section PA'
variable {A' : v_A} {X' : p_X} {I' : p_I}
theorem s_act0 (h' : v_V A' I' X') (hzf' : A'.2.1 = false) (o' a' b' : Int32) : F_X11_act 36 o' a' b' (I', X') = some (0, (I', X')) := by
  obtain ⟨hB', hS', hT', hH', -⟩ := h'
  have h18' := hH'.1
  rw [hzf'] at h18'
  unfold F_X11_act
  simp (disch := omega) only [↓ce_36 hB', rf_36 hB', ↓nn_38, ↓nn_40, ↓nn_45, ↓nn_50, ↓nn_52, ↓nn_53, ↓nn_54, ↓nn_56, ↓nn_58, ↓nn_64, ↓nn_67, ↓nn_68, ↓nn_84, p_bs, p_rq0, p_rq1, p_rz0, p_rz1, p_us, p_un, p_uj, ↓reduceIte, h18', t_b0]
theorem s_act (h' : v_V A' I' X') (hzt' : A'.2.1 = true) (op' : Nat) (hop' : op' < 6) (a' b' : Int32) : ∃ L' J', t_LM L' X' I' ∧ F_X11_act 36 (Int32.ofNat op') a' b' (I', X') = some (t_b (t_can A'.1 (I' 54) op' a' b'), (J', X')) ∧ (t_can A'.1 (I' 54) op' a' b' = false → t_SC X' I' J') ∧ (t_can A'.1 (I' 54) op' a' b' = true → t_AC X' A'.1 L' A'.2.2.1 op' a' b' I' J') := by
  have hsc' := v_scN h'
  obtain ⟨L', hLC', hLM'⟩ := v_law h'
  obtain ⟨hB', hS', hT', hH', hN', hP', hG', hC', hL', hLH', hW', hD', hF'⟩ := id h'
  obtain ⟨H', hz', D', lc', lwf', wc', wkf'⟩ := A'
  try simp only at *
  subst hzt'
  have h18' := hH'.1
  have hHW' := hH'.2.2.2.1 rfl
  obtain ⟨w1', w2', w3', w4', w5', w6'⟩ := hN'.1 rfl
  have hscN : p_sc X' = 65 ∨ 111 ≤ p_sc X' := p_scN hLC'
  obtain ⟨J1', a1', a2', a3'⟩ := s_copyFrom (I' := I') (k1' := 55) (k2' := 53) hB' (by omega) (by omega)
  have e54' : J1' 54 = I' 54 := a2' 54 (by decide)
  obtain ⟨J2', b1', b2', b3', b4', b5'⟩ := s_carry (I' := J1') (k' := 53) (L' := L') hB' (t_HIk hH'.2.1 (fun c' h1' h2' => a2' c' (by omega))) hHW' (by omega) (by rw [e54']; exact w1') (t_LCk hLC' (fun c' h1' h2' => a2' c' (by omega))) op' hop' a' b'
  simp only [e54', Nat.reduceAdd] at b1' b2' b3' b4' b5'
  refine ⟨L', ?_⟩
  cases hcan : t_can H' (I' 54) op' a' b'
  · have e2' := b4' hcan
    subst e2'
    refine ⟨J2', hLM', ?_, fun _ => ?_, (fun h' => by cases h')⟩
    · unfold F_X11_act
      simp (disch := omega) only [↓ce_36 hB', rf_36 hB', ↓ce_53 hB', rf_53 hB', ↓ce_55 hB', rf_55 hB', ↓ce_66 hB', rf_66 hB', ↓nn_38, ↓nn_40, ↓nn_45, ↓nn_50, ↓nn_52, ↓nn_53, ↓nn_54, ↓nn_55, ↓nn_56, ↓nn_57, ↓nn_58, ↓nn_64, ↓nn_67, ↓nn_68, ↓nn_84, p_bs, p_rq0, p_rq1, p_rz0, p_rz1, p_us, p_un, p_uj, ↓reduceIte, h18', t_b0, a1', b1', hcan, Bool.true_eq_false]
      rfl
    · have k' : ∀ c', c' ≠ 56 → J2' c' = I' c' := a2'
      exact ⟨fun c' h1' h2' => k' c' (by omega), by rw [k' 37 (by decide)], fun j' _ _ _ _ _ _ _ => by rw [k' 87 (by decide)], fun j' _ => by rw [k' 98 (by decide)], fun j' _ => by rw [k' 99 (by decide)], fun c' h1' h2' h3' h4' => k' c' (by omega)⟩
  · have b3'' := b3' hcan
    obtain ⟨k', m', dd', q1', q2', q3', q4', q5', q6', q7', q8'⟩ := hP'
    have k2' : ∀ c', c' ≠ 54 → c' ≠ 56 → c' ≠ 63 → c' ≠ 64 → c' ≠ 65 → c' ≠ p_sc X' → J2' c' = I' c' := fun c' h1' h2' h3' h4' h5' h6' => by rw [b2' c' h3' h4' h5' h6' h1']; exact a2' c' h2'
    have e57' : J2' 57 = I' 57 := k2' 57 (by decide) (by decide) (by decide) (by decide) (by decide) (by omega)
    have e56' : J2' 56 = J1' 56 := b2' 56 (by decide) (by decide) (by decide) (by omega) (by decide)
    have e58' : J2' 58 = I' 58 := k2' 58 (by decide) (by decide) (by decide) (by decide) (by decide) (by omega)
    have e59' : J2' 59 = I' 59 := k2' 59 (by decide) (by decide) (by decide) (by decide) (by decide) (by omega)
    obtain ⟨J3', c1', c2', c3', c4', c5', c6', c7'⟩ := s_keepAct (I' := J2') (k' := k') (m' := m') hB' q1' q2' (by rw [e57']; exact q3') (by rw [e57']; exact q4')
    have hkm' : ∀ k'' m'', k'' ≤ 40 → m'' < 40 → I' 57 6 = Int32.ofNat k'' → I' 57 5 = Int32.ofNat m'' → k'' = k' ∧ m'' = m' := fun k'' m'' h1' h2' h3' h4' => by
      rw [q3'] at h3'
      rw [q4'] at h4'
      have := p_inj h3' (by omega) (by omega)
      have := p_inj h4' (by omega) (by omega)
      omega
    have base : ∀ J', (∀ c', c' ≠ 59 → J' c' = J3' c') → (∀ x', (op' = 0 → ¬ (D' % 128 * 3 ≤ x' ∧ x' < D' % 128 * 3 + 3)) → J' 59 x' = J3' 59 x') → (op' = 0 → J' 63 10 = t_B (t_fd H' (I' 54)) ∧ ∀ q', q' < 3 → J' 59 (D' % 128 * 3 + q') = t_e3 (t_ds H' (I' 54)) (t_B (t_fd H' (I' 54))) (t_sm (J' 54) 6) q') → t_AC X' H' L' D' op' a' b' I' J' := by
      intro J' j1' j2' j3'
      refine ⟨fun c' h1' h2' h3' h4' h5' h6' h7' h8' h9' => by rw [j1' c' h5', c2' c' h3' h4']; exact k2' c' h1' h2' h6' h7' h8' h9', by rw [j1' 54 (by decide), c2' 54 (by decide) (by decide)]; exact b3'', fun j' hj' => by rw [j1' 56 (by decide), c2' 56 (by decide) (by decide), e56']; exact a3' j' hj', fun j' h1' h2' => by rw [j1' 57 (by decide), c3' j' h1' h2', e57'], fun k'' m'' h1' h2' h3' h4' => ?_, fun x' hx' => by rw [j2' x' hx', c2' 59 (by decide) (by decide), e59'], j3'⟩
      obtain ⟨rfl, rfl⟩ := hkm' k'' m'' h1' h2' h3' h4'
      exact ⟨by rw [j1' 57 (by decide)]; exact c4', by rw [j1' 57 (by decide)]; exact c5', fun x' hx' => by rw [j1' 58 (by decide), c6' x' hx', e58'], fun i' hi' => by rw [j1' 58 (by decide), c7' i' hi', e56']; exact a3' i' hi'⟩
    by_cases e' : op' = 0
    · subst e'
      have hev' := b5' rfl hcan
      obtain ⟨v1', v2', v3', v4', v5', v6', v7', v8', v9'⟩ := hev'
      have hps' := t_psW (L' := L') hHW' w1' w3' (by omega)
      have hJ54' : J3' 54 = t_ps H' L' (I' 54) := by rw [c2' 54 (by decide) (by decide)]; exact b3''
      obtain ⟨J4', d1', d2', d3', d4'⟩ := s_writeLog (I' := J3') (D' := D') hB' (by omega) (by rw [hJ54']; exact hps'.2)
      have e63' : J3' 63 = J2' 63 := c2' 63 (by decide) (by decide)
      refine ⟨J4', hLM', ?_, (fun h' => by cases h'), fun _ => base J4' d2' (fun x' hx' => d3' x' (hx' rfl)) (fun _ => ⟨by rw [d2' 63 (by decide), e63']; exact v7', fun q' hq' => by rw [d4' q' hq', d2' 54 (by decide), e63', v4', v7']⟩)⟩
      unfold F_X11_act
      have b1'' : F_X0_carryOut 66 53 0 a' b' (J1', X') = some (t_b (t_can H' (I' 54) 0 a' b'), (J2', X')) := b1'
      simp (disch := omega) only [↓ce_36 hB', rf_36 hB', ↓ce_53 hB', rf_53 hB', ↓ce_55 hB', rf_55 hB', ↓ce_57 hB', rf_57 hB', ↓ce_63 hB', rf_63 hB', ↓ce_66 hB', rf_66 hB', ↓nn_38, ↓nn_40, ↓nn_45, ↓nn_50, ↓nn_52, ↓nn_53, ↓nn_54, ↓nn_55, ↓nn_56, ↓nn_57, ↓nn_58, ↓nn_59, ↓nn_60, ↓nn_61, ↓nn_62, ↓nn_64, ↓nn_65, ↓nn_66, ↓nn_67, ↓nn_68, ↓nn_84, p_bs, p_rq0, p_rq1, p_rz0, p_rz1, p_us, p_un, p_uj, ↓reduceIte, h18', t_b0, a1', b1'', hcan, Bool.true_eq_false, c1', d1', show Int32.ofNat 0 = 0 from rfl]
      rfl
    · have ho' : (Int32.ofNat op' = 0) = False := by
        apply eq_false
        intro h'
        exact e' (p_inj (show Int32.ofNat op' = Int32.ofNat 0 from h') (by omega) (by omega))
      refine ⟨J3', hLM', ?_, (fun h' => by cases h'), fun _ => base J3' (fun _ _ => rfl) (fun _ _ => rfl) (fun h' => absurd h' e')⟩
      unfold F_X11_act
      simp (disch := omega) only [↓ce_36 hB', rf_36 hB', ↓ce_53 hB', rf_53 hB', ↓ce_55 hB', rf_55 hB', ↓ce_57 hB', rf_57 hB', ↓ce_63 hB', rf_63 hB', ↓ce_66 hB', rf_66 hB', ↓nn_38, ↓nn_40, ↓nn_45, ↓nn_50, ↓nn_52, ↓nn_53, ↓nn_54, ↓nn_55, ↓nn_56, ↓nn_57, ↓nn_58, ↓nn_59, ↓nn_60, ↓nn_61, ↓nn_62, ↓nn_64, ↓nn_65, ↓nn_66, ↓nn_67, ↓nn_68, ↓nn_84, p_bs, p_rq0, p_rq1, p_rz0, p_rz1, p_us, p_un, p_uj, ↓reduceIte, h18', t_b0, a1', b1', hcan, Bool.true_eq_false, c1', ho']
      rfl
/-- behind an act the invariant holds -/
theorem v_act {K' : p_I} (h' : v_V A' I' X') (hzt' : A'.2.1 = true) {D'' : Nat} (h1' : A'.2.2.1 ≤ D'') (h2' : D'' ≤ A'.2.2.1 + 1) (u' : Nat) (k1' : ∀ c', c' ≠ 54 → c' ≠ 56 → c' ≠ 57 → c' ≠ 58 → c' ≠ 59 → c' ≠ 63 → c' ≠ 64 → c' ≠ 65 → c' ≠ p_sc X' → c' ≠ 87 → c' ≠ 91 → c' ≠ 100 → c' ≠ 102 → c' ≠ 103 → K' c' = I' c') (k57' : ∀ j', j' ≠ 5 → j' ≠ 6 → K' 57 j' = I' 57 j') (k87' : ∀ j', ¬ (8 ≤ j' ∧ j' ≤ 14) → j' ≠ 17 → ¬ (37 ≤ j' ∧ j' ≤ 40) → j' ≠ 0 → j' ≠ 42 → K' 87 j' = I' 87 j') (hpu' : ∀ k' m', k' ≤ 40 → m' < 40 → I' 57 6 = Int32.ofNat k' → I' 57 5 = Int32.ofNat m' → I' 87 42 = Int32.ofNat k' → t_PU I' K' k' m') (hlg' : ∀ x' q', q' < 3 → x' < A'.2.2.1 → A'.2.2.1 ≤ x' + 100 → K' 59 ((x' % 128) * 3 + q') = I' 59 ((x' % 128) * 3 + q')) (hR' : v_R A'.1 (K' 54) (K' 100) (K' 59) D'') : v_V (A'.1, A'.2.1, D'', A'.2.2.2) K' (p_T X' u') := by
  have hsc' := v_scN h'
  have hLO' : ∀ i', i' < A'.2.2.2.1 → 109 ≤ A'.2.2.2.2.1 i' := fun i' hi' => by
    obtain ⟨β, n', cls', -, h2', -⟩ := h'.2.2.2.2.2.2.2.2.1.2.2.2 i' hi'
    exact h2'.2.2.2.2.2.1
  have hscN : p_sc X' = 65 ∨ 111 ≤ p_sc X' := by
    rcases hsc' with h' | ⟨i', hi', h'⟩
    · omega
    · have := hLO' i' hi'; omega
  have hR0' : v_R A'.1 (I' 54) (I' 100) (I' 59) A'.2.2.1 := h'.2.2.2.2.1.1 hzt'
  have hPn' := v_push h'.2.2.2.2.2.1 hzt' hR0' hpu' hlg' h1' h2'
  have hex' : ∃ M' : p_I, (∀ c', c' = 54 ∨ c' = 57 ∨ c' = 58 ∨ c' = 59 ∨ c' = 100 ∨ c' = 103 → M' c' = I' c') ∧ M' 87 42 = I' 87 42 ∧ (∀ j', j' ≠ 42 → M' 87 j' = K' 87 j') ∧ (∀ c', ¬ (c' = 54 ∨ c' = 57 ∨ c' = 58 ∨ c' = 59 ∨ c' = 100 ∨ c' = 103) → c' ≠ 87 → M' c' = K' c') := by
    refine ⟨fun c' => if c' = 54 ∨ c' = 57 ∨ c' = 58 ∨ c' = 59 ∨ c' = 100 ∨ c' = 103 then I' c' else if c' = 87 then va_up (K' 87) 42 (I' 87 42) else K' c', fun c' hc' => if_pos hc', rfl, fun j' hj' => ?_, fun c' h1' h2' => ?_⟩
    · show va_up (K' 87) 42 (I' 87 42) j' = _
      exact p_vn _ _ _ _ hj'
    · show (if c' = 54 ∨ c' = 57 ∨ c' = 58 ∨ c' = 59 ∨ c' = 100 ∨ c' = 103 then I' c' else if c' = 87 then va_up (K' 87) 42 (I' 87 42) else K' c') = _
      rw [if_neg h1', if_neg h2']
  obtain ⟨M', m1', m2', m3', m4'⟩ := hex'
  have hSC' : t_SC X' I' M' := by
    refine ⟨fun c' h1' h2' => ?_, by rw [m4' 37 (by omega) (by omega), k1' 37 (by omega) (by omega) (by omega) (by omega) (by omega) (by omega) (by omega) (by omega) (by omega) (by omega) (by omega) (by omega) (by omega) (by omega)], fun j' z1' z2' z3' z4' z5' z6' z7' => ?_, fun j' _ => by rw [m4' 98 (by omega) (by omega), k1' 98 (by omega) (by omega) (by omega) (by omega) (by omega) (by omega) (by omega) (by omega) (by omega) (by omega) (by omega) (by omega) (by omega) (by omega)], fun j' _ => by rw [m4' 99 (by omega) (by omega), k1' 99 (by omega) (by omega) (by omega) (by omega) (by omega) (by omega) (by omega) (by omega) (by omega) (by omega) (by omega) (by omega) (by omega) (by omega)], fun c' z1' z2' z3' z4' => ?_⟩
    · by_cases e' : c' = 54 ∨ c' = 57 ∨ c' = 58 ∨ c' = 59 ∨ c' = 100 ∨ c' = 103
      · exact m1' c' e'
      · rw [m4' c' e' (by omega), k1' c' (by omega) (by omega) (by omega) (by omega) (by omega) (by omega) (by omega) (by omega) (by omega) (by omega) (by omega) (by omega) (by omega) (by omega)]
    · by_cases e' : j' = 42
      · subst e'; exact m2'
      · rw [m3' j' e', k87' j' z1' z2' z3' z4' e']
    · rw [m4' c' (by omega) (by omega), k1' c' (by omega) (by omega) (by omega) (by omega) (by omega) (by omega) (by omega) (by omega) (by omega) (by omega) (by omega) (by omega) (by omega) (by omega)]
  have hv' := v_keep h' hSC' u'
  have n' : ∀ c', ¬ (c' = 54 ∨ c' = 57 ∨ c' = 58 ∨ c' = 59 ∨ c' = 100 ∨ c' = 103) → c' ≠ 87 → K' c' = M' c' := fun c' h1' h2' => (m4' c' h1' h2').symm
  have n87' : ∀ j', j' ≠ 42 → K' 87 j' = M' 87 j' := fun j' hj' => (m3' j' hj').symm
  have n57' : K' 57 4 = M' 57 4 := by rw [m1' 57 (by omega)]; exact k57' 4 (by omega) (by omega)
  obtain ⟨hB', hS', hT', hH', hN', hP', hG', hC', hL', hLH', hW', hD', hF'⟩ := hv'
  refine ⟨hB', fun c' hc' => by rw [n' c' (by omega) (by omega)]; exact hS' c' hc', v_Tk hT' (by rw [n' 37 (by omega) (by omega)]) (n87' _ (by omega)) (n' _ (by omega) (by omega)) (n' _ (by omega) (by omega)), v_Hk hH' (by rw [n' 36 (by omega) (by omega)]) (fun c' h1' h2' => n' c' (by omega) (by omega)) (n' _ (by omega) (by omega)) (n' _ (by omega) (by omega)) (n' _ (by omega) (by omega)) (n87' _ (by omega)) (n87' _ (by omega)), ⟨fun _ => hR', fun h' => ?_⟩, hPn', v_Gk hG' n57' (n' _ (by omega) (by omega)) (n' _ (by omega) (by omega)) (n' _ (by omega) (by omega)) (n87' _ (by omega)), v_Ck hC' (by rw [n' 83 (by omega) (by omega)]) (n' _ (by omega) (by omega)) (n' _ (by omega) (by omega)) (n87' _ (by omega)), v_Lk hL' (by rw [n' 36 (by omega) (by omega)]) (n87' _ (by omega)) (fun c' hc' => n' c' (by omega) (by omega)) (n' _ (by omega) (by omega)) (n' _ (by omega) (by omega)), v_LHk hLH' (by rw [n' 36 (by omega) (by omega)]) (n87' _ (by omega)), v_Wk hW' (by rw [n' 36 (by omega) (by omega)]) (n87' _ (by omega)) (fun c' hc' => n' c' (by omega) (by omega)) (n' _ (by omega) (by omega)) (n' _ (by omega) (by omega)), hD', v_Fk hF' (by rw [n' 36 (by omega) (by omega)]) (n87' _ (by omega))⟩
  exact absurd h' (by simp only [hzt']; decide)
end PA'
