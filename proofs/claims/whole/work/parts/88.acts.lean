/-! the six acts -/
section PR'
variable {X' : p_X} {I' : p_I} {H' : t_H} {s' : Nat → Int32} {c' : Nat}
theorem s_canChoose (hB' : p_B X') (hM' : t_HM H' I') (hc' : t_RK c') (hR' : t_RS s' (I' c')) (a' b' : Int32) : F_X12_canChoose 87 c' a' (I', X') = some (t_b (t_can H' s' 1 a' b')) := by
  have hd' := s_isDish hB' hM' a'
  have r34' : I' c' 34 = s' 3 + 1 := hR'.1.2.2.1
  have he' : (s' 3 + 1 = a' + 1) = (s' 3 = a') := by
    apply propext
    constructor
    · intro h'
      have h2' : s' 3 + 1 - 1 = a' + 1 - 1 := by rw [h']
      rw [Int32.add_sub_cancel, Int32.add_sub_cancel] at h2'
      exact h2'
    · intro h'; rw [h']
  unfold F_X12_canChoose
  simp (disch := omega) only [↓ce_87 hB', rf_87 hB', ↓nn_31, ↓nn_33, ↓nn_89, ↓nn_90, ↓nn_91, ↓nn_92, ↓nn_93, ↓nn_94, ↓nn_95, ↓nn_96, ↓nn_97, ↓nn_98, ↓nn_99, ↓nn_100, ↓nn_101, ↓nn_102, ↓nn_103, ↓nn_104, ↓nn_105, ↓nn_106, ↓nn_107, ↓nn_108, p_bs, p_rq0, p_rq1, p_rz0, p_rz1, p_us, p_un, p_uj, ↓reduceIte, p_mr hc' hB', hd', r34', he', t_b0]
  unfold t_can
  cases t_inr a' (t_nd H') <;> by_cases h' : s' 3 = a' <;> simp [h', t_b]
theorem s_canBeIll (hB' : p_B X') (hc' : t_RK c') (hR' : t_RS s' (I' c')) (a' b' : Int32) : F_X12_canBeIll c' (I', X') = some (t_b (t_can H' s' 2 a' b')) := by
  have r32' : I' c' 32 = s' 1 := hR'.1.2.1
  unfold F_X12_canBeIll
  simp (disch := omega) only [p_bs, p_rq0, p_rq1, p_rz0, p_rz1, p_us, p_un, p_uj, ↓reduceIte, p_mr hc' hB', r32']
  unfold t_can
  by_cases h' : s' 1 < 3 <;> simp [h', t_b]
theorem s_canMakeUp (hB' : p_B X') (hc' : t_RK c') (hR' : t_RS s' (I' c')) (a' b' : Int32) : F_X12_canMakeUp c' (I', X') = some (t_b (t_can H' s' 3 a' b')) := by
  have r32' : I' c' 32 = s' 1 := hR'.1.2.1
  have r33' : I' c' 33 = s' 2 := hR'.2.2
  unfold F_X12_canMakeUp
  simp (disch := omega) only [p_bs, p_rq0, p_rq1, p_rz0, p_rz1, p_us, p_un, p_uj, ↓reduceIte, p_mr hc' hB', r32', r33']
  unfold t_can
  by_cases h' : 0 < s' 1 <;> by_cases h2' : s' 2 < 5 <;> simp [h', h2', t_b]
theorem s_canStay (hB' : p_B X') (hM' : t_HM H' I') (hng' : t_ng H' ≤ 6) (hc' : t_RK c') (hR' : t_RS s' (I' c')) (a' b' : Int32) : F_X12_canStay 87 c' a' b' (I', X') = some (t_b (t_can H' s' 4 a' b')) := by
  have hd' := s_isGuest hB' hM' a'
  have hin' : F_X12_isIn b'.toInt64 1 9 (I', X') = some (t_b (!decide (b' < 1) && !decide (9 < b'))) := by
    have := s_isIn3 b' 1 9 (I', X')
    rw [show (!decide (b' < 1) && !decide (9 < b')) = (decide ((1 : Int32) ≤ b') && decide (b' ≤ 9)) from ?_]
    · exact this
    · by_cases h1' : b' < 1 <;> by_cases h2' : 9 < b' <;> simp [h1', h2', Int32.not_lt.symm, Int32.not_le.symm]
  unfold F_X12_canStay
  simp (disch := omega) only [↓ce_87 hB', rf_87 hB', ↓nn_31, ↓nn_33, ↓nn_89, ↓nn_90, ↓nn_91, ↓nn_92, ↓nn_93, ↓nn_94, ↓nn_95, ↓nn_96, ↓nn_97, ↓nn_98, ↓nn_99, ↓nn_100, ↓nn_101, ↓nn_102, ↓nn_103, ↓nn_104, ↓nn_105, ↓nn_106, ↓nn_107, ↓nn_108, p_bs, p_rq0, p_rq1, p_rz0, p_rz1, p_us, p_un, p_uj, ↓reduceIte, hd', t_b0]
  cases hr' : t_inr a' (t_ng H')
  · simp [t_can, hr', t_b]
  · obtain ⟨g', hg', rfl⟩ := t_inrE (by omega) hr'
    obtain ⟨q1', q2', q3', q4'⟩ := hR'.1.1 g' (by omega)
    have hn' : (Int32.ofNat g').toNatClampNeg = g' := p_nat g' (by omega)
    simp (disch := omega) only [p_bs, p_rq0, p_rq1, p_rz0, p_rz1, p_us, p_un, p_uj, ↓reduceIte, p_mr hc' hB', p_ar, q1', q4', Nat.add_zero, t_b0, hin', Bool.true_eq_false]
    unfold t_can
    rw [hn', hr']
    cases t_bit (s' 4) g' <;> by_cases h1' : b' < 1 <;> by_cases h2' : 9 < b' <;> by_cases h3' : 99 < s' (13 + g') + b' <;> simp [h1', h2', h3', t_b]
end PR'
def t_RM (I' J' : p_I) : Prop := (∀ c', c' ≠ 87 → c' ≠ 103 → J' c' = I' c') ∧ (∀ j', j' ≠ 42 → J' 87 j' = I' 87 j') ∧ ∀ k', k' ≤ 40 → I' 87 42 = Int32.ofNat k' → J' 87 42 = Int32.ofNat (min (k' + 1) 40) ∧ (k' < 40 → ∀ x', x' < 217 * k' → J' 103 x' = I' 103 x') ∧ (k' = 40 → ∀ x', x' < 217 * 39 → J' 103 x' = I' 103 (x' + 217)) ∧ (∀ i', i' < 217 → J' 103 (217 * (min k' 39) + i') = I' 100 i')
section PA'
variable {A' : v_A} {X' : p_X} {I' : p_I}
theorem s_rem {I1' : p_I} (h' : v_V A' I' X') (h42' : I1' 87 42 = I' 87 42) : ∃ J', F_X12_remember 87 (I1', X') = some ((), (J', X')) ∧ t_RM I1' J' := by
  obtain ⟨hB', hS', hT', hH', hN', hP', -⟩ := h'
  obtain ⟨k', m', dd', q1', q2', q3', q4', q5', q6'⟩ := hP'
  obtain ⟨J', j1', j2', j3', j4', j5', j6', j7'⟩ := s_remember (I' := I1') hB' q1' (by rw [h42']; exact q5')
  refine ⟨J', j1', j2', j3', fun k'' h1' h2' => ?_⟩
  have : k' = k'' := p_inj (by rw [← h2', h42', q5']) (by omega) (by omega)
  subst this
  exact ⟨j4', j5', j6', j7'⟩
theorem v_pu {H' : t_H} {L' : t_L} {I1' I2' K' : p_I} {op' D' : Nat} {a' b' : Int32} (hac' : t_AC X' H' L' D' op' a' b' I' I1') (hrm' : t_RM (q_u2 I1' 87 0 0) I2') (hsc' : p_sc X' = 65 ∨ 111 ≤ p_sc X') (e57' : K' 57 = I2' 57) (e58' : K' 58 = I2' 58) (e103 : K' 103 = I2' 103) (e42' : K' 87 42 = I2' 87 42) (k' m' : Nat) (h1' : k' ≤ 40) (h2' : m' < 40) (h3' : I' 57 6 = Int32.ofNat k') (h4' : I' 57 5 = Int32.ofNat m') (h5' : I' 87 42 = Int32.ofNat k') : t_PU I' K' k' m' := by
  obtain ⟨a1', a2', a3', a4', a5', a6', a7'⟩ := hac'
  obtain ⟨b1', b2', b3'⟩ := hrm'
  have f' : ∀ c', c' ≠ 54 → c' ≠ 56 → c' ≠ 57 → c' ≠ 58 → c' ≠ 59 → c' ≠ 63 → c' ≠ 64 → c' < 109 → c' ≠ 65 → I1' c' = I' c' := fun c' z1' z2' z3' z4' z5' z6' z7' z8' z9' => a1' c' z1' z2' z3' z4' z5' z6' z7' z9' (by omega)
  have g87' : I1' 87 = I' 87 := f' 87 (by decide) (by decide) (by decide) (by decide) (by decide) (by decide) (by decide) (by decide) (by decide)
  have g100 : I1' 100 = I' 100 := f' 100 (by decide) (by decide) (by decide) (by decide) (by decide) (by decide) (by decide) (by decide) (by decide)
  have g103 : I1' 103 = I' 103 := f' 103 (by decide) (by decide) (by decide) (by decide) (by decide) (by decide) (by decide) (by decide) (by decide)
  obtain ⟨c1', c2', c3', c4'⟩ := b3' k' h1' (by rw [p_uj _ _ _ _ _ (by decide), g87']; exact h5')
  rw [p_uc _ _ _ _ _ (by decide), g103] at c2' c3'
  rw [p_uc _ _ _ _ _ (by decide), g100] at c4'
  obtain ⟨d1', d2', d3', d4'⟩ := a5' k' m' h1' h2' h3' h4'
  have f57' : I2' 57 = I1' 57 := by rw [b1' 57 (by decide) (by decide), p_uc _ _ _ _ _ (by decide)]
  have f58' : I2' 58 = I1' 58 := by rw [b1' 58 (by decide) (by decide), p_uc _ _ _ _ _ (by decide)]
  exact ⟨by rw [e57', f57']; exact d1', by rw [e57', f57']; exact d2', by rw [e42']; exact c1', by rw [e58', f58']; exact d3', by rw [e58', f58']; exact d4', by rw [e103]; exact c2', by rw [e103]; exact c3', by rw [e103]; exact c4'⟩
theorem v_done (h' : v_V A' I' X') (hzt' : A'.2.1 = true) (op' : Nat) (h1' : 1 ≤ op') (hop' : op' < 6) (a' b' : Int32) (hcan : t_can A'.1 (I' 54) op' a' b' = true) {L' : t_L} {I1' I2' K' : p_I} (hac' : t_AC X' A'.1 L' A'.2.2.1 op' a' b' I' I1') (hrm' : t_RM (q_u2 I1' 87 0 0) I2') (hk' : ∀ c', c' ≠ 100 → K' c' = I2' c') (hk1' : K' 100 = t_dw (I2' 100) op' a' b') : v_V A' K' X' := by
  obtain ⟨L0', hLC', -⟩ := v_law h'
  have hsc' := p_scN hLC'
  have hpu' := fun k' m' => v_pu (K' := K') hac' hrm' hsc' (hk' 57 (by decide)) (hk' 58 (by decide)) (hk' 103 (by decide)) (by rw [hk' 87 (by decide)]) k' m'
  obtain ⟨a1', a2', a3', a4', a5', a6', a7'⟩ := hac'
  obtain ⟨b1', b2', b3'⟩ := hrm'
  have f' : ∀ c', c' ≠ 54 → c' ≠ 56 → c' ≠ 57 → c' ≠ 58 → c' ≠ 59 → c' ≠ 63 → c' ≠ 64 → c' < 109 → c' ≠ 65 → I1' c' = I' c' := fun c' z1' z2' z3' z4' z5' z6' z7' z8' z9' => a1' c' z1' z2' z3' z4' z5' z6' z7' z9' (by omega)
  have g87' : I1' 87 = I' 87 := f' 87 (by decide) (by decide) (by decide) (by decide) (by decide) (by decide) (by decide) (by decide) (by decide)
  have g2' : ∀ c', c' ≠ 87 → c' ≠ 103 → c' ≠ 100 → K' c' = I1' c' := fun c' z1' z2' z3' => by rw [hk' c' z3', b1' c' z1' z2', p_uc _ _ _ _ _ z1']
  have g100 : I2' 100 = I' 100 := by rw [b1' 100 (by decide) (by decide), p_uc _ _ _ _ _ (by decide)]; exact f' 100 (by decide) (by decide) (by decide) (by decide) (by decide) (by decide) (by decide) (by decide) (by decide)
  have g59' : K' 59 = I' 59 := by
    rw [g2' 59 (by decide) (by decide) (by decide)]
    funext x'
    exact a6' x' (fun h' => by omega)
  have hR0' : v_R A'.1 (I' 54) (I' 100) (I' 59) A'.2.2.1 := h'.2.2.2.2.1.1 hzt'
  have hng' := (h'.2.2.2.1.2.2.2.1 hzt').2.2.2.1
  have hv' := v_act (K' := K') h' hzt' (D'' := A'.2.2.1) (Nat.le_refl _) (by omega) (X'.2.1 87 5) (fun c' z1' z2' z3' z4' z5' z6' z7' z8' z9' z10' z11' z12' z13' z14' => by rw [g2' c' z10' z14' z12']; exact a1' c' z1' z2' z3' z4' z5' z6' z7' z8' z9') (fun j' z1' z2' => by rw [g2' 57 (by decide) (by decide) (by decide)]; exact a4' j' z1' z2') (fun j' z1' z2' z3' z4' z5' => by rw [hk' 87 (by decide), b2' j' z5', p_uj _ _ _ _ _ z4', g87']) hpu' (fun x' q' _ _ _ => by rw [g59']) (by
    rw [g59', hk1', g100, g2' 54 (by decide) (by decide) (by decide), a2']
    exact v_Rd hR0' hng' op' h1' hop' a' b' hcan)
  rw [p_Ts] at hv'
  exact hv'
theorem v_doneD (h' : v_V A' I' X') (hzt' : A'.2.1 = true) (a' b' : Int32) (hcan : t_can A'.1 (I' 54) 0 a' b' = true) {L' : t_L} {I1' I2' K' : p_I} {u' : Nat} (hac' : t_AC X' A'.1 L' A'.2.2.1 0 a' b' I' I1') (hrm' : t_RM (q_u2 I1' 87 0 0) I2') (hk' : ∀ c', c' ≠ 87 → c' ≠ 91 → c' ≠ 102 → c' ≠ 100 → K' c' = I2' c') (hk87' : ∀ j', ¬ (8 ≤ j' ∧ j' ≤ 14) → j' ≠ 17 → ¬ (37 ≤ j' ∧ j' ≤ 40) → K' 87 j' = I2' 87 j') (hrs' : t_RS (t_ps A'.1 L' (I' 54)) (K' 100)) (hlu' : t_LU (I2' 100) (K' 100) (t_e3 (t_ds A'.1 (I' 54)) (t_B (t_fd A'.1 (I' 54))) (t_sm (t_ps A'.1 L' (I' 54)) 6))) : v_V (A'.1, A'.2.1, A'.2.2.1 + 1, A'.2.2.2) K' (p_T X' u') := by
  obtain ⟨L0', hLC', -⟩ := v_law h'
  have hsc' := p_scN hLC'
  have hpu' := fun k' m' => v_pu (K' := K') hac' hrm' hsc' (hk' 57 (by decide) (by decide) (by decide) (by decide)) (hk' 58 (by decide) (by decide) (by decide) (by decide)) (hk' 103 (by decide) (by decide) (by decide) (by decide)) (hk87' 42 (by decide) (by decide) (by decide)) k' m'
  obtain ⟨a1', a2', a3', a4', a5', a6', a7'⟩ := hac'
  obtain ⟨b1', b2', b3'⟩ := hrm'
  have f' : ∀ c', c' ≠ 54 → c' ≠ 56 → c' ≠ 57 → c' ≠ 58 → c' ≠ 59 → c' ≠ 63 → c' ≠ 64 → c' < 109 → c' ≠ 65 → I1' c' = I' c' := fun c' z1' z2' z3' z4' z5' z6' z7' z8' z9' => a1' c' z1' z2' z3' z4' z5' z6' z7' z9' (by omega)
  have g87' : I1' 87 = I' 87 := f' 87 (by decide) (by decide) (by decide) (by decide) (by decide) (by decide) (by decide) (by decide) (by decide)
  have g2' : ∀ c', c' ≠ 87 → c' ≠ 91 → c' ≠ 102 → c' ≠ 103 → c' ≠ 100 → K' c' = I1' c' := fun c' z1' z2' z3' z4' z5' => by rw [hk' c' z1' z2' z3' z5', b1' c' z1' z4', p_uc _ _ _ _ _ z1']
  have g100 : I2' 100 = I' 100 := by rw [b1' 100 (by decide) (by decide), p_uc _ _ _ _ _ (by decide)]; exact f' 100 (by decide) (by decide) (by decide) (by decide) (by decide) (by decide) (by decide) (by decide) (by decide)
  rw [g100] at hlu'
  have g59' : K' 59 = I1' 59 := g2' 59 (by decide) (by decide) (by decide) (by decide) (by decide)
  have g54' : K' 54 = t_ps A'.1 L' (I' 54) := by rw [g2' 54 (by decide) (by decide) (by decide) (by decide) (by decide), a2']; rfl
  obtain ⟨w1', w2', w3', w4', w5', w6'⟩ : v_R A'.1 (I' 54) (I' 100) (I' 59) A'.2.2.1 := h'.2.2.2.2.1.1 hzt'
  have hHW' := h'.2.2.2.1.2.2.2.1 hzt'
  have hD' : A'.2.2.1 < 999 := by
    simp only [t_can, decide_eq_true_eq, w3'] at hcan
    rw [show (999 : Int32) = Int32.ofNat 999 from rfl, p_lt _ 999 (by omega) (by omega)] at hcan
    exact hcan
  have hlg' : ∀ x' q', q' < 3 → x' < A'.2.2.1 → A'.2.2.1 ≤ x' + 100 → K' 59 ((x' % 128) * 3 + q') = I' 59 ((x' % 128) * 3 + q') := fun x' q' hq' hx' hx2' => by
    rw [g59']
    exact a6' _ (fun _ => by omega)
  have hps' := t_psW (L' := L') hHW' w1' w3' (by omega)
  exact v_act (K' := K') h' hzt' (D'' := A'.2.2.1 + 1) (by omega) (by omega) u' (fun c' z1' z2' z3' z4' z5' z6' z7' z8' z9' z10' z11' z12' z13' z14' => by rw [g2' c' z10' z11' z13' z14' z12']; exact a1' c' z1' z2' z3' z4' z5' z6' z7' z8' z9') (fun j' z1' z2' => by rw [g2' 57 (by decide) (by decide) (by decide) (by decide) (by decide)]; exact a4' j' z1' z2') (fun j' z1' z2' z3' z4' z5' => by rw [hk87' j' z1' z2' z3', b2' j' z5', p_uj _ _ _ _ _ z4', g87']) hpu' hlg' (by
    rw [g54']
    refine ⟨hps'.1, hrs', hps'.2, by omega, fun g' hg' => by rw [t_ps13 g' hg']; exact w5' g' hg', t_LGn w6' hlu' (fun q' hq' => ?_) hlg'⟩
    rw [g59', (a7' rfl).2 q' hq', a2']
    rfl)
end PA'
