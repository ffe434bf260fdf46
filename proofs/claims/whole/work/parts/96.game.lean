/-! a game, the reference's side -/
section PG'
variable {X' : p_X} {I' : p_I} {H' : t_H} {L' : t_L} {s' : Nat → Int32}
theorem s_gameLp (hB' : p_B X') (hS0' : p_S I') (hM' : t_HM H' I') (hW' : t_HW H') (hS' : t_WF H' s') (hR' : t_RS s' (I' 101)) (h36' : ∃ n', n' ≤ 60 ∧ I' 101 36 = Int32.ofNat n') (hL' : t_LM L' X' I') {D' : Nat} (hD' : s' 0 = Int32.ofNat D') (hD'' : D' ≤ 999) (g' : Nat) (hg' : g' < t_ng H') : ∃ J' u', q_lp (fun z' => B_X12_gameOf_58 87 (Int32.ofNat g') z'.1 z'.2.1 z'.2.2) q_fu ((0 : Int32), (0 : Int32), (I', X')) = some (t_gn H' L' s' g' 8, (J', p_T X' u')) ∧ (∀ c', c' ≠ 87 → c' ≠ 91 → c' ≠ 102 → c' ≠ 101 → J' c' = I' c') ∧ (∀ j', ¬ t_m87 j' → J' 87 j' = I' 87 j') ∧ t_RS (t_yi H' L' s' 8) (J' 101) := by
  have hng' := hW'.2.2.2.1
  obtain ⟨z', h1', J', u', rfl, j1', j2', j3'⟩ := p_lp (fun z' => B_X12_gameOf_58 87 (Int32.ofNat g') z'.1 z'.2.1 z'.2.2) (fun i' z' => ∃ J' u', z' = (t_gn H' L' s' g' i', Int32.ofNat i', (J', p_T X' u')) ∧ (∀ c', c' ≠ 87 → c' ≠ 91 → c' ≠ 102 → c' ≠ 101 → J' c' = I' c') ∧ (∀ j', ¬ t_m87 j' → J' 87 j' = I' 87 j') ∧ t_RS (t_yi H' L' s' i') (J' 101) ∧ ∃ n', n' ≤ 60 ∧ J' 101 36 = Int32.ofNat n')
    (fun z' => ∃ J' u', z' = (t_gn H' L' s' g' 8, (J', p_T X' u')) ∧ (∀ c', c' ≠ 87 → c' ≠ 91 → c' ≠ 102 → c' ≠ 101 → J' c' = I' c') ∧ (∀ j', ¬ t_m87 j' → J' 87 j' = I' 87 j') ∧ t_RS (t_yi H' L' s' 8) (J' 101)) 8 (by
      rintro i' z' hi' ⟨J', u', rfl, j1', j2', j3', m', j4', j5'⟩
      have hB0' := hB'
      have hB' := p_BT hB0' u'
      have hl8' : (Int32.ofNat i' < 8) = (i' < 8) := p_lt i' 8 (by omega) (by decide)
      unfold B_X12_gameOf_58 J_X12_gameOf_119_58 J_X12_gameOf_109_58
      by_cases hlt' : i' < 8
      · left
        have hw' := t_yiW (L' := L') hW' hS' hD' i' (by omega)
        have hMJ' : t_HM H' J' := t_HMk hM' (j1' 92 (by decide) (by decide) (by decide) (by decide)) (j1' 94 (by decide) (by decide) (by decide) (by decide)) (j1' 96 (by decide) (by decide) (by decide) (by decide)) (j2' 26 (by omega)) (j2' 27 (by omega))
        obtain ⟨K', u'', k1', k2', k3', k4', k5'⟩ := s_goDay (I' := J') (s' := t_yi H' L' s' i') (c' := 101) (L' := L') hB' (fun c' hc' => by rw [j1' c' (by omega) (by omega) (by omega) (by omega)]; exact hS0' c' hc') hMJ' hW' hw'.1 (.inr rfl) j3' (t_LMk (t_LMT hL' u') (j2' 34 (by omega)) (j1' 89 (by decide) (by decide) (by decide) (by decide)) (j1' 90 (by decide) (by decide) (by decide) (by decide))) hw'.2 (by omega) j4' j5'
        rw [p_TT] at k1'
        have hth' := s_misThere (I' := J') (s' := t_yi H' L' s' i') (c' := 101) hB' hMJ' hW' hw'.1 (.inr rfl) j3'.1 g' hg'
        have k96' : ∀ j', j' < 4 * t_ng H' → K' 96 j' = t_hg H' j' := fun j' hj' => by rw [k2' 96 (by decide) (by decide) (by decide) (by decide)]; exact hMJ'.2.2.1 j' hj'
        have kp' : K' 96 (4 * g' + 3) = t_hg H' (g' * 4 + 3) := by rw [k96' _ (by omega), Nat.mul_comm]
        have etp' : t_tp H' (t_yi H' L' s' i') g' = t_th H' (t_yi H' L' s' i') g' := by unfold t_tp; simp [hg']
        have kf' : ∀ c', c' ≠ 87 → c' ≠ 91 → c' ≠ 102 → c' ≠ 101 → K' c' = I' c' := fun c' h1' h2' h3' h4' => by rw [k2' c' h1' h2' h3' h4']; exact j1' c' h1' h2' h3' h4'
        have kg' : ∀ j', ¬ t_m87 j' → K' 87 j' = I' 87 j' := fun j' hj' => by rw [k3' j' (by omega) (by omega) (by omega)]; exact j2' j' hj'
        cases ht' : t_th H' (t_yi H' L' s' i') g'
        · have e' : t_gn H' L' s' g' (i' + 1) = t_gn H' L' s' g' i' := by
            show t_gn H' L' s' g' i' + t_g1 H' (t_yi H' L' s' i') g' = _
            unfold t_g1
            rw [etp', ht']
            simp
          simp (disch := omega) only [↓ce_87 hB', rf_87 hB', ↓nn_31, ↓nn_33, ↓nn_89, ↓nn_90, ↓nn_91, ↓nn_92, ↓nn_93, ↓nn_94, ↓nn_95, ↓nn_96, ↓nn_97, ↓nn_98, ↓nn_99, ↓nn_100, ↓nn_101, ↓nn_102, ↓nn_103, ↓nn_104, ↓nn_105, ↓nn_106, ↓nn_107, ↓nn_108, p_bs, p_rq0, p_rq1, p_rz0, p_rz1, p_us, p_un, p_uj, ↓reduceIte, hl8', hlt', hth', ht', t_b0, k1', p_ar]
          exact ⟨_, rfl, True.intro, K', u'', by rw [e'], kf', kg', k4', t_LU36 k5'⟩
        · have hhas : F_X12_has (t_B (t_fd H' (t_yi H' L' s' i'))) (Int32.ofNat g') (K', p_T X' u'') = some (t_b (t_fd H' (t_yi H' L' s' i') g')) := s_hasB _ g' (by omega) _
          have e' : t_gn H' L' s' g' (i' + 1) = t_gn H' L' s' g' i' + ((if t_fd H' (t_yi H' L' s' i') g' = true then 2 else 0) - t_hg H' (g' * 4 + 3)) := by
            show t_gn H' L' s' g' i' + t_g1 H' (t_yi H' L' s' i') g' = _
            unfold t_g1
            rw [etp', ht']
            simp
          have hB1' := p_BT hB0' u''
          have hpay : F_X12_pays 87 (Int32.ofNat g') (K', p_T X' u'') = some (t_hg H' (g' * 4 + 3)) := by
            have hB' := hB1'
            unfold F_X12_pays
            simp (disch := omega) only [↓ce_87 hB', rf_87 hB', ↓ce_96 hB', ↓nn_31, ↓nn_33, ↓nn_89, ↓nn_90, ↓nn_91, ↓nn_92, ↓nn_93, ↓nn_94, ↓nn_95, ↓nn_96, ↓nn_97, ↓nn_98, ↓nn_99, ↓nn_100, ↓nn_101, ↓nn_102, ↓nn_103, ↓nn_104, ↓nn_105, ↓nn_106, ↓nn_107, ↓nn_108, p_bs, p_rq0, p_rq1, p_rz0, p_rz1, p_us, p_un, p_uj, ↓reduceIte, p_ar, kp']
          simp (disch := omega) only [↓ce_87 hB', rf_87 hB', ↓nn_31, ↓nn_33, ↓nn_89, ↓nn_90, ↓nn_91, ↓nn_92, ↓nn_93, ↓nn_94, ↓nn_95, ↓nn_96, ↓nn_97, ↓nn_98, ↓nn_99, ↓nn_100, ↓nn_101, ↓nn_102, ↓nn_103, ↓nn_104, ↓nn_105, ↓nn_106, ↓nn_107, ↓nn_108, p_bs, p_rq0, p_rq1, p_rz0, p_rz1, p_us, p_un, p_uj, ↓reduceIte, hl8', hlt', hth', ht', t_b0, Bool.true_eq_false, k1', hhas]
          have hB' := hB1'
          cases hf' : t_fd H' (t_yi H' L' s' i') g'
          · simp (disch := omega) only [↓ce_87 hB', rf_87 hB', ↓nn_31, ↓nn_33, ↓nn_89, ↓nn_90, ↓nn_91, ↓nn_92, ↓nn_93, ↓nn_94, ↓nn_95, ↓nn_96, ↓nn_97, ↓nn_98, ↓nn_99, ↓nn_100, ↓nn_101, ↓nn_102, ↓nn_103, ↓nn_104, ↓nn_105, ↓nn_106, ↓nn_107, ↓nn_108, p_bs, p_rq0, p_rq1, p_rz0, p_rz1, p_us, p_un, p_uj, ↓reduceIte, hpay, p_ar]
            exact ⟨_, rfl, True.intro, K', u'', by rw [e', hf']; simp, kf', kg', k4', t_LU36 k5'⟩
          · simp (disch := omega) only [↓ce_87 hB', rf_87 hB', ↓nn_31, ↓nn_33, ↓nn_89, ↓nn_90, ↓nn_91, ↓nn_92, ↓nn_93, ↓nn_94, ↓nn_95, ↓nn_96, ↓nn_97, ↓nn_98, ↓nn_99, ↓nn_100, ↓nn_101, ↓nn_102, ↓nn_103, ↓nn_104, ↓nn_105, ↓nn_106, ↓nn_107, ↓nn_108, p_bs, p_rq0, p_rq1, p_rz0, p_rz1, p_us, p_un, p_uj, ↓reduceIte, hpay, p_ar, Bool.true_eq_false]
            exact ⟨_, rfl, True.intro, K', u'', by rw [e', hf']; simp, kf', kg', k4', t_LU36 k5'⟩
      · right
        have hi'' : i' = 8 := by omega
        subst hi''
        simp (disch := omega) only [p_bs, p_rq0, p_rq1, p_rz0, p_rz1, p_us, p_un, p_uj, ↓reduceIte, hl8', Nat.lt_irrefl]
        exact ⟨_, rfl, J', u', rfl, j1', j2', j3'⟩) 8 0 q_fu (0, 0, (I', X')) (by omega) (by unfold q_fu; omega) ⟨I', X'.2.1 87 5, by rw [p_Ts]; rfl, fun _ _ _ _ _ => rfl, fun _ _ => rfl, hR', h36'⟩
  exact ⟨J', u', h1', j1', j2', j3'⟩
theorem t_grR {w' : Nat → Int32} (h' : t_RS s' w') {a' b' : Nat} (ha' : a' < 6) (hb' : b' < 6) (hab' : a' ≠ b') (x' y' : Nat) : t_RS (t_gr s' a' b' x' y') (va_up (va_up w' (4 * a') (w' (4 * a') + Int32.ofNat x')) (4 * b') (w' (4 * b') + Int32.ofNat y')) := by
  have e1' := (h'.1.1 a' ha').1
  have e2' := (h'.1.1 b' hb').1
  rw [e1', e2']
  exact t_RSu13 (t_RSu13 h' _ a' ha') _ b' hb'
theorem s_gameOf (hB' : p_B X') (hS0' : p_S I') (hM' : t_HM H' I') (hW' : t_HW H') (hS' : t_WF H' s') (hR' : t_RS s' (I' 100)) (h99' : ∀ g', g' < 6 → ∃ n', s' (13 + g') = Int32.ofNat n' ∧ n' ≤ 99) (hL' : t_LM L' X' I') {D' : Nat} (hD' : s' 0 = Int32.ofNat D') (hD'' : D' ≤ 999) {a' b' x' y' : Nat} (ha' : a' < t_ng H') (hb' : b' < t_ng H') (hab' : a' ≠ b') (hx' : x' ≤ 3) (hy' : y' ≤ 3) (k' : Nat) (hk' : k' < 2) : ∃ J' u', F_X12_gameOf 87 (Int32.ofNat a') (Int32.ofNat b') (Int32.ofNat x') (Int32.ofNat y') (Int32.ofNat k') (I', X') = some (t_gm H' L' s' a' b' x' y' (if k' = 0 then a' else b'), (J', p_T X' u')) ∧ (∀ c', c' ≠ 87 → c' ≠ 91 → c' ≠ 102 → c' ≠ 101 → J' c' = I' c') ∧ (∀ j', ¬ t_m87 j' → J' 87 j' = I' 87 j') := by
  have hng' := hW'.2.2.2.1
  obtain ⟨J1', a1', a2', a3', a4'⟩ := s_mcopy (I' := I') hB'
  have hI2' : ∃ I2' : p_I, I2' = q_u2 (q_u2 J1' 101 (4 * a') (J1' 101 (4 * a') + Int32.ofNat x')) 101 (4 * b') (J1' 101 (4 * b') + Int32.ofNat y') := ⟨_, rfl⟩
  obtain ⟨I2', hI2'⟩ := hI2'
  have f2' : ∀ c', c' ≠ 101 → I2' c' = I' c' := fun c' z' => by rw [hI2', p_uc _ _ _ _ _ z', p_uc _ _ _ _ _ z']; exact a2' c' z'
  have r101 : I2' 101 = va_up (va_up (J1' 101) (4 * a') (J1' 101 (4 * a') + Int32.ofNat x')) (4 * b') (J1' 101 (4 * b') + Int32.ofNat y') := by rw [hI2', p_ur, p_ur]
  have hR2' : t_RS (t_gr s' a' b' x' y') (I2' 101) := by rw [r101]; exact t_grR (t_RSk hR' a3') (by omega) (by omega) hab' x' y'
  have hne' : ∀ v', q_u2 J1' 101 (4 * a') v' 101 (4 * b') = J1' 101 (4 * b') := fun v' => p_uj _ _ _ _ _ (by omega)
  have key' : ∀ g', g' < t_ng H' → ∃ J' u', J_X12_gameOf_50 87 (Int32.ofNat g') (I2', X') = some (t_gm H' L' s' a' b' x' y' g', (J', p_T X' u')) ∧ (∀ c', c' ≠ 87 → c' ≠ 91 → c' ≠ 102 → c' ≠ 101 → J' c' = I' c') ∧ (∀ j', ¬ t_m87 j' → J' 87 j' = I' 87 j') := by
    intro g' hg'
    obtain ⟨J', u', b1', b2', b3', b4'⟩ := s_gameLp (I' := I2') (L' := L') hB' (fun c' hc' => by rw [f2' c' (by omega)]; exact hS0' c' hc') (t_HMk hM' (f2' 92 (by decide)) (f2' 94 (by decide)) (f2' 96 (by decide)) (by rw [f2' 87 (by decide)]) (by rw [f2' 87 (by decide)])) hW' (t_grW hS' h99' (by omega) (by omega) hab' hx' hy') hR2' ⟨0, by omega, by rw [r101, p_vn _ _ _ _ (by omega), p_vn _ _ _ _ (by omega)]; exact a4'⟩ (t_LMk hL' (by rw [f2' 87 (by decide)]) (f2' 89 (by decide)) (f2' 90 (by decide))) (D' := D') (by unfold t_gr; rw [p_vn _ _ _ _ (by omega), p_vn _ _ _ _ (by omega)]; exact hD') hD'' g' hg'
    have e1' : J' 101 (4 * g' + 2) = t_yi H' L' (t_gr s' a' b' x' y') 8 (25 + g') := (b4'.1.1 g' (by omega)).2.2.1
    have e2' : J' 100 (4 * g' + 2) = s' (25 + g') := by rw [b2' 100 (by decide) (by decide) (by decide) (by decide), f2' 100 (by decide)]; exact (hR'.1.1 g' (by omega)).2.2.1
    refine ⟨J', u', ?_, fun c' z1' z2' z3' z4' => by rw [b2' c' z1' z2' z3' z4']; exact f2' c' z4', fun j' hj' => by rw [b3' j' hj', f2' 87 (by decide)]⟩
    unfold J_X12_gameOf_50
    rw [b1']
    have hB' := p_BT hB' u'
    simp (disch := omega) only [↓ce_87 hB', rf_87 hB', ↓ce_101 hB', ↓ce_100 hB', ↓nn_31, ↓nn_33, ↓nn_89, ↓nn_90, ↓nn_91, ↓nn_92, ↓nn_93, ↓nn_94, ↓nn_95, ↓nn_96, ↓nn_97, ↓nn_98, ↓nn_99, ↓nn_100, ↓nn_101, ↓nn_102, ↓nn_103, ↓nn_104, ↓nn_105, ↓nn_106, ↓nn_107, ↓nn_108, p_bs, p_rq0, p_rq1, p_rz0, p_rz1, p_us, p_un, p_uj, ↓reduceIte, p_ar, e1', e2']
    unfold t_gm
    rw [Int32.sub_eq_add_neg, Int32.sub_eq_add_neg, Int32.add_assoc]
  unfold F_X12_gameOf
  have l1' : (Int32.ofNat k' = 0) = (k' = 0) := by
    apply propext
    constructor
    · intro h'; exact p_inj (show Int32.ofNat k' = Int32.ofNat 0 from h') (by omega) (by omega)
    · intro h'; rw [h']; rfl
  by_cases hk0' : k' = 0
  · obtain ⟨J', u', c1', c2', c3'⟩ := key' a' ha'
    rw [hI2'] at c1'
    refine ⟨J', u', ?_, c2', c3'⟩
    simp (disch := omega) only [↓ce_87 hB', rf_87 hB', ↓ce_101 hB', ↓nn_31, ↓nn_33, ↓nn_89, ↓nn_90, ↓nn_91, ↓nn_92, ↓nn_93, ↓nn_94, ↓nn_95, ↓nn_96, ↓nn_97, ↓nn_98, ↓nn_99, ↓nn_100, ↓nn_101, ↓nn_102, ↓nn_103, ↓nn_104, ↓nn_105, ↓nn_106, ↓nn_107, ↓nn_108, p_bs, p_rq0, p_rq1, p_rz0, p_rz1, p_us, p_un, p_uj, ↓reduceIte, a1', p_ar, Nat.add_zero, hne', hk0', c1', show (Int32.ofNat 0 = 0) = True from by decide]
  · obtain ⟨J', u', c1', c2', c3'⟩ := key' b' hb'
    rw [hI2'] at c1'
    refine ⟨J', u', ?_, c2', c3'⟩
    simp (disch := omega) only [↓ce_87 hB', rf_87 hB', ↓ce_101 hB', ↓nn_31, ↓nn_33, ↓nn_89, ↓nn_90, ↓nn_91, ↓nn_92, ↓nn_93, ↓nn_94, ↓nn_95, ↓nn_96, ↓nn_97, ↓nn_98, ↓nn_99, ↓nn_100, ↓nn_101, ↓nn_102, ↓nn_103, ↓nn_104, ↓nn_105, ↓nn_106, ↓nn_107, ↓nn_108, p_bs, p_rq0, p_rq1, p_rz0, p_rz1, p_us, p_un, p_uj, ↓reduceIte, a1', p_ar, Nat.add_zero, hne', l1', hk0', c1']
end PG'
